def F_X7_copyFrom (c : Nat) (p1 : Nat) (f : pr_M) : Option (Unit × pr_M) :=
  pr_lt (pr_rw f (c + 1) (va_cpy (f (p1 + 1)) (f (c + 1)) (Int32.toNatClampNeg 0) (Int32.toNatClampNeg 0) (Int32.toNatClampNeg 11))) fun f3 =>
  pr_bd (F_X4_copyFrom (c + 2) (p1 + 2) f3) fun u8 f9 =>
  pr_bd (F_X0_copyFrom (c + 5) (p1 + 5) f9) fun u13 f14 =>
  pr_bd (F_X5_copyFrom (c + 6) (p1 + 6) f14) fun u18 f19 =>
  some ((), f19)
set_option maxHeartbeats 4000000 in
set_option maxRecDepth 100000 in
theorem m_X7_copyFrom {l : Launch} {e : pr_E0} {c : Nat} {p1 : Nat} {f : pr_M} {r : Unit} {g : pr_M} (hk0 : pr_LC[c]? = some (7, 0)) (hk01 : pr_LC[p1]? = some (7, 0)) (h : F_X7_copyFrom c p1 f = some (r, g)) : pr_Met (pr_EC l e) yX7_copyFrom cX7_copyFrom 2 none { frames := 3, cells := 0, slots := 0, locals := 82 } [.ref (pr_ad (pr_EC l e) c), .ref (pr_ad (pr_EC l e) p1)] f none g := by
  rw [F_X7_copyFrom] at h
  refine pr_enter (by decide +kernel) (Nat.le_of_ble_eq_true rfl) (fun Y C Z => ?_)
  replace C : pr_C (pr_EC l e) Y { frames := 3, cells := 0, slots := 0, locals := 82 } cX7_copyFrom RX7 2 _ := C
  show pr_W (pr_EC l e) Y _ 2 f 0 [(0, .ref (pr_ad (pr_EC l e) c)), (1, .ref (pr_ad (pr_EC l e) p1))] []
  refine pr_aload_n C dX7_copyFrom_0 rfl 1 rfl ?_
  refine pr_g_7_0 C hk01 pr_w116 dX7_copyFrom_1 ?_
  have hk1 := pr_kC_7_0 hk01
  refine pr_iconst (v := 0) C dX7_copyFrom_4 (by decide) ?_
  refine pr_aload_n C dX7_copyFrom_5 rfl 0 rfl ?_
  refine pr_g_7_0 C hk0 pr_w116 dX7_copyFrom_6 ?_
  have hk2 := pr_kC_7_0 hk0
  refine pr_iconst (v := 0) C dX7_copyFrom_9 (by decide) ?_
  refine pr_bipush (v := 11) C dX7_copyFrom_10 (by decide) ?_
  refine pr_copy C hk1 hk2 pr_w193 pr_w27 pr_w28 pr_w29 (by decide) (by decide) (by decide) (by decide) (by decide) (Nat.le_of_ble_eq_true rfl) (by decide +kernel) dX7_copyFrom_12 (fun f3 e4 => ?_)
  have h := pr_lt_at h e4
  refine pr_aload_n C dX7_copyFrom_15 rfl 0 rfl ?_
  refine pr_g_7_1 C hk0 pr_w120 dX7_copyFrom_16 ?_
  have hk5 := pr_kC_7_1 hk0
  refine pr_aload_n C dX7_copyFrom_19 rfl 1 rfl ?_
  refine pr_g_7_1 C hk01 pr_w120 dX7_copyFrom_20 ?_
  have hk6 := pr_kC_7_1 hk01
  obtain ⟨u8, f9, hc7, h⟩ := pr_bd_some h
  refine k_X4_copyFrom C pr_w194 hk5 hk6 hc7 (Nat.le_of_ble_eq_true rfl) (Nat.le_of_ble_eq_true rfl) (Nat.le_of_ble_eq_true rfl) dX7_copyFrom_23 ?_
  refine pr_aload_n C dX7_copyFrom_26 rfl 0 rfl ?_
  refine pr_g_7_2 C hk0 pr_w124 dX7_copyFrom_27 ?_
  have hk10 := pr_kC_7_2 hk0
  refine pr_aload_n C dX7_copyFrom_30 rfl 1 rfl ?_
  refine pr_g_7_2 C hk01 pr_w124 dX7_copyFrom_31 ?_
  have hk11 := pr_kC_7_2 hk01
  obtain ⟨u13, f14, hc12, h⟩ := pr_bd_some h
  refine k_X0_copyFrom C pr_w197 hk10 hk11 hc12 (Nat.le_of_ble_eq_true rfl) (Nat.le_of_ble_eq_true rfl) (Nat.le_of_ble_eq_true rfl) dX7_copyFrom_34 ?_
  refine pr_aload_n C dX7_copyFrom_37 rfl 0 rfl ?_
  refine pr_g_7_3 C hk0 pr_w128 dX7_copyFrom_38 ?_
  have hk15 := pr_kC_7_3 hk0
  refine pr_aload_n C dX7_copyFrom_41 rfl 1 rfl ?_
  refine pr_g_7_3 C hk01 pr_w128 dX7_copyFrom_42 ?_
  have hk16 := pr_kC_7_3 hk01
  obtain ⟨u18, f19, hc17, h⟩ := pr_bd_some h
  refine k_X5_copyFrom C pr_w200 hk15 hk16 hc17 (Nat.le_of_ble_eq_true rfl) (Nat.le_of_ble_eq_true rfl) (Nat.le_of_ble_eq_true rfl) dX7_copyFrom_45 ?_
  obtain ⟨rfl, rfl⟩ := pr_inj h
  exact pr_vret C Z dX7_copyFrom_48
theorem k_X7_copyFrom {l : Launch} {e : pr_E0} {Y : pr_Y} {Rm : Room} {cc : ByteArray} {own : String} {nL : Nat} {c0 : Cond} {pc idx : Nat} {lv : List (Nat × Value)} {st : List Value} {c : Nat} {p1 : Nat} {f : pr_M} {r : Unit} {g : pr_M} (C : pr_C (pr_EC l e) Y Rm cc own nL c0) (w1 : Cond.methodLink own idx yX7_copyFrom ∈ pr_AL) (hk0 : pr_LC[c]? = some (7, 0)) (hk01 : pr_LC[p1]? = some (7, 0)) (h : F_X7_copyFrom c p1 f = some (r, g)) (hr1 : 4 ≤ Rm.frames) (hr2 : 103 ≤ Rm.locals) (hcat : (st.map fun v => v.category).sum ≤ 8) (hdg : decode cc pc = .ok (.invokevirtual idx, 3)) (k : pr_W (pr_EC l e) Y Rm nL g (pc + 3) lv (st)) : pr_W (pr_EC l e) Y Rm nL f pc lv (.ref (pr_ad (pr_EC l e) p1) :: .ref (pr_ad (pr_EC l e) c) :: st) :=
  pr_callV (As := [.ref (pr_ad (pr_EC l e) p1)]) (n := 1) C (m_X7_copyFrom hk0 hk01 h) hk0 (by decide) rfl w1 pr_w206 pr_w207 pr_w139 pr_w203 rfl rfl ⟨rfl, by decide +kernel, by decide +kernel, by decide +kernel⟩ rfl ⟨hr1, hr2⟩ rfl hcat hdg k

def L_X3_copyFrom_89 (q0 : Nat) (q1 : Nat) : Nat → Int32 → pr_M → Option ((Unit) × pr_M)
  | 0, _, _ => none
  | n + 1, x2, f =>
    if (f q0 3) ≤ x2 then (
      some ((), f)
    ) else (
      pr_gd (¬ (x2 < 0 ∨ 5 ≤ Int32.toNatClampNeg x2)) <|
      pr_bd (F_X7_copyFrom ((q0 + 1) + 3 + 9 * Int32.toNatClampNeg x2) ((q1 + 1) + 3 + 9 * Int32.toNatClampNeg x2) f) fun u90008 f90009 =>
      L_X3_copyFrom_89 q0 q1 n (x2 + 1) f90009
    )
set_option maxHeartbeats 4000000 in
set_option maxRecDepth 100000 in
theorem l_X3_copyFrom_89 {l : Launch} {e : pr_E0} {Y : pr_Y} {c0 : Cond} {q0 : Nat} {q1 : Nat} {z : Unit} {g : pr_M} (C : pr_C (pr_EC l e) Y { frames := 4, cells := 0, slots := 0, locals := 103 } cX3_copyFrom RX3 3 c0) (hq0 : pr_LC[q0]? = some (3, 0)) (hq1 : pr_LC[q1]? = some (3, 0)) : ∀ (n : Nat) (x2 : Int32) (f : pr_M), L_X3_copyFrom_89 q0 q1 n x2 f = some (z, g) → pr_W (pr_EC l e) Y { frames := 4, cells := 0, slots := 0, locals := 103 } 3 g 118 [] [] → pr_W (pr_EC l e) Y { frames := 4, cells := 0, slots := 0, locals := 103 } 3 f 89 [(0, .ref (pr_ad (pr_EC l e) q0)), (1, .ref (pr_ad (pr_EC l e) q1)), (2, .int x2)] [] := by
  intro n
  induction n with
  | zero =>
    intro x2 f h
    exact absurd h (by simp [L_X3_copyFrom_89])
  | succ n ih =>
    intro x2 f h K
    rw [L_X3_copyFrom_89] at h
    refine pr_iload_n C dX3_copyFrom_89 rfl 2 rfl ?_
    refine pr_aload_n C dX3_copyFrom_90 rfl 0 rfl ?_
    refine pr_g_3_3 C hq0 pr_w176 dX3_copyFrom_91 ?_
    refine pr_icmp_ge (tgt := 118) C dX3_copyFrom_94 (by decide) (fun c90001 => ?_) (fun c90001 => ?_)
    · have h := pr_ifT h c90001
      obtain ⟨rfl, rfl⟩ := pr_inj h
      exact pr_pick [] rfl K
    · have h := pr_ifF h c90001
      refine pr_aload_n C dX3_copyFrom_97 rfl 0 rfl ?_
      refine pr_g_3_0 C hq0 pr_w135 dX3_copyFrom_98 ?_
      have hk90002 := pr_kC_3_0 hq0
      refine pr_iload_n C dX3_copyFrom_101 rfl 2 rfl ?_
      obtain ⟨hg90003, h⟩ := pr_gd_some h
      refine pr_aaload C hk90002 hg90003 dX3_copyFrom_102 ?_
      have hk90004 := pr_kC_u (i := x2) hk90002 hg90003
      refine pr_aload_n C dX3_copyFrom_103 rfl 1 rfl ?_
      refine pr_g_3_0 C hq1 pr_w135 dX3_copyFrom_104 ?_
      have hk90005 := pr_kC_3_0 hq1
      refine pr_iload_n C dX3_copyFrom_107 rfl 2 rfl ?_
      refine pr_aaload C hk90005 hg90003 dX3_copyFrom_108 ?_
      have hk90006 := pr_kC_u (i := x2) hk90005 hg90003
      obtain ⟨u90008, f90009, hc90007, h⟩ := pr_bd_some h
      refine k_X7_copyFrom C pr_w205 hk90004 hk90006 hc90007 (Nat.le_of_ble_eq_true rfl) (Nat.le_of_ble_eq_true rfl) (Nat.le_of_ble_eq_true rfl) dX3_copyFrom_109 ?_
      refine pr_iinc (v := (x2 + 1)) (lv' := [(2, .int (x2 + 1)), (0, .ref (pr_ad (pr_EC l e) q0)), (1, .ref (pr_ad (pr_EC l e) q1))]) C dX3_copyFrom_112 2 rfl rfl (by decide) rfl ?_
      refine pr_goto (tgt := 89) C dX3_copyFrom_115 (by decide) ?_
      exact pr_pick [1, 2, 0] rfl (ih _ _ h K)
def F_X3_copyFrom (c : Nat) (p1 : Nat) (f : pr_M) : Option (Unit × pr_M) :=
  pr_lt (pr_up f c 3 (f p1 3)) fun f1 =>
  pr_lt (pr_up f1 c 4 (f1 p1 4)) fun f3 =>
  pr_lt (pr_up f3 c 5 (f3 p1 5)) fun f5 =>
  pr_lt (pr_up f5 c 6 (f5 p1 6)) fun f7 =>
  pr_lt (pr_up f7 c 7 (f7 p1 7)) fun f9 =>
  pr_lt (pr_up f9 c 8 (f9 p1 8)) fun f11 =>
  pr_lt (pr_up f11 c 9 (f11 p1 9)) fun f13 =>
  pr_lt (pr_rw f13 (c + 2) (va_cpy (f13 (p1 + 2)) (f13 (c + 2)) (Int32.toNatClampNeg 0) (Int32.toNatClampNeg 0) (Int32.toNatClampNeg 128))) fun f17 =>
  pr_lt (pr_rw f17 (c + 3) (va_cpy (f17 (p1 + 3)) (f17 (c + 3)) (Int32.toNatClampNeg 0) (Int32.toNatClampNeg 0) (Int32.toNatClampNeg 6))) fun f21 =>
  pr_bd (L_X3_copyFrom_89 c p1 pr_fuel 0 f21) fun v23 f24 =>
  some ((), f24)
set_option maxHeartbeats 4000000 in
set_option maxRecDepth 100000 in
theorem m_X3_copyFrom {l : Launch} {e : pr_E0} {c : Nat} {p1 : Nat} {f : pr_M} {r : Unit} {g : pr_M} (hk0 : pr_LC[c]? = some (3, 0)) (hk01 : pr_LC[p1]? = some (3, 0)) (h : F_X3_copyFrom c p1 f = some (r, g)) : pr_Met (pr_EC l e) yX3_copyFrom cX3_copyFrom 3 none { frames := 4, cells := 0, slots := 0, locals := 103 } [.ref (pr_ad (pr_EC l e) c), .ref (pr_ad (pr_EC l e) p1)] f none g := by
  rw [F_X3_copyFrom] at h
  refine pr_enter (by decide +kernel) (Nat.le_of_ble_eq_true rfl) (fun Y C Z => ?_)
  replace C : pr_C (pr_EC l e) Y { frames := 4, cells := 0, slots := 0, locals := 103 } cX3_copyFrom RX3 3 _ := C
  show pr_W (pr_EC l e) Y _ 3 f 0 [(0, .ref (pr_ad (pr_EC l e) c)), (1, .ref (pr_ad (pr_EC l e) p1))] []
  refine pr_aload_n C dX3_copyFrom_0 rfl 0 rfl ?_
  refine pr_aload_n C dX3_copyFrom_1 rfl 1 rfl ?_
  refine pr_g_3_3 C hk01 pr_w176 dX3_copyFrom_2 ?_
  refine pr_p_3_3 C hk0 pr_w176 dX3_copyFrom_5 (fun f1 e2 => ?_)
  have h := pr_lt_at h e2
  refine pr_aload_n C dX3_copyFrom_8 rfl 0 rfl ?_
  refine pr_aload_n C dX3_copyFrom_9 rfl 1 rfl ?_
  refine pr_g_3_4 C hk01 pr_w177 dX3_copyFrom_10 ?_
  refine pr_p_3_4 C hk0 pr_w177 dX3_copyFrom_13 (fun f3 e4 => ?_)
  have h := pr_lt_at h e4
  refine pr_aload_n C dX3_copyFrom_16 rfl 0 rfl ?_
  refine pr_aload_n C dX3_copyFrom_17 rfl 1 rfl ?_
  refine pr_g_3_5 C hk01 pr_w178 dX3_copyFrom_18 ?_
  refine pr_p_3_5 C hk0 pr_w178 dX3_copyFrom_21 (fun f5 e6 => ?_)
  have h := pr_lt_at h e6
  refine pr_aload_n C dX3_copyFrom_24 rfl 0 rfl ?_
  refine pr_aload_n C dX3_copyFrom_25 rfl 1 rfl ?_
  refine pr_g_3_6 C hk01 pr_w179 dX3_copyFrom_26 ?_
  refine pr_p_3_6 C hk0 pr_w179 dX3_copyFrom_29 (fun f7 e8 => ?_)
  have h := pr_lt_at h e8
  refine pr_aload_n C dX3_copyFrom_32 rfl 0 rfl ?_
  refine pr_aload_n C dX3_copyFrom_33 rfl 1 rfl ?_
  refine pr_g_3_7 C hk01 pr_w180 dX3_copyFrom_34 ?_
  refine pr_p_3_7 C hk0 pr_w180 dX3_copyFrom_37 (fun f9 e10 => ?_)
  have h := pr_lt_at h e10
  refine pr_aload_n C dX3_copyFrom_40 rfl 0 rfl ?_
  refine pr_aload_n C dX3_copyFrom_41 rfl 1 rfl ?_
  refine pr_g_3_8 C hk01 pr_w181 dX3_copyFrom_42 ?_
  refine pr_p_3_8 C hk0 pr_w181 dX3_copyFrom_45 (fun f11 e12 => ?_)
  have h := pr_lt_at h e12
  refine pr_aload_n C dX3_copyFrom_48 rfl 0 rfl ?_
  refine pr_aload_n C dX3_copyFrom_49 rfl 1 rfl ?_
  refine pr_g_3_9 C hk01 pr_w182 dX3_copyFrom_50 ?_
  refine pr_p_3_9 C hk0 pr_w182 dX3_copyFrom_53 (fun f13 e14 => ?_)
  have h := pr_lt_at h e14
  refine pr_aload_n C dX3_copyFrom_56 rfl 1 rfl ?_
  refine pr_g_3_1 C hk01 pr_w136 dX3_copyFrom_57 ?_
  have hk15 := pr_kC_3_1 hk01
  refine pr_iconst (v := 0) C dX3_copyFrom_60 (by decide) ?_
  refine pr_aload_n C dX3_copyFrom_61 rfl 0 rfl ?_
  refine pr_g_3_1 C hk0 pr_w136 dX3_copyFrom_62 ?_
  have hk16 := pr_kC_3_1 hk0
  refine pr_iconst (v := 0) C dX3_copyFrom_65 (by decide) ?_
  refine pr_sipush (v := 128) C dX3_copyFrom_66 (by decide) ?_
  refine pr_copy C hk15 hk16 pr_w204 pr_w27 pr_w28 pr_w29 (by decide) (by decide) (by decide) (by decide) (by decide) (Nat.le_of_ble_eq_true rfl) (by decide +kernel) dX3_copyFrom_69 (fun f17 e18 => ?_)
  have h := pr_lt_at h e18
  refine pr_aload_n C dX3_copyFrom_72 rfl 1 rfl ?_
  refine pr_g_3_2 C hk01 pr_w137 dX3_copyFrom_73 ?_
  have hk19 := pr_kC_3_2 hk01
  refine pr_iconst (v := 0) C dX3_copyFrom_76 (by decide) ?_
  refine pr_aload_n C dX3_copyFrom_77 rfl 0 rfl ?_
  refine pr_g_3_2 C hk0 pr_w137 dX3_copyFrom_78 ?_
  have hk20 := pr_kC_3_2 hk0
  refine pr_iconst (v := 0) C dX3_copyFrom_81 (by decide) ?_
  refine pr_bipush (v := 6) C dX3_copyFrom_82 (by decide) ?_
  refine pr_copy C hk19 hk20 pr_w204 pr_w27 pr_w28 pr_w29 (by decide) (by decide) (by decide) (by decide) (by decide) (Nat.le_of_ble_eq_true rfl) (by decide +kernel) dX3_copyFrom_84 (fun f21 e22 => ?_)
  have h := pr_lt_at h e22
  refine pr_iconst (v := 0) C dX3_copyFrom_87 (by decide) ?_
  refine pr_istore_n (lv' := [(2, .int 0), (0, .ref (pr_ad (pr_EC l e) c)), (1, .ref (pr_ad (pr_EC l e) p1))]) C dX3_copyFrom_88 rfl (by decide) rfl ?_
  obtain ⟨v23, f24, hv, h⟩ := pr_bd_some h
  refine pr_pick [1, 2, 0] rfl (l_X3_copyFrom_89 C hk0 hk01 pr_fuel _ _ hv ?_)
  clear hv
  obtain ⟨rfl, rfl⟩ := pr_inj h
  exact pr_vret C Z dX3_copyFrom_118
theorem k_X3_copyFrom {l : Launch} {e : pr_E0} {Y : pr_Y} {Rm : Room} {cc : ByteArray} {own : String} {nL : Nat} {c0 : Cond} {pc idx : Nat} {lv : List (Nat × Value)} {st : List Value} {c : Nat} {p1 : Nat} {f : pr_M} {r : Unit} {g : pr_M} (C : pr_C (pr_EC l e) Y Rm cc own nL c0) (w1 : Cond.methodLink own idx yX3_copyFrom ∈ pr_AL) (hk0 : pr_LC[c]? = some (3, 0)) (hk01 : pr_LC[p1]? = some (3, 0)) (h : F_X3_copyFrom c p1 f = some (r, g)) (hr1 : 5 ≤ Rm.frames) (hr2 : 125 ≤ Rm.locals) (hcat : (st.map fun v => v.category).sum ≤ 8) (hdg : decode cc pc = .ok (.invokevirtual idx, 3)) (k : pr_W (pr_EC l e) Y Rm nL g (pc + 3) lv (st)) : pr_W (pr_EC l e) Y Rm nL f pc lv (.ref (pr_ad (pr_EC l e) p1) :: .ref (pr_ad (pr_EC l e) c) :: st) :=
  pr_callV (As := [.ref (pr_ad (pr_EC l e) p1)]) (n := 1) C (m_X3_copyFrom hk0 hk01 h) hk0 (by decide) rfl w1 pr_w323 pr_w324 pr_w214 pr_w208 rfl rfl ⟨rfl, by decide +kernel, by decide +kernel, by decide +kernel⟩ rfl ⟨hr1, hr2⟩ rfl hcat hdg k

def F_X3_isWithin (c : Nat) (p1 : Int32) (p2 : Int32) (f : pr_M) : Option (Int32) :=
  pr_b1 (F_X3_unitAt c p1 f) fun o2 =>
  pr_op o2 (
    some 0
  ) fun q3 =>
  pr_gd (pr_LC[q3]? = some (7, 0)) <|
  if (f (q3 + 6) 4) = 0 then (
    some 0
  ) else (
    if p2 < (if 0 ≤ (f (q3 + 6) 5) then (f (q3 + 6) 5) else 0 - (f (q3 + 6) 5)) then (
      some 0
    ) else (
      some 1
    )
  )
set_option maxHeartbeats 4000000 in
set_option maxRecDepth 100000 in
theorem m_X3_isWithin {l : Launch} {e : pr_E0} {c : Nat} {p1 : Int32} {p2 : Int32} {f : pr_M} {r : Int32} (hk0 : pr_LC[c]? = some (3, 0)) (h : F_X3_isWithin c p1 p2 f = some r) : pr_Met (pr_EC l e) yX3_isWithin cX3_isWithin 4 (some .boolean) { frames := 1, cells := 0, slots := 0, locals := 21 } [.ref (pr_ad (pr_EC l e) c), .int p1, .int p2] f (some (.int r)) f := by
  rw [F_X3_isWithin] at h
  refine pr_enter (by decide +kernel) (Nat.le_of_ble_eq_true rfl) (fun Y C Z => ?_)
  replace C : pr_C (pr_EC l e) Y { frames := 1, cells := 0, slots := 0, locals := 21 } cX3_isWithin RX3 4 _ := C
  show pr_W (pr_EC l e) Y _ 4 f 0 [(0, .ref (pr_ad (pr_EC l e) c)), (1, .int p1), (2, .int p2)] []
  refine pr_aload_n C dX3_isWithin_0 rfl 0 rfl ?_
  refine pr_iload_n C dX3_isWithin_1 rfl 1 rfl ?_
  obtain ⟨o2, hc1, h⟩ := pr_b1_some h
  refine k_X3_unitAt C pr_w211 hk0 hc1 (Nat.le_of_ble_eq_true rfl) (Nat.le_of_ble_eq_true rfl) (Nat.le_of_ble_eq_true rfl) dX3_isWithin_2 ?_
  cases o2 with
  | none =>
    have h := pr_op_n h
    refine pr_astore_nN (lv' := [(3, .null), (0, .ref (pr_ad (pr_EC l e) c)), (1, .int p1), (2, .int p2)]) C dX3_isWithin_5 rfl (by decide) rfl ?_
    refine pr_aload_nN C dX3_isWithin_6 rfl 0 rfl ?_
    refine pr_ifnullN (tgt := 38) C dX3_isWithin_7 (by decide) ?_
    refine pr_iconst (v := 0) C dX3_isWithin_38 (by decide) ?_
    obtain rfl := pr_in1 h
    exact pr_zret C (by decide) Z dX3_isWithin_39
  | some q3 =>
    have h := pr_op_s h
    obtain ⟨hk4, h⟩ := pr_gd_some h
    refine pr_astore_n (lv' := [(3, .ref (pr_ad (pr_EC l e) q3)), (0, .ref (pr_ad (pr_EC l e) c)), (1, .int p1), (2, .int p2)]) C dX3_isWithin_5 rfl (by decide) rfl ?_
    refine pr_aload_n C dX3_isWithin_6 rfl 0 rfl ?_
    refine pr_ifnull C dX3_isWithin_7 ?_
    refine pr_aload_n C dX3_isWithin_10 rfl 0 rfl ?_
    refine pr_gN_7_3 C hk4 pr_nf40 dX3_isWithin_11 ?_
    have hk5 := pr_kC_7_3 hk4
    refine pr_gN_5_4 C hk5 pr_nf26 dX3_isWithin_14 ?_
    refine pr_if_eq (tgt := 38) C dX3_isWithin_17 (by decide) (fun c6 => ?_) (fun c6 => ?_)
    · have h := pr_ifT h c6
      refine pr_iconst (v := 0) C dX3_isWithin_38 (by decide) ?_
      obtain rfl := pr_in1 h
      exact pr_zret C (by decide) Z dX3_isWithin_39
    · have h := pr_ifF h c6
      refine pr_aload_n C dX3_isWithin_20 rfl 0 rfl ?_
      refine pr_gN_7_3 C hk4 pr_nf40 dX3_isWithin_21 ?_
      refine pr_gN_5_5 C hk5 pr_nf28 dX3_isWithin_24 ?_
      refine pr_mabs C pr_w227 pr_w38 pr_w34 pr_w39 (Nat.le_of_ble_eq_true rfl) (Nat.le_of_ble_eq_true rfl) dX3_isWithin_27 ?_
      refine pr_iload_n C dX3_isWithin_30 rfl 3 rfl ?_
      refine pr_icmp_gt (tgt := 38) C dX3_isWithin_31 (by decide) (fun c7 => ?_) (fun c7 => ?_)
      · have h := pr_ifT h c7
        refine pr_iconst (v := 0) C dX3_isWithin_38 (by decide) ?_
        obtain rfl := pr_in1 h
        exact pr_zret C (by decide) Z dX3_isWithin_39
      · have h := pr_ifF h c7
        refine pr_iconst (v := 1) C dX3_isWithin_34 (by decide) ?_
        refine pr_goto (tgt := 39) C dX3_isWithin_35 (by decide) ?_
        obtain rfl := pr_in1 h
        exact pr_zret C (by decide) Z dX3_isWithin_39
theorem k_X3_isWithin {l : Launch} {e : pr_E0} {Y : pr_Y} {Rm : Room} {cc : ByteArray} {own : String} {nL : Nat} {c0 : Cond} {pc idx : Nat} {lv : List (Nat × Value)} {st : List Value} {c : Nat} {p1 : Int32} {p2 : Int32} {f : pr_M} {r : Int32} (C : pr_C (pr_EC l e) Y Rm cc own nL c0) (w1 : Cond.methodLink own idx yX3_isWithin ∈ pr_AL) (hk0 : pr_LC[c]? = some (3, 0)) (h : F_X3_isWithin c p1 p2 f = some r) (hr1 : 2 ≤ Rm.frames) (hr2 : 44 ≤ Rm.locals) (hcat : (st.map fun v => v.category).sum ≤ 8) (hdg : decode cc pc = .ok (.invokevirtual idx, 3)) (k : pr_W (pr_EC l e) Y Rm nL f (pc + 3) lv (.int r :: st)) : pr_W (pr_EC l e) Y Rm nL f pc lv (.int p2 :: .int p1 :: .ref (pr_ad (pr_EC l e) c) :: st) :=
  pr_callV (As := [.int p1, .int p2]) (n := 2) C (m_X3_isWithin hk0 h) hk0 (by decide) rfl w1 pr_w435 pr_w436 pr_w214 pr_w226 rfl rfl ⟨rfl, by decide +kernel, by decide +kernel, by decide +kernel⟩ rfl ⟨hr1, hr2⟩ rfl hcat hdg k

def L_X8_forecast_63 (q0 : Nat) (x1 : Int32) (x2 : Int32) (x3 : Int32) : Nat → Int32 → Int32 → pr_M → Option (Int32 × pr_M)
  | 0, _, _, _ => none
  | n + 1, x5, x6, f =>
    if x3 < x6 then (
      some ((-1000000006), f)
    ) else (
      pr_bd (F_X3_makeRepeat (q0 + 50) f) fun u64004 f64005 =>
      pr_b1 (F_X3_isWithin (q0 + 50) x1 x2 f64005) fun r64007 =>
      pr_b1 (α := Int32) (
        if r64007 = 0 then (
          some 0
        ) else (
          some (x5 + 1)
        )
      ) fun v64008 =>
      if v64008 = 5 then (
        some ((x6 - 5), f64005)
      ) else (
        L_X8_forecast_63 q0 x1 x2 x3 n v64008 (x6 + 1) f64005
      )
    )
set_option maxHeartbeats 4000000 in
set_option maxRecDepth 100000 in
theorem l_X8_forecast_63 {l : Launch} {e : pr_E0} {Y : pr_Y} {c0 : Cond} {q0 : Nat} {x1 : Int32} {x2 : Int32} {x3 : Int32} {z : Int32} {g : pr_M} (C : pr_C (pr_EC l e) Y { frames := 5, cells := 0, slots := 0, locals := 125 } cX8_forecast RX8 7 c0) (hq0 : pr_LC[q0]? = some (8, 0)) : ∀ (n : Nat) (x5 : Int32) (x6 : Int32) (f : pr_M), L_X8_forecast_63 q0 x1 x2 x3 n x5 x6 f = some (z, g) → pr_Z (pr_EC l e) Y (some .int) (some (.int z)) g → pr_W (pr_EC l e) Y { frames := 5, cells := 0, slots := 0, locals := 125 } 7 f 63 [(0, .ref (pr_ad (pr_EC l e) q0)), (1, .int x1), (2, .int x2), (3, .int x3), (5, .int x5), (6, .int x6)] [] := by
  intro n
  induction n with
  | zero =>
    intro x5 x6 f h
    exact absurd h (by simp [L_X8_forecast_63])
  | succ n ih =>
    intro x5 x6 f h Z
    rw [L_X8_forecast_63] at h
    refine pr_iload C dX8_forecast_63 5 rfl ?_
    refine pr_iload_n C dX8_forecast_65 rfl 3 rfl ?_
    refine pr_icmp_gt (tgt := 115) C dX8_forecast_66 (by decide) (fun c64001 => ?_) (fun c64001 => ?_)
    · have h := pr_ifT h c64001
      refine pr_ldc (v := (-1000000006)) C dX8_forecast_115 pr_w409 ?_
      obtain ⟨rfl, rfl⟩ := pr_inj h
      exact pr_iret C Z dX8_forecast_117
    · have h := pr_ifF h c64001
      refine pr_aload_n C dX8_forecast_69 rfl 0 rfl ?_
      refine pr_g_8_1 C hq0 pr_w345 dX8_forecast_70 ?_
      have hk64002 := pr_kC_8_1 hq0
      obtain ⟨u64004, f64005, hc64003, h⟩ := pr_bd_some h
      refine k_X3_makeRepeat C pr_w407 hk64002 hc64003 (Nat.le_of_ble_eq_true rfl) (Nat.le_of_ble_eq_true rfl) (Nat.le_of_ble_eq_true rfl) dX8_forecast_73 ?_
      refine pr_aload_n C dX8_forecast_76 rfl 0 rfl ?_
      refine pr_g_8_1 C hq0 pr_w345 dX8_forecast_77 ?_
      refine pr_iload_n C dX8_forecast_80 rfl 1 rfl ?_
      refine pr_iload_n C dX8_forecast_81 rfl 2 rfl ?_
      obtain ⟨r64007, hc64006, h⟩ := pr_b1_some h
      refine k_X3_isWithin C pr_w434 hk64002 hc64006 (Nat.le_of_ble_eq_true rfl) (Nat.le_of_ble_eq_true rfl) (Nat.le_of_ble_eq_true rfl) dX8_forecast_82 ?_
      obtain ⟨v64008, hv, h⟩ := pr_b1_some h
      have K : pr_W (pr_EC l e) Y { frames := 5, cells := 0, slots := 0, locals := 125 } 7 f64005 96 [(0, .ref (pr_ad (pr_EC l e) q0)), (1, .int x1), (2, .int x2), (3, .int x3), (6, .int x6)] [.int v64008] := by
        refine pr_istore (lv' := [(5, .int v64008), (0, .ref (pr_ad (pr_EC l e) q0)), (1, .int x1), (2, .int x2), (3, .int x3), (6, .int x6)]) C dX8_forecast_96 (by decide) rfl ?_
        refine pr_iload C dX8_forecast_98 0 rfl ?_
        refine pr_iconst (v := 5) C dX8_forecast_100 (by decide) ?_
        refine pr_icmp_ne (tgt := 109) C dX8_forecast_101 (by decide) (fun c64010 => ?_) (fun c64010 => ?_)
        · have h := pr_ifF h c64010
          refine pr_iinc (v := (x6 + 1)) (lv' := [(6, .int (x6 + 1)), (5, .int v64008), (0, .ref (pr_ad (pr_EC l e) q0)), (1, .int x1), (2, .int x2), (3, .int x3)]) C dX8_forecast_109 5 rfl rfl (by decide) rfl ?_
          refine pr_goto (tgt := 63) C dX8_forecast_112 (by decide) ?_
          exact pr_pick [2, 3, 4, 5, 1, 0] rfl (ih _ _ _ h Z)
        · have h := pr_ifT h c64010
          refine pr_iload C dX8_forecast_104 5 rfl ?_
          refine pr_iconst (v := 5) C dX8_forecast_106 (by decide) ?_
          refine pr_isub C dX8_forecast_107 ?_
          obtain ⟨rfl, rfl⟩ := pr_inj h
          exact pr_iret C Z dX8_forecast_108
      clear h
      have h := hv
      clear hv
      refine pr_if_eq (tgt := 95) C dX8_forecast_85 (by decide) (fun c64009 => ?_) (fun c64009 => ?_)
      · have h := pr_ifT h c64009
        refine pr_iconst (v := 0) C dX8_forecast_95 (by decide) ?_
        obtain rfl := pr_in1 h
        exact pr_pick [0, 1, 2, 3, 5] rfl K
      · have h := pr_ifF h c64009
        refine pr_iload C dX8_forecast_88 4 rfl ?_
        refine pr_iconst (v := 1) C dX8_forecast_90 (by decide) ?_
        refine pr_iadd C dX8_forecast_91 ?_
        refine pr_goto (tgt := 96) C dX8_forecast_92 (by decide) ?_
        obtain rfl := pr_in1 h
        exact pr_pick [0, 1, 2, 3, 5] rfl K
def F_X8_forecast (c : Nat) (p1 : Int32) (p2 : Int32) (p3 : Int32) (f : pr_M) : Option (Int32 × pr_M) :=
  pr_b1 (F_X3_controlledUnitAt (c + 1) p1 f) fun o3 =>
  pr_op o3 (
    some ((-1000000001), f)
  ) fun q4 =>
  pr_gd (pr_LC[q4]? = some (7, 0)) <|
  pr_b1 (F_X8_isOutside p2 0 1000 f) fun r7 =>
  if r7 = 0 then (
    pr_b1 (F_X8_isOutside p3 5 300 f) fun r10 =>
    if r10 = 0 then (
      pr_bd (F_X3_copyFrom (c + 50) (c + 1) f) fun u14 f15 =>
      L_X8_forecast_63 c p1 p2 p3 pr_fuel 0 1 f15
    ) else (
      some ((-1000000002), f)
    )
  ) else (
    some ((-1000000002), f)
  )
set_option maxHeartbeats 4000000 in
set_option maxRecDepth 100000 in
theorem m_X8_forecast {l : Launch} {e : pr_E0} {c : Nat} {p1 : Int32} {p2 : Int32} {p3 : Int32} {f : pr_M} {r : Int32} {g : pr_M} (hk0 : pr_LC[c]? = some (8, 0)) (h : F_X8_forecast c p1 p2 p3 f = some (r, g)) : pr_Met (pr_EC l e) yX8_forecast cX8_forecast 7 (some .int) { frames := 5, cells := 0, slots := 0, locals := 125 } [.ref (pr_ad (pr_EC l e) c), .int p1, .int p2, .int p3] f (some (.int r)) g := by
  rw [F_X8_forecast] at h
  refine pr_enter (by decide +kernel) (Nat.le_of_ble_eq_true rfl) (fun Y C Z => ?_)
  replace C : pr_C (pr_EC l e) Y { frames := 5, cells := 0, slots := 0, locals := 125 } cX8_forecast RX8 7 _ := C
  show pr_W (pr_EC l e) Y _ 7 f 0 [(0, .ref (pr_ad (pr_EC l e) c)), (1, .int p1), (2, .int p2), (3, .int p3)] []
  refine pr_aload_n C dX8_forecast_0 rfl 0 rfl ?_
  refine pr_g_8_0 C hk0 pr_w344 dX8_forecast_1 ?_
  have hk1 := pr_kC_8_0 hk0
  refine pr_iload_n C dX8_forecast_4 rfl 1 rfl ?_
  obtain ⟨o3, hc2, h⟩ := pr_b1_some h
  refine k_X3_controlledUnitAt C pr_w418 hk1 hc2 (Nat.le_of_ble_eq_true rfl) (Nat.le_of_ble_eq_true rfl) (Nat.le_of_ble_eq_true rfl) dX8_forecast_5 ?_
  cases o3 with
  | none =>
    have h := pr_op_n h
    refine pr_astoreN (lv' := [(4, .null), (0, .ref (pr_ad (pr_EC l e) c)), (1, .int p1), (2, .int p2), (3, .int p3)]) C dX8_forecast_8 (by decide) rfl ?_
    refine pr_aloadN C dX8_forecast_10 0 rfl ?_
    refine pr_ifnonnullN C dX8_forecast_12 ?_
    refine pr_ldc (v := (-1000000001)) C dX8_forecast_15 pr_w370 ?_
    obtain ⟨rfl, rfl⟩ := pr_inj h
    exact pr_iret C Z dX8_forecast_17
  | some q4 =>
    have h := pr_op_s h
    obtain ⟨hk5, h⟩ := pr_gd_some h
    refine pr_astore (lv' := [(4, .ref (pr_ad (pr_EC l e) q4)), (0, .ref (pr_ad (pr_EC l e) c)), (1, .int p1), (2, .int p2), (3, .int p3)]) C dX8_forecast_8 (by decide) rfl ?_
    refine pr_aload C dX8_forecast_10 0 rfl ?_
    refine pr_ifnonnull (tgt := 18) C dX8_forecast_12 (by decide) ?_
    refine pr_iload_n C dX8_forecast_18 rfl 3 rfl ?_
    refine pr_iconst (v := 0) C dX8_forecast_19 (by decide) ?_
    refine pr_sipush (v := 1000) C dX8_forecast_20 (by decide) ?_
    obtain ⟨r7, hc6, h⟩ := pr_b1_some h
    refine k_X8_isOutside C pr_w363  hc6 (Nat.le_of_ble_eq_true rfl) (Nat.le_of_ble_eq_true rfl) (Nat.le_of_ble_eq_true rfl) dX8_forecast_23 ?_
    refine pr_if_eq (tgt := 32) C dX8_forecast_26 (by decide) (fun c8 => ?_) (fun c8 => ?_)
    · have h := pr_ifT h c8
      refine pr_iload_n C dX8_forecast_32 rfl 4 rfl ?_
      refine pr_iconst (v := 5) C dX8_forecast_33 (by decide) ?_
      refine pr_sipush (v := 300) C dX8_forecast_34 (by decide) ?_
      obtain ⟨r10, hc9, h⟩ := pr_b1_some h
      refine k_X8_isOutside C pr_w363  hc9 (Nat.le_of_ble_eq_true rfl) (Nat.le_of_ble_eq_true rfl) (Nat.le_of_ble_eq_true rfl) dX8_forecast_37 ?_
      refine pr_if_eq (tgt := 46) C dX8_forecast_40 (by decide) (fun c11 => ?_) (fun c11 => ?_)
      · have h := pr_ifT h c11
        refine pr_aload_n C dX8_forecast_46 rfl 1 rfl ?_
        refine pr_g_8_1 C hk0 pr_w345 dX8_forecast_47 ?_
        have hk12 := pr_kC_8_1 hk0
        refine pr_aload_n C dX8_forecast_50 rfl 1 rfl ?_
        refine pr_g_8_0 C hk0 pr_w344 dX8_forecast_51 ?_
        obtain ⟨u14, f15, hc13, h⟩ := pr_bd_some h
        refine k_X3_copyFrom C pr_w433 hk12 hk1 hc13 (Nat.le_of_ble_eq_true rfl) (Nat.le_of_ble_eq_true rfl) (Nat.le_of_ble_eq_true rfl) dX8_forecast_54 ?_
        refine pr_iconst (v := 0) C dX8_forecast_57 (by decide) ?_
        refine pr_istore (lv' := [(5, .int 0), (4, .ref (pr_ad (pr_EC l e) q4)), (0, .ref (pr_ad (pr_EC l e) c)), (1, .int p1), (2, .int p2), (3, .int p3)]) C dX8_forecast_58 (by decide) rfl ?_
        refine pr_iconst (v := 1) C dX8_forecast_60 (by decide) ?_
        refine pr_istore (lv' := [(6, .int 1), (5, .int 0), (4, .ref (pr_ad (pr_EC l e) q4)), (0, .ref (pr_ad (pr_EC l e) c)), (1, .int p1), (2, .int p2), (3, .int p3)]) C dX8_forecast_61 (by decide) rfl ?_
        exact pr_pick [3, 4, 5, 6, 1, 0] rfl (l_X8_forecast_63 C hk0 pr_fuel _ _ _ h Z)
      · have h := pr_ifF h c11
        refine pr_ldc (v := (-1000000002)) C dX8_forecast_43 pr_w362 ?_
        obtain ⟨rfl, rfl⟩ := pr_inj h
        exact pr_iret C Z dX8_forecast_45
    · have h := pr_ifF h c8
      refine pr_ldc (v := (-1000000002)) C dX8_forecast_29 pr_w362 ?_
      obtain ⟨rfl, rfl⟩ := pr_inj h
      exact pr_iret C Z dX8_forecast_31

def L_X3_sumErrorsIn_33 (q0 : Nat) (x5 : Int32) (q6 : Nat) : Nat → Int32 → Int32 → pr_M → Option ((Int32) × pr_M)
  | 0, _, _, _ => none
  | n + 1, x7, x8, f =>
    if x5 ≤ x8 then (
      some (x7, f)
    ) else (
      pr_bd (F_X3_makeRepeat q0 f) fun u34003 f34004 =>
      if (f34004 (q6 + 6) 4) = 0 then (
        L_X3_sumErrorsIn_33 q0 x5 q6 n x7 (x8 + 1) f34004
      ) else (
        L_X3_sumErrorsIn_33 q0 x5 q6 n (x7 + (if 0 ≤ (f34004 (q6 + 6) 5) then (f34004 (q6 + 6) 5) else 0 - (f34004 (q6 + 6) 5))) (x8 + 1) f34004
      )
    )
set_option maxHeartbeats 4000000 in
set_option maxRecDepth 100000 in
theorem l_X3_sumErrorsIn_33 {l : Launch} {e : pr_E0} {Y : pr_Y} {c0 : Cond} {q0 : Nat} {x5 : Int32} {q6 : Nat} {z : Int32} {g : pr_M} (C : pr_C (pr_EC l e) Y { frames := 5, cells := 0, slots := 0, locals := 125 } cX3_sumErrorsIn RX3 9 c0) (hq0 : pr_LC[q0]? = some (3, 0)) (hq6 : pr_LC[q6]? = some (7, 0)) : ∀ (n : Nat) (x7 : Int32) (x8 : Int32) (f : pr_M), L_X3_sumErrorsIn_33 q0 x5 q6 n x7 x8 f = some (z, g) → pr_W (pr_EC l e) Y { frames := 5, cells := 0, slots := 0, locals := 125 } 9 g 77 [(7, .int z)] [] → pr_W (pr_EC l e) Y { frames := 5, cells := 0, slots := 0, locals := 125 } 9 f 33 [(0, .ref (pr_ad (pr_EC l e) q0)), (5, .int x5), (6, .ref (pr_ad (pr_EC l e) q6)), (7, .int x7), (8, .int x8)] [] := by
  intro n
  induction n with
  | zero =>
    intro x7 x8 f h
    exact absurd h (by simp [L_X3_sumErrorsIn_33])
  | succ n ih =>
    intro x7 x8 f h K
    rw [L_X3_sumErrorsIn_33] at h
    refine pr_iload C dX3_sumErrorsIn_33 4 rfl ?_
    refine pr_iload C dX3_sumErrorsIn_35 1 rfl ?_
    refine pr_icmp_ge (tgt := 77) C dX3_sumErrorsIn_37 (by decide) (fun c34001 => ?_) (fun c34001 => ?_)
    · have h := pr_ifT h c34001
      obtain ⟨rfl, rfl⟩ := pr_inj h
      exact pr_pick [3] rfl K
    · have h := pr_ifF h c34001
      refine pr_aload_n C dX3_sumErrorsIn_40 rfl 0 rfl ?_
      obtain ⟨u34003, f34004, hc34002, h⟩ := pr_bd_some h
      refine k_X3_makeRepeat C pr_w328 hq0 hc34002 (Nat.le_of_ble_eq_true rfl) (Nat.le_of_ble_eq_true rfl) (Nat.le_of_ble_eq_true rfl) dX3_sumErrorsIn_41 ?_
      refine pr_aload C dX3_sumErrorsIn_44 2 rfl ?_
      refine pr_gN_7_3 C hq6 pr_nf40 dX3_sumErrorsIn_46 ?_
      have hk34005 := pr_kC_7_3 hq6
      refine pr_gN_5_4 C hk34005 pr_nf26 dX3_sumErrorsIn_49 ?_
      refine pr_if_eq (tgt := 71) C dX3_sumErrorsIn_52 (by decide) (fun c34006 => ?_) (fun c34006 => ?_)
      · have h := pr_ifT h c34006
        refine pr_iinc (v := (x8 + 1)) (lv' := [(8, .int (x8 + 1)), (0, .ref (pr_ad (pr_EC l e) q0)), (5, .int x5), (6, .ref (pr_ad (pr_EC l e) q6)), (7, .int x7)]) C dX3_sumErrorsIn_71 4 rfl rfl (by decide) rfl ?_
        refine pr_goto (tgt := 33) C dX3_sumErrorsIn_74 (by decide) ?_
        exact pr_pick [1, 2, 3, 4, 0] rfl (ih _ _ _ h K)
      · have h := pr_ifF h c34006
        refine pr_iload C dX3_sumErrorsIn_55 3 rfl ?_
        refine pr_aload C dX3_sumErrorsIn_57 2 rfl ?_
        refine pr_gN_7_3 C hq6 pr_nf40 dX3_sumErrorsIn_59 ?_
        refine pr_gN_5_5 C hk34005 pr_nf28 dX3_sumErrorsIn_62 ?_
        refine pr_mabs C pr_w227 pr_w38 pr_w34 pr_w39 (Nat.le_of_ble_eq_true rfl) (Nat.le_of_ble_eq_true rfl) dX3_sumErrorsIn_65 ?_
        refine pr_iadd C dX3_sumErrorsIn_68 ?_
        refine pr_istore (lv' := [(7, .int (x7 + (if 0 ≤ (f34004 (q6 + 6) 5) then (f34004 (q6 + 6) 5) else 0 - (f34004 (q6 + 6) 5)))), (0, .ref (pr_ad (pr_EC l e) q0)), (5, .int x5), (6, .ref (pr_ad (pr_EC l e) q6)), (8, .int x8)]) C dX3_sumErrorsIn_69 (by decide) rfl ?_
        refine pr_iinc (v := (x8 + 1)) (lv' := [(8, .int (x8 + 1)), (7, .int (x7 + (if 0 ≤ (f34004 (q6 + 6) 5) then (f34004 (q6 + 6) 5) else 0 - (f34004 (q6 + 6) 5)))), (0, .ref (pr_ad (pr_EC l e) q0)), (5, .int x5), (6, .ref (pr_ad (pr_EC l e) q6))]) C dX3_sumErrorsIn_71 4 rfl rfl (by decide) rfl ?_
        refine pr_goto (tgt := 33) C dX3_sumErrorsIn_74 (by decide) ?_
        exact pr_pick [2, 3, 4, 1, 0] rfl (ih _ _ _ h K)
def F_X3_sumErrorsIn (c : Nat) (p1 : Nat) (p2 : Int32) (p3 : Int32) (p4 : Int32) (p5 : Int32) (f : pr_M) : Option (Int32 × pr_M) :=
  pr_bd (F_X3_copyFrom c p1 f) fun u2 f3 =>
  pr_b1 (F_X3_unitAt c p2 f3) fun o5 =>
  pr_op o5 (
    some (0, f3)
  ) fun q6 =>
  pr_gd (pr_LC[q6]? = some (7, 0)) <|
  pr_bd (F_X7_changeSetting q6 p3 p4 f3) fun u9 f10 =>
  pr_bd (L_X3_sumErrorsIn_33 c p5 q6 pr_fuel 0 0 f10) fun v11 f12 =>
  some (v11, f12)
set_option maxHeartbeats 4000000 in
set_option maxRecDepth 100000 in
theorem m_X3_sumErrorsIn {l : Launch} {e : pr_E0} {c : Nat} {p1 : Nat} {p2 : Int32} {p3 : Int32} {p4 : Int32} {p5 : Int32} {f : pr_M} {r : Int32} {g : pr_M} (hk0 : pr_LC[c]? = some (3, 0)) (hk01 : pr_LC[p1]? = some (3, 0)) (h : F_X3_sumErrorsIn c p1 p2 p3 p4 p5 f = some (r, g)) : pr_Met (pr_EC l e) yX3_sumErrorsIn cX3_sumErrorsIn 9 (some .int) { frames := 5, cells := 0, slots := 0, locals := 125 } [.ref (pr_ad (pr_EC l e) c), .ref (pr_ad (pr_EC l e) p1), .int p2, .int p3, .int p4, .int p5] f (some (.int r)) g := by
  rw [F_X3_sumErrorsIn] at h
  refine pr_enter (by decide +kernel) (Nat.le_of_ble_eq_true rfl) (fun Y C Z => ?_)
  replace C : pr_C (pr_EC l e) Y { frames := 5, cells := 0, slots := 0, locals := 125 } cX3_sumErrorsIn RX3 9 _ := C
  show pr_W (pr_EC l e) Y _ 9 f 0 [(0, .ref (pr_ad (pr_EC l e) c)), (1, .ref (pr_ad (pr_EC l e) p1)), (2, .int p2), (3, .int p3), (4, .int p4), (5, .int p5)] []
  refine pr_aload_n C dX3_sumErrorsIn_0 rfl 0 rfl ?_
  refine pr_aload_n C dX3_sumErrorsIn_1 rfl 1 rfl ?_
  obtain ⟨u2, f3, hc1, h⟩ := pr_bd_some h
  refine k_X3_copyFrom C pr_w322 hk0 hk01 hc1 (Nat.le_of_ble_eq_true rfl) (Nat.le_of_ble_eq_true rfl) (Nat.le_of_ble_eq_true rfl) dX3_sumErrorsIn_2 ?_
  refine pr_aload_n C dX3_sumErrorsIn_5 rfl 0 rfl ?_
  refine pr_iload_n C dX3_sumErrorsIn_6 rfl 2 rfl ?_
  obtain ⟨o5, hc4, h⟩ := pr_b1_some h
  refine k_X3_unitAt C pr_w211 hk0 hc4 (Nat.le_of_ble_eq_true rfl) (Nat.le_of_ble_eq_true rfl) (Nat.le_of_ble_eq_true rfl) dX3_sumErrorsIn_7 ?_
  cases o5 with
  | none =>
    have h := pr_op_n h
    refine pr_astoreN (lv' := [(6, .null), (0, .ref (pr_ad (pr_EC l e) c)), (1, .ref (pr_ad (pr_EC l e) p1)), (2, .int p2), (3, .int p3), (4, .int p4), (5, .int p5)]) C dX3_sumErrorsIn_10 (by decide) rfl ?_
    refine pr_aloadN C dX3_sumErrorsIn_12 0 rfl ?_
    refine pr_ifnonnullN C dX3_sumErrorsIn_14 ?_
    refine pr_iconst (v := 0) C dX3_sumErrorsIn_17 (by decide) ?_
    obtain ⟨rfl, rfl⟩ := pr_inj h
    exact pr_iret C Z dX3_sumErrorsIn_18
  | some q6 =>
    have h := pr_op_s h
    obtain ⟨hk7, h⟩ := pr_gd_some h
    refine pr_astore (lv' := [(6, .ref (pr_ad (pr_EC l e) q6)), (0, .ref (pr_ad (pr_EC l e) c)), (1, .ref (pr_ad (pr_EC l e) p1)), (2, .int p2), (3, .int p3), (4, .int p4), (5, .int p5)]) C dX3_sumErrorsIn_10 (by decide) rfl ?_
    refine pr_aload C dX3_sumErrorsIn_12 0 rfl ?_
    refine pr_ifnonnull (tgt := 19) C dX3_sumErrorsIn_14 (by decide) ?_
    refine pr_aload C dX3_sumErrorsIn_19 0 rfl ?_
    refine pr_iload_n C dX3_sumErrorsIn_21 rfl 4 rfl ?_
    refine pr_iload C dX3_sumErrorsIn_22 5 rfl ?_
    obtain ⟨u9, f10, hc8, h⟩ := pr_bd_some h
    refine k_X7_changeSetting C pr_w325 hk7 hc8 (Nat.le_of_ble_eq_true rfl) (Nat.le_of_ble_eq_true rfl) (Nat.le_of_ble_eq_true rfl) dX3_sumErrorsIn_24 ?_
    refine pr_iconst (v := 0) C dX3_sumErrorsIn_27 (by decide) ?_
    refine pr_istore (lv' := [(7, .int 0), (6, .ref (pr_ad (pr_EC l e) q6)), (0, .ref (pr_ad (pr_EC l e) c)), (1, .ref (pr_ad (pr_EC l e) p1)), (2, .int p2), (3, .int p3), (4, .int p4), (5, .int p5)]) C dX3_sumErrorsIn_28 (by decide) rfl ?_
    refine pr_iconst (v := 0) C dX3_sumErrorsIn_30 (by decide) ?_
    refine pr_istore (lv' := [(8, .int 0), (7, .int 0), (6, .ref (pr_ad (pr_EC l e) q6)), (0, .ref (pr_ad (pr_EC l e) c)), (1, .ref (pr_ad (pr_EC l e) p1)), (2, .int p2), (3, .int p3), (4, .int p4), (5, .int p5)]) C dX3_sumErrorsIn_31 (by decide) rfl ?_
    obtain ⟨v11, f12, hv, h⟩ := pr_bd_some h
    refine pr_pick [3, 8, 2, 1, 0] rfl (l_X3_sumErrorsIn_33 C hk0 hk7 pr_fuel _ _ _ hv ?_)
    clear hv
    refine pr_iload C dX3_sumErrorsIn_77 0 rfl ?_
    obtain ⟨rfl, rfl⟩ := pr_inj h
    exact pr_iret C Z dX3_sumErrorsIn_79
theorem k_X3_sumErrorsIn {l : Launch} {e : pr_E0} {Y : pr_Y} {Rm : Room} {cc : ByteArray} {own : String} {nL : Nat} {c0 : Cond} {pc idx : Nat} {lv : List (Nat × Value)} {st : List Value} {c : Nat} {p1 : Nat} {p2 : Int32} {p3 : Int32} {p4 : Int32} {p5 : Int32} {f : pr_M} {r : Int32} {g : pr_M} (C : pr_C (pr_EC l e) Y Rm cc own nL c0) (w1 : Cond.methodLink own idx yX3_sumErrorsIn ∈ pr_AL) (hk0 : pr_LC[c]? = some (3, 0)) (hk01 : pr_LC[p1]? = some (3, 0)) (h : F_X3_sumErrorsIn c p1 p2 p3 p4 p5 f = some (r, g)) (hr1 : 6 ≤ Rm.frames) (hr2 : 153 ≤ Rm.locals) (hcat : (st.map fun v => v.category).sum ≤ 8) (hdg : decode cc pc = .ok (.invokevirtual idx, 3)) (k : pr_W (pr_EC l e) Y Rm nL g (pc + 3) lv (.int r :: st)) : pr_W (pr_EC l e) Y Rm nL f pc lv (.int p5 :: .int p4 :: .int p3 :: .int p2 :: .ref (pr_ad (pr_EC l e) p1) :: .ref (pr_ad (pr_EC l e) c) :: st) :=
  pr_callV (As := [.ref (pr_ad (pr_EC l e) p1), .int p2, .int p3, .int p4, .int p5]) (n := 5) C (m_X3_sumErrorsIn hk0 hk01 h) hk0 (by decide) rfl w1 pr_w439 pr_w440 pr_w214 pr_w331 rfl rfl ⟨rfl, by decide +kernel, by decide +kernel, by decide +kernel⟩ rfl ⟨hr1, hr2⟩ rfl hcat hdg k

def F_X8_attempt (c : Nat) (p1 : Int32) (p2 : Int32) (p3 : Int32) (p4 : Int32) (f : pr_M) : Option (Int32 × pr_M) :=
  pr_b1 (F_X3_controlledUnitAt (c + 1) p1 f) fun o3 =>
  pr_op o3 (
    some ((-1000000001), f)
  ) fun q4 =>
  pr_gd (pr_LC[q4]? = some (7, 0)) <|
  pr_b1 (F_X8_isPlace p2 f) fun r7 =>
  if r7 = 0 then (
    pr_b1 (F_X8_isSettingValue p2 p3 f) fun r10 =>
    if r10 = 0 then (
      some ((-1000000002), f)
    ) else (
      pr_b1 (F_X8_isOutside p4 1 300 f) fun r13 =>
      if r13 = 0 then (
        pr_bd (F_X3_sumErrorsIn (c + 50) (c + 1) p1 p2 p3 p4 f) fun r17 f18 =>
        some (r17, f18)
      ) else (
        some ((-1000000002), f)
      )
    )
  ) else (
    some ((-1000000002), f)
  )
set_option maxHeartbeats 4000000 in
set_option maxRecDepth 100000 in
theorem m_X8_attempt {l : Launch} {e : pr_E0} {c : Nat} {p1 : Int32} {p2 : Int32} {p3 : Int32} {p4 : Int32} {f : pr_M} {r : Int32} {g : pr_M} (hk0 : pr_LC[c]? = some (8, 0)) (h : F_X8_attempt c p1 p2 p3 p4 f = some (r, g)) : pr_Met (pr_EC l e) yX8_attempt cX8_attempt 6 (some .int) { frames := 6, cells := 0, slots := 0, locals := 153 } [.ref (pr_ad (pr_EC l e) c), .int p1, .int p2, .int p3, .int p4] f (some (.int r)) g := by
  rw [F_X8_attempt] at h
  refine pr_enter (by decide +kernel) (Nat.le_of_ble_eq_true rfl) (fun Y C Z => ?_)
  replace C : pr_C (pr_EC l e) Y { frames := 6, cells := 0, slots := 0, locals := 153 } cX8_attempt RX8 6 _ := C
  show pr_W (pr_EC l e) Y _ 6 f 0 [(0, .ref (pr_ad (pr_EC l e) c)), (1, .int p1), (2, .int p2), (3, .int p3), (4, .int p4)] []
  refine pr_aload_n C dX8_attempt_0 rfl 0 rfl ?_
  refine pr_g_8_0 C hk0 pr_w344 dX8_attempt_1 ?_
  have hk1 := pr_kC_8_0 hk0
  refine pr_iload_n C dX8_attempt_4 rfl 1 rfl ?_
  obtain ⟨o3, hc2, h⟩ := pr_b1_some h
  refine k_X3_controlledUnitAt C pr_w418 hk1 hc2 (Nat.le_of_ble_eq_true rfl) (Nat.le_of_ble_eq_true rfl) (Nat.le_of_ble_eq_true rfl) dX8_attempt_5 ?_
  cases o3 with
  | none =>
    have h := pr_op_n h
    refine pr_astoreN (lv' := [(5, .null), (0, .ref (pr_ad (pr_EC l e) c)), (1, .int p1), (2, .int p2), (3, .int p3), (4, .int p4)]) C dX8_attempt_8 (by decide) rfl ?_
    refine pr_aloadN C dX8_attempt_10 0 rfl ?_
    refine pr_ifnonnullN C dX8_attempt_12 ?_
    refine pr_ldc (v := (-1000000001)) C dX8_attempt_15 pr_w370 ?_
    obtain ⟨rfl, rfl⟩ := pr_inj h
    exact pr_iret C Z dX8_attempt_17
  | some q4 =>
    have h := pr_op_s h
    obtain ⟨hk5, h⟩ := pr_gd_some h
    refine pr_astore (lv' := [(5, .ref (pr_ad (pr_EC l e) q4)), (0, .ref (pr_ad (pr_EC l e) c)), (1, .int p1), (2, .int p2), (3, .int p3), (4, .int p4)]) C dX8_attempt_8 (by decide) rfl ?_
    refine pr_aload C dX8_attempt_10 0 rfl ?_
    refine pr_ifnonnull (tgt := 18) C dX8_attempt_12 (by decide) ?_
    refine pr_iload_n C dX8_attempt_18 rfl 3 rfl ?_
    obtain ⟨r7, hc6, h⟩ := pr_b1_some h
    refine k_X8_isPlace C pr_w375  hc6 (Nat.le_of_ble_eq_true rfl) (Nat.le_of_ble_eq_true rfl) (Nat.le_of_ble_eq_true rfl) dX8_attempt_19 ?_
    refine pr_if_ne (tgt := 33) C dX8_attempt_22 (by decide) (fun c8 => ?_) (fun c8 => ?_)
    · have h := pr_ifF h c8
      refine pr_ldc (v := (-1000000002)) C dX8_attempt_33 pr_w362 ?_
      obtain ⟨rfl, rfl⟩ := pr_inj h
      exact pr_iret C Z dX8_attempt_35
    · have h := pr_ifT h c8
      refine pr_iload_n C dX8_attempt_25 rfl 3 rfl ?_
      refine pr_iload_n C dX8_attempt_26 rfl 4 rfl ?_
      obtain ⟨r10, hc9, h⟩ := pr_b1_some h
      refine k_X8_isSettingValue C pr_w373  hc9 (Nat.le_of_ble_eq_true rfl) (Nat.le_of_ble_eq_true rfl) (Nat.le_of_ble_eq_true rfl) dX8_attempt_27 ?_
      refine pr_if_ne (tgt := 36) C dX8_attempt_30 (by decide) (fun c11 => ?_) (fun c11 => ?_)
      · have h := pr_ifF h c11
        refine pr_iload C dX8_attempt_36 5 rfl ?_
        refine pr_iconst (v := 1) C dX8_attempt_38 (by decide) ?_
        refine pr_sipush (v := 300) C dX8_attempt_39 (by decide) ?_
        obtain ⟨r13, hc12, h⟩ := pr_b1_some h
        refine k_X8_isOutside C pr_w363  hc12 (Nat.le_of_ble_eq_true rfl) (Nat.le_of_ble_eq_true rfl) (Nat.le_of_ble_eq_true rfl) dX8_attempt_42 ?_
        refine pr_if_eq (tgt := 51) C dX8_attempt_45 (by decide) (fun c14 => ?_) (fun c14 => ?_)
        · have h := pr_ifT h c14
          refine pr_aload_n C dX8_attempt_51 rfl 1 rfl ?_
          refine pr_g_8_1 C hk0 pr_w345 dX8_attempt_52 ?_
          have hk15 := pr_kC_8_1 hk0
          refine pr_aload_n C dX8_attempt_55 rfl 1 rfl ?_
          refine pr_g_8_0 C hk0 pr_w344 dX8_attempt_56 ?_
          refine pr_iload_n C dX8_attempt_59 rfl 2 rfl ?_
          refine pr_iload_n C dX8_attempt_60 rfl 3 rfl ?_
          refine pr_iload_n C dX8_attempt_61 rfl 4 rfl ?_
          refine pr_iload C dX8_attempt_62 5 rfl ?_
          obtain ⟨r17, f18, hc16, h⟩ := pr_bd_some h
          refine k_X3_sumErrorsIn C pr_w438 hk15 hk1 hc16 (Nat.le_of_ble_eq_true rfl) (Nat.le_of_ble_eq_true rfl) (Nat.le_of_ble_eq_true rfl) dX8_attempt_64 ?_
          obtain ⟨rfl, rfl⟩ := pr_inj h
          exact pr_iret C Z dX8_attempt_67
        · have h := pr_ifF h c14
          refine pr_ldc (v := (-1000000002)) C dX8_attempt_48 pr_w362 ?_
          obtain ⟨rfl, rfl⟩ := pr_inj h
          exact pr_iret C Z dX8_attempt_50
      · have h := pr_ifT h c11
        refine pr_ldc (v := (-1000000002)) C dX8_attempt_33 pr_w362 ?_
        obtain ⟨rfl, rfl⟩ := pr_inj h
        exact pr_iret C Z dX8_attempt_35

def L_X8_bestGain_116 (q0 : Nat) (x1 : Int32) (x2 : Int32) (x3 : Int32) (x4 : Int32) (x5 : Int32) : Nat → Int32 → Int32 → Int32 → pr_M → Option ((Int32) × pr_M)
  | 0, _, _, _, _ => none
  | n + 1, x7, x8, x9, f =>
    if x4 ≤ x9 then (
      some (x7, f)
    ) else (
      pr_bd (F_X3_sumErrorsIn (q0 + 50) (q0 + 1) x1 4 (x2 + (x3 * x9)) x5 f) fun r117005 f117006 =>
      if x8 ≤ r117005 then (
        L_X8_bestGain_116 q0 x1 x2 x3 x4 x5 n x7 x8 (x9 + 1) f117006
      ) else (
        L_X8_bestGain_116 q0 x1 x2 x3 x4 x5 n (x2 + (x3 * x9)) r117005 (x9 + 1) f117006
      )
    )
set_option maxHeartbeats 4000000 in
set_option maxRecDepth 100000 in
theorem l_X8_bestGain_116 {l : Launch} {e : pr_E0} {Y : pr_Y} {c0 : Cond} {q0 : Nat} {x1 : Int32} {x2 : Int32} {x3 : Int32} {x4 : Int32} {x5 : Int32} {z : Int32} {g : pr_M} (C : pr_C (pr_EC l e) Y { frames := 6, cells := 0, slots := 0, locals := 153 } cX8_bestGain RX8 12 c0) (hq0 : pr_LC[q0]? = some (8, 0)) : ∀ (n : Nat) (x7 : Int32) (x8 : Int32) (x9 : Int32) (f : pr_M), L_X8_bestGain_116 q0 x1 x2 x3 x4 x5 n x7 x8 x9 f = some (z, g) → pr_W (pr_EC l e) Y { frames := 6, cells := 0, slots := 0, locals := 153 } 12 g 171 [(7, .int z)] [] → pr_W (pr_EC l e) Y { frames := 6, cells := 0, slots := 0, locals := 153 } 12 f 116 [(0, .ref (pr_ad (pr_EC l e) q0)), (1, .int x1), (2, .int x2), (3, .int x3), (4, .int x4), (5, .int x5), (7, .int x7), (8, .int x8), (9, .int x9)] [] := by
  intro n
  induction n with
  | zero =>
    intro x7 x8 x9 f h
    exact absurd h (by simp [L_X8_bestGain_116])
  | succ n ih =>
    intro x7 x8 x9 f h K
    rw [L_X8_bestGain_116] at h
    refine pr_iload C dX8_bestGain_116 8 rfl ?_
    refine pr_iload C dX8_bestGain_118 4 rfl ?_
    refine pr_icmp_ge (tgt := 171) C dX8_bestGain_120 (by decide) (fun c117001 => ?_) (fun c117001 => ?_)
    · have h := pr_ifT h c117001
      obtain ⟨rfl, rfl⟩ := pr_inj h
      exact pr_pick [6] rfl K
    · have h := pr_ifF h c117001
      refine pr_iload_n C dX8_bestGain_123 rfl 2 rfl ?_
      refine pr_iload_n C dX8_bestGain_124 rfl 3 rfl ?_
      refine pr_iload C dX8_bestGain_125 8 rfl ?_
      refine pr_imul C dX8_bestGain_127 ?_
      refine pr_iadd C dX8_bestGain_128 ?_
      refine pr_istore (lv' := [(10, .int (x2 + (x3 * x9))), (0, .ref (pr_ad (pr_EC l e) q0)), (1, .int x1), (2, .int x2), (3, .int x3), (4, .int x4), (5, .int x5), (7, .int x7), (8, .int x8), (9, .int x9)]) C dX8_bestGain_129 (by decide) rfl ?_
      refine pr_aload_n C dX8_bestGain_131 rfl 1 rfl ?_
      refine pr_g_8_1 C hq0 pr_w345 dX8_bestGain_132 ?_
      have hk117002 := pr_kC_8_1 hq0
      refine pr_aload_n C dX8_bestGain_135 rfl 1 rfl ?_
      refine pr_g_8_0 C hq0 pr_w344 dX8_bestGain_136 ?_
      have hk117003 := pr_kC_8_0 hq0
      refine pr_iload_n C dX8_bestGain_139 rfl 2 rfl ?_
      refine pr_iconst (v := 4) C dX8_bestGain_140 (by decide) ?_
      refine pr_iload C dX8_bestGain_141 0 rfl ?_
      refine pr_iload C dX8_bestGain_143 6 rfl ?_
      obtain ⟨r117005, f117006, hc117004, h⟩ := pr_bd_some h
      refine k_X3_sumErrorsIn C pr_w438 hk117002 hk117003 hc117004 (Nat.le_of_ble_eq_true rfl) (Nat.le_of_ble_eq_true rfl) (Nat.le_of_ble_eq_true rfl) dX8_bestGain_145 ?_
      refine pr_istore (lv' := [(11, .int r117005), (10, .int (x2 + (x3 * x9))), (0, .ref (pr_ad (pr_EC l e) q0)), (1, .int x1), (2, .int x2), (3, .int x3), (4, .int x4), (5, .int x5), (7, .int x7), (8, .int x8), (9, .int x9)]) C dX8_bestGain_148 (by decide) rfl ?_
      refine pr_iload C dX8_bestGain_150 0 rfl ?_
      refine pr_iload C dX8_bestGain_152 9 rfl ?_
      refine pr_icmp_ge (tgt := 165) C dX8_bestGain_154 (by decide) (fun c117007 => ?_) (fun c117007 => ?_)
      · have h := pr_ifT h c117007
        refine pr_iinc (v := (x9 + 1)) (lv' := [(9, .int (x9 + 1)), (11, .int r117005), (10, .int (x2 + (x3 * x9))), (0, .ref (pr_ad (pr_EC l e) q0)), (1, .int x1), (2, .int x2), (3, .int x3), (4, .int x4), (5, .int x5), (7, .int x7), (8, .int x8)]) C dX8_bestGain_165 10 rfl rfl (by decide) rfl ?_
        refine pr_goto (tgt := 116) C dX8_bestGain_168 (by decide) ?_
        exact pr_pick [3, 4, 5, 6, 7, 8, 9, 10, 0] rfl (ih _ _ _ _ h K)
      · have h := pr_ifF h c117007
        refine pr_iload C dX8_bestGain_157 0 rfl ?_
        refine pr_istore (lv' := [(8, .int r117005), (11, .int r117005), (10, .int (x2 + (x3 * x9))), (0, .ref (pr_ad (pr_EC l e) q0)), (1, .int x1), (2, .int x2), (3, .int x3), (4, .int x4), (5, .int x5), (7, .int x7), (9, .int x9)]) C dX8_bestGain_159 (by decide) rfl ?_
        refine pr_iload C dX8_bestGain_161 2 rfl ?_
        refine pr_istore (lv' := [(7, .int (x2 + (x3 * x9))), (8, .int r117005), (11, .int r117005), (10, .int (x2 + (x3 * x9))), (0, .ref (pr_ad (pr_EC l e) q0)), (1, .int x1), (2, .int x2), (3, .int x3), (4, .int x4), (5, .int x5), (9, .int x9)]) C dX8_bestGain_163 (by decide) rfl ?_
        refine pr_iinc (v := (x9 + 1)) (lv' := [(9, .int (x9 + 1)), (7, .int (x2 + (x3 * x9))), (8, .int r117005), (11, .int r117005), (10, .int (x2 + (x3 * x9))), (0, .ref (pr_ad (pr_EC l e) q0)), (1, .int x1), (2, .int x2), (3, .int x3), (4, .int x4), (5, .int x5)]) C dX8_bestGain_165 10 rfl rfl (by decide) rfl ?_
        refine pr_goto (tgt := 116) C dX8_bestGain_168 (by decide) ?_
        exact pr_pick [5, 6, 7, 8, 9, 10, 1, 2, 0] rfl (ih _ _ _ _ h K)
def F_X8_bestGain (c : Nat) (p1 : Int32) (p2 : Int32) (p3 : Int32) (p4 : Int32) (p5 : Int32) (f : pr_M) : Option (Int32 × pr_M) :=
  pr_b1 (F_X3_controlledUnitAt (c + 1) p1 f) fun o3 =>
  pr_op o3 (
    some ((-1000000001), f)
  ) fun q4 =>
  pr_gd (pr_LC[q4]? = some (7, 0)) <|
  pr_b1 (F_X8_isOutside p2 0 256 f) fun r7 =>
  if r7 = 0 then (
    pr_b1 (F_X8_isOutside p3 1 128 f) fun r10 =>
    if r10 = 0 then (
      pr_b1 (F_X8_isOutside p4 1 8 f) fun r13 =>
      if r13 = 0 then (
        if (p2 + (p3 * (p4 - 1))) ≤ 256 then (
          pr_b1 (F_X8_isOutside p5 1 300 f) fun r17 =>
          if r17 = 0 then (
            pr_bd (F_X3_sumErrorsIn (c + 50) (c + 1) p1 4 p2 p5 f) fun r21 f22 =>
            pr_bd (L_X8_bestGain_116 c p1 p2 p3 p4 p5 pr_fuel p2 r21 1 f22) fun v23 f24 =>
            some (v23, f24)
          ) else (
            some ((-1000000002), f)
          )
        ) else (
          some ((-1000000002), f)
        )
      ) else (
        some ((-1000000002), f)
      )
    ) else (
      some ((-1000000002), f)
    )
  ) else (
    some ((-1000000002), f)
  )
set_option maxHeartbeats 4000000 in
set_option maxRecDepth 100000 in
theorem m_X8_bestGain {l : Launch} {e : pr_E0} {c : Nat} {p1 : Int32} {p2 : Int32} {p3 : Int32} {p4 : Int32} {p5 : Int32} {f : pr_M} {r : Int32} {g : pr_M} (hk0 : pr_LC[c]? = some (8, 0)) (h : F_X8_bestGain c p1 p2 p3 p4 p5 f = some (r, g)) : pr_Met (pr_EC l e) yX8_bestGain cX8_bestGain 12 (some .int) { frames := 6, cells := 0, slots := 0, locals := 153 } [.ref (pr_ad (pr_EC l e) c), .int p1, .int p2, .int p3, .int p4, .int p5] f (some (.int r)) g := by
  rw [F_X8_bestGain] at h
  refine pr_enter (by decide +kernel) (Nat.le_of_ble_eq_true rfl) (fun Y C Z => ?_)
  replace C : pr_C (pr_EC l e) Y { frames := 6, cells := 0, slots := 0, locals := 153 } cX8_bestGain RX8 12 _ := C
  show pr_W (pr_EC l e) Y _ 12 f 0 [(0, .ref (pr_ad (pr_EC l e) c)), (1, .int p1), (2, .int p2), (3, .int p3), (4, .int p4), (5, .int p5)] []
  refine pr_aload_n C dX8_bestGain_0 rfl 0 rfl ?_
  refine pr_g_8_0 C hk0 pr_w344 dX8_bestGain_1 ?_
  have hk1 := pr_kC_8_0 hk0
  refine pr_iload_n C dX8_bestGain_4 rfl 1 rfl ?_
  obtain ⟨o3, hc2, h⟩ := pr_b1_some h
  refine k_X3_controlledUnitAt C pr_w418 hk1 hc2 (Nat.le_of_ble_eq_true rfl) (Nat.le_of_ble_eq_true rfl) (Nat.le_of_ble_eq_true rfl) dX8_bestGain_5 ?_
  cases o3 with
  | none =>
    have h := pr_op_n h
    refine pr_astoreN (lv' := [(6, .null), (0, .ref (pr_ad (pr_EC l e) c)), (1, .int p1), (2, .int p2), (3, .int p3), (4, .int p4), (5, .int p5)]) C dX8_bestGain_8 (by decide) rfl ?_
    refine pr_aloadN C dX8_bestGain_10 0 rfl ?_
    refine pr_ifnonnullN C dX8_bestGain_12 ?_
    refine pr_ldc (v := (-1000000001)) C dX8_bestGain_15 pr_w370 ?_
    obtain ⟨rfl, rfl⟩ := pr_inj h
    exact pr_iret C Z dX8_bestGain_17
  | some q4 =>
    have h := pr_op_s h
    obtain ⟨hk5, h⟩ := pr_gd_some h
    refine pr_astore (lv' := [(6, .ref (pr_ad (pr_EC l e) q4)), (0, .ref (pr_ad (pr_EC l e) c)), (1, .int p1), (2, .int p2), (3, .int p3), (4, .int p4), (5, .int p5)]) C dX8_bestGain_8 (by decide) rfl ?_
    refine pr_aload C dX8_bestGain_10 0 rfl ?_
    refine pr_ifnonnull (tgt := 18) C dX8_bestGain_12 (by decide) ?_
    refine pr_iload_n C dX8_bestGain_18 rfl 3 rfl ?_
    refine pr_iconst (v := 0) C dX8_bestGain_19 (by decide) ?_
    refine pr_sipush (v := 256) C dX8_bestGain_20 (by decide) ?_
    obtain ⟨r7, hc6, h⟩ := pr_b1_some h
    refine k_X8_isOutside C pr_w363  hc6 (Nat.le_of_ble_eq_true rfl) (Nat.le_of_ble_eq_true rfl) (Nat.le_of_ble_eq_true rfl) dX8_bestGain_23 ?_
    refine pr_if_eq (tgt := 32) C dX8_bestGain_26 (by decide) (fun c8 => ?_) (fun c8 => ?_)
    · have h := pr_ifT h c8
      refine pr_iload_n C dX8_bestGain_32 rfl 4 rfl ?_
      refine pr_iconst (v := 1) C dX8_bestGain_33 (by decide) ?_
      refine pr_sipush (v := 128) C dX8_bestGain_34 (by decide) ?_
      obtain ⟨r10, hc9, h⟩ := pr_b1_some h
      refine k_X8_isOutside C pr_w363  hc9 (Nat.le_of_ble_eq_true rfl) (Nat.le_of_ble_eq_true rfl) (Nat.le_of_ble_eq_true rfl) dX8_bestGain_37 ?_
      refine pr_if_eq (tgt := 46) C dX8_bestGain_40 (by decide) (fun c11 => ?_) (fun c11 => ?_)
      · have h := pr_ifT h c11
        refine pr_iload C dX8_bestGain_46 5 rfl ?_
        refine pr_iconst (v := 1) C dX8_bestGain_48 (by decide) ?_
        refine pr_bipush (v := 8) C dX8_bestGain_49 (by decide) ?_
        obtain ⟨r13, hc12, h⟩ := pr_b1_some h
        refine k_X8_isOutside C pr_w363  hc12 (Nat.le_of_ble_eq_true rfl) (Nat.le_of_ble_eq_true rfl) (Nat.le_of_ble_eq_true rfl) dX8_bestGain_51 ?_
        refine pr_if_eq (tgt := 60) C dX8_bestGain_54 (by decide) (fun c14 => ?_) (fun c14 => ?_)
        · have h := pr_ifT h c14
          refine pr_iload_n C dX8_bestGain_60 rfl 3 rfl ?_
          refine pr_iload_n C dX8_bestGain_61 rfl 4 rfl ?_
          refine pr_iload C dX8_bestGain_62 5 rfl ?_
          refine pr_iconst (v := 1) C dX8_bestGain_64 (by decide) ?_
          refine pr_isub C dX8_bestGain_65 ?_
          refine pr_imul C dX8_bestGain_66 ?_
          refine pr_iadd C dX8_bestGain_67 ?_
          refine pr_sipush (v := 256) C dX8_bestGain_68 (by decide) ?_
          refine pr_icmp_le (tgt := 77) C dX8_bestGain_71 (by decide) (fun c15 => ?_) (fun c15 => ?_)
          · have h := pr_ifT h c15
            refine pr_iload C dX8_bestGain_77 6 rfl ?_
            refine pr_iconst (v := 1) C dX8_bestGain_79 (by decide) ?_
            refine pr_sipush (v := 300) C dX8_bestGain_80 (by decide) ?_
            obtain ⟨r17, hc16, h⟩ := pr_b1_some h
            refine k_X8_isOutside C pr_w363  hc16 (Nat.le_of_ble_eq_true rfl) (Nat.le_of_ble_eq_true rfl) (Nat.le_of_ble_eq_true rfl) dX8_bestGain_83 ?_
            refine pr_if_eq (tgt := 92) C dX8_bestGain_86 (by decide) (fun c18 => ?_) (fun c18 => ?_)
            · have h := pr_ifT h c18
              refine pr_iload_n C dX8_bestGain_92 rfl 3 rfl ?_
              refine pr_istore (lv' := [(7, .int p2), (6, .ref (pr_ad (pr_EC l e) q4)), (0, .ref (pr_ad (pr_EC l e) c)), (1, .int p1), (2, .int p2), (3, .int p3), (4, .int p4), (5, .int p5)]) C dX8_bestGain_93 (by decide) rfl ?_
              refine pr_aload_n C dX8_bestGain_95 rfl 2 rfl ?_
              refine pr_g_8_1 C hk0 pr_w345 dX8_bestGain_96 ?_
              have hk19 := pr_kC_8_1 hk0
              refine pr_aload_n C dX8_bestGain_99 rfl 2 rfl ?_
              refine pr_g_8_0 C hk0 pr_w344 dX8_bestGain_100 ?_
              refine pr_iload_n C dX8_bestGain_103 rfl 3 rfl ?_
              refine pr_iconst (v := 4) C dX8_bestGain_104 (by decide) ?_
              refine pr_iload_n C dX8_bestGain_105 rfl 4 rfl ?_
              refine pr_iload C dX8_bestGain_106 7 rfl ?_
              obtain ⟨r21, f22, hc20, h⟩ := pr_bd_some h
              refine k_X3_sumErrorsIn C pr_w438 hk19 hk1 hc20 (Nat.le_of_ble_eq_true rfl) (Nat.le_of_ble_eq_true rfl) (Nat.le_of_ble_eq_true rfl) dX8_bestGain_108 ?_
              refine pr_istore (lv' := [(8, .int r21), (7, .int p2), (6, .ref (pr_ad (pr_EC l e) q4)), (0, .ref (pr_ad (pr_EC l e) c)), (1, .int p1), (2, .int p2), (3, .int p3), (4, .int p4), (5, .int p5)]) C dX8_bestGain_111 (by decide) rfl ?_
              refine pr_iconst (v := 1) C dX8_bestGain_113 (by decide) ?_
              refine pr_istore (lv' := [(9, .int 1), (8, .int r21), (7, .int p2), (6, .ref (pr_ad (pr_EC l e) q4)), (0, .ref (pr_ad (pr_EC l e) c)), (1, .int p1), (2, .int p2), (3, .int p3), (4, .int p4), (5, .int p5)]) C dX8_bestGain_114 (by decide) rfl ?_
              obtain ⟨v23, f24, hv, h⟩ := pr_bd_some h
              refine pr_pick [4, 5, 6, 7, 8, 9, 2, 1, 0] rfl (l_X8_bestGain_116 C hk0 pr_fuel _ _ _ _ hv ?_)
              clear hv
              refine pr_iload C dX8_bestGain_171 0 rfl ?_
              obtain ⟨rfl, rfl⟩ := pr_inj h
              exact pr_iret C Z dX8_bestGain_173
            · have h := pr_ifF h c18
              refine pr_ldc (v := (-1000000002)) C dX8_bestGain_89 pr_w362 ?_
              obtain ⟨rfl, rfl⟩ := pr_inj h
              exact pr_iret C Z dX8_bestGain_91
          · have h := pr_ifF h c15
            refine pr_ldc (v := (-1000000002)) C dX8_bestGain_74 pr_w362 ?_
            obtain ⟨rfl, rfl⟩ := pr_inj h
            exact pr_iret C Z dX8_bestGain_76
        · have h := pr_ifF h c14
          refine pr_ldc (v := (-1000000002)) C dX8_bestGain_57 pr_w362 ?_
          obtain ⟨rfl, rfl⟩ := pr_inj h
          exact pr_iret C Z dX8_bestGain_59
      · have h := pr_ifF h c11
        refine pr_ldc (v := (-1000000002)) C dX8_bestGain_43 pr_w362 ?_
        obtain ⟨rfl, rfl⟩ := pr_inj h
        exact pr_iret C Z dX8_bestGain_45
    · have h := pr_ifF h c8
      refine pr_ldc (v := (-1000000002)) C dX8_bestGain_29 pr_w362 ?_
      obtain ⟨rfl, rfl⟩ := pr_inj h
      exact pr_iret C Z dX8_bestGain_31

def L_X8_charactersIn_5  : Nat → Int64 → Int32 → pr_M → Option (Int32)
  | 0, _, _, _ => none
  | n + 1, x2, x4, f =>
    if (lg_cmp x2 (0 : Int64)) = 0 then (
      some x4
    ) else (
      if 8 ≤ x4 then (
        some x4
      ) else (
        pr_b1 (F_X8_isOutside (Int64.toInt32 (x2 &&& (255 : Int64))) 33 126 f) fun r6004 =>
        if r6004 = 0 then (
          L_X8_charactersIn_5  n (x2.toUInt64 >>> ((8 : Int32).toInt64.toUInt64 &&& Int64.toUInt64 63)).toInt64 (x4 + 1) f
        ) else (
          some 0
        )
      )
    )
set_option maxHeartbeats 4000000 in
set_option maxRecDepth 100000 in
theorem l_X8_charactersIn_5 {l : Launch} {e : pr_E0} {Y : pr_Y} {c0 : Cond}  {z : Int32} (C : pr_C (pr_EC l e) Y { frames := 1, cells := 0, slots := 0, locals := 22 } cX8_charactersIn RX8 5 c0)  : ∀ (n : Nat) (x2 : Int64) (x4 : Int32) (f : pr_M), L_X8_charactersIn_5  n x2 x4 f = some z → pr_Z (pr_EC l e) Y (some .int) (some (.int z)) f → pr_W (pr_EC l e) Y { frames := 1, cells := 0, slots := 0, locals := 22 } 5 f 5 [(2, .long x2), (4, .int x4)] [] := by
  intro n
  induction n with
  | zero =>
    intro x2 x4 f h
    exact absurd h (by simp [L_X8_charactersIn_5])
  | succ n ih =>
    intro x2 x4 f h Z
    rw [L_X8_charactersIn_5] at h
    refine pr_lload_n C dX8_charactersIn_5 rfl 0 rfl ?_
    refine pr_lconst (v := 0) C dX8_charactersIn_6 (by decide) ?_
    refine pr_lcmp C dX8_charactersIn_7 ?_
    refine pr_if_eq (tgt := 47) C dX8_charactersIn_8 (by decide) (fun c6001 => ?_) (fun c6001 => ?_)
    · have h := pr_ifT h c6001
      refine pr_iload C dX8_charactersIn_47 1 rfl ?_
      obtain rfl := pr_in1 h
      exact pr_iret C Z dX8_charactersIn_49
    · have h := pr_ifF h c6001
      refine pr_iload C dX8_charactersIn_11 1 rfl ?_
      refine pr_bipush (v := 8) C dX8_charactersIn_13 (by decide) ?_
      refine pr_icmp_ge (tgt := 47) C dX8_charactersIn_15 (by decide) (fun c6002 => ?_) (fun c6002 => ?_)
      · have h := pr_ifT h c6002
        refine pr_iload C dX8_charactersIn_47 1 rfl ?_
        obtain rfl := pr_in1 h
        exact pr_iret C Z dX8_charactersIn_49
      · have h := pr_ifF h c6002
        refine pr_lload_n C dX8_charactersIn_18 rfl 0 rfl ?_
        refine pr_ldc2 (v := 255) C dX8_charactersIn_19 pr_w444 ?_
        refine pr_land C dX8_charactersIn_22 ?_
        refine pr_l2i C dX8_charactersIn_23 ?_
        refine pr_bipush (v := 33) C dX8_charactersIn_24 (by decide) ?_
        refine pr_bipush (v := 126) C dX8_charactersIn_26 (by decide) ?_
        obtain ⟨r6004, hc6003, h⟩ := pr_b1_some h
        refine k_X8_isOutside C pr_w363  hc6003 (Nat.le_of_ble_eq_true rfl) (Nat.le_of_ble_eq_true rfl) (Nat.le_of_ble_eq_true rfl) dX8_charactersIn_28 ?_
        refine pr_if_eq (tgt := 36) C dX8_charactersIn_31 (by decide) (fun c6005 => ?_) (fun c6005 => ?_)
        · have h := pr_ifT h c6005
          refine pr_lload_n C dX8_charactersIn_36 rfl 0 rfl ?_
          refine pr_bipush (v := 8) C dX8_charactersIn_37 (by decide) ?_
          refine pr_lushr C dX8_charactersIn_39 ?_
          refine pr_lstore_n (lv' := [(2, .long (x2.toUInt64 >>> ((8 : Int32).toInt64.toUInt64 &&& Int64.toUInt64 63)).toInt64), (4, .int x4)]) C dX8_charactersIn_40 rfl (by decide) rfl ?_
          refine pr_iinc (v := (x4 + 1)) (lv' := [(4, .int (x4 + 1)), (2, .long (x2.toUInt64 >>> ((8 : Int32).toInt64.toUInt64 &&& Int64.toUInt64 63)).toInt64)]) C dX8_charactersIn_41 1 rfl rfl (by decide) rfl ?_
          refine pr_goto (tgt := 5) C dX8_charactersIn_44 (by decide) ?_
          exact pr_pick [1, 0] rfl (ih _ _ _ h Z)
        · have h := pr_ifF h c6005
          refine pr_iconst (v := 0) C dX8_charactersIn_34 (by decide) ?_
          obtain rfl := pr_in1 h
          exact pr_iret C Z dX8_charactersIn_35
def F_X8_charactersIn (p1 : Int64) (f : pr_M) : Option (Int32) :=
  L_X8_charactersIn_5  pr_fuel p1 0 f
set_option maxHeartbeats 4000000 in
set_option maxRecDepth 100000 in
theorem m_X8_charactersIn {l : Launch} {e : pr_E0} {p1 : Int64} {f : pr_M} {r : Int32}  (h : F_X8_charactersIn p1 f = some r) : pr_Met (pr_EC l e) yX8_charactersIn cX8_charactersIn 5 (some .int) { frames := 1, cells := 0, slots := 0, locals := 22 } [.long p1] f (some (.int r)) f := by
  rw [F_X8_charactersIn] at h
  refine pr_enter (by decide +kernel) (Nat.le_of_ble_eq_true rfl) (fun Y C Z => ?_)
  replace C : pr_C (pr_EC l e) Y { frames := 1, cells := 0, slots := 0, locals := 22 } cX8_charactersIn RX8 5 _ := C
  show pr_W (pr_EC l e) Y _ 5 f 0 [(0, .long p1)] []
  refine pr_lload_n C dX8_charactersIn_0 rfl 0 rfl ?_
  refine pr_lstore_n (lv' := [(2, .long p1), (0, .long p1)]) C dX8_charactersIn_1 rfl (by decide) rfl ?_
  refine pr_iconst (v := 0) C dX8_charactersIn_2 (by decide) ?_
  refine pr_istore (lv' := [(4, .int 0), (2, .long p1), (0, .long p1)]) C dX8_charactersIn_3 (by decide) rfl ?_
  exact pr_pick [1, 0] rfl (l_X8_charactersIn_5 C  pr_fuel _ _ _ h Z)
theorem k_X8_charactersIn {l : Launch} {e : pr_E0} {Y : pr_Y} {Rm : Room} {cc : ByteArray} {own : String} {nL : Nat} {c0 : Cond} {pc idx : Nat} {lv : List (Nat × Value)} {st : List Value} {p1 : Int64} {f : pr_M} {r : Int32} (C : pr_C (pr_EC l e) Y Rm cc own nL c0) (w1 : Cond.methodLink own idx yX8_charactersIn ∈ pr_AL)  (h : F_X8_charactersIn p1 f = some r) (hr1 : 2 ≤ Rm.frames) (hr2 : 46 ≤ Rm.locals) (hcat : (st.map fun v => v.category).sum ≤ 8) (hdg : decode cc pc = .ok (.invokestatic idx, 3)) (k : pr_W (pr_EC l e) Y Rm nL f (pc + 3) lv (.int r :: st)) : pr_W (pr_EC l e) Y Rm nL f pc lv (.long p1 :: st) :=
  pr_callS (As := [.long p1]) (n := 1) C (m_X8_charactersIn  h) w1 pr_w448 pr_w18 pr_w443 rfl rfl ⟨by decide +kernel, by decide +kernel, by decide +kernel⟩ rfl ⟨hr1, hr2⟩ rfl hcat hdg k

def F_X2_append (c : Nat) (p1 : Int32) (f : pr_M) : Option (Unit × pr_M) :=
  if (f c 1) < 0 then (
    some ((), f)
  ) else (
    if 80 ≤ (f c 1) then (
      some ((), f)
    ) else (
      pr_gd (¬ ((f c 1) < 0 ∨ 80 ≤ Int32.toNatClampNeg (f c 1))) <|
      pr_lt (pr_up f (c + 1) (Int32.toNatClampNeg (f c 1)) p1) fun f5 =>
      pr_lt (pr_up f5 c 1 ((f5 c 1) + 1)) fun f7 =>
      some ((), f7)
    )
  )
set_option maxHeartbeats 4000000 in
set_option maxRecDepth 100000 in
theorem m_X2_append {l : Launch} {e : pr_E0} {c : Nat} {p1 : Int32} {f : pr_M} {r : Unit} {g : pr_M} (hk0 : pr_LC[c]? = some (2, 0)) (h : F_X2_append c p1 f = some (r, g)) : pr_Met (pr_EC l e) yX2_append cX2_append 2 none { frames := 0, cells := 0, slots := 0, locals := 0 } [.ref (pr_ad (pr_EC l e) c), .int p1] f none g := by
  rw [F_X2_append] at h
  refine pr_enter (by decide +kernel) (Nat.le_of_ble_eq_true rfl) (fun Y C Z => ?_)
  replace C : pr_C (pr_EC l e) Y { frames := 0, cells := 0, slots := 0, locals := 0 } cX2_append RX2 2 _ := C
  show pr_W (pr_EC l e) Y _ 2 f 0 [(0, .ref (pr_ad (pr_EC l e) c)), (1, .int p1)] []
  refine pr_aload_n C dX2_append_0 rfl 0 rfl ?_
  refine pr_g_2_1 C hk0 pr_w57 dX2_append_1 ?_
  refine pr_if_lt (tgt := 36) C dX2_append_4 (by decide) (fun c1 => ?_) (fun c1 => ?_)
  · have h := pr_ifT h c1
    obtain ⟨rfl, rfl⟩ := pr_inj h
    exact pr_vret C Z dX2_append_36
  · have h := pr_ifF h c1
    refine pr_aload_n C dX2_append_7 rfl 0 rfl ?_
    refine pr_g_2_1 C hk0 pr_w57 dX2_append_8 ?_
    refine pr_bipush (v := 80) C dX2_append_11 (by decide) ?_
    refine pr_icmp_ge (tgt := 36) C dX2_append_13 (by decide) (fun c2 => ?_) (fun c2 => ?_)
    · have h := pr_ifT h c2
      obtain ⟨rfl, rfl⟩ := pr_inj h
      exact pr_vret C Z dX2_append_36
    · have h := pr_ifF h c2
      refine pr_aload_n C dX2_append_16 rfl 0 rfl ?_
      refine pr_g_2_0 C hk0 pr_w55 dX2_append_17 ?_
      have hk3 := pr_kC_2_0 hk0
      refine pr_aload_n C dX2_append_20 rfl 0 rfl ?_
      refine pr_g_2_1 C hk0 pr_w57 dX2_append_21 ?_
      refine pr_iload_n C dX2_append_24 rfl 1 rfl ?_
      obtain ⟨hg4, h⟩ := pr_gd_some h
      refine pr_iastore C hk3 hg4 dX2_append_25 (fun f5 e6 => ?_)
      have h := pr_lt_at h e6
      refine pr_aload_n C dX2_append_26 rfl 0 rfl ?_
      refine pr_dup C dX2_append_27 rfl ?_
      refine pr_g_2_1 C hk0 pr_w57 dX2_append_28 ?_
      refine pr_iconst (v := 1) C dX2_append_31 (by decide) ?_
      refine pr_iadd C dX2_append_32 ?_
      refine pr_p_2_1 C hk0 pr_w57 dX2_append_33 (fun f7 e8 => ?_)
      have h := pr_lt_at h e8
      obtain ⟨rfl, rfl⟩ := pr_inj h
      exact pr_vret C Z dX2_append_36
theorem k_X2_append {l : Launch} {e : pr_E0} {Y : pr_Y} {Rm : Room} {cc : ByteArray} {own : String} {nL : Nat} {c0 : Cond} {pc idx : Nat} {lv : List (Nat × Value)} {st : List Value} {c : Nat} {p1 : Int32} {f : pr_M} {r : Unit} {g : pr_M} (C : pr_C (pr_EC l e) Y Rm cc own nL c0) (w1 : Cond.methodLink own idx yX2_append ∈ pr_AL) (hk0 : pr_LC[c]? = some (2, 0)) (h : F_X2_append c p1 f = some (r, g)) (hr1 : 1 ≤ Rm.frames) (hr2 : 21 ≤ Rm.locals) (hcat : (st.map fun v => v.category).sum ≤ 8) (hdg : decode cc pc = .ok (.invokevirtual idx, 3)) (k : pr_W (pr_EC l e) Y Rm nL g (pc + 3) lv (st)) : pr_W (pr_EC l e) Y Rm nL f pc lv (.int p1 :: .ref (pr_ad (pr_EC l e) c) :: st) :=
  pr_callV (As := [.int p1]) (n := 1) C (m_X2_append hk0 h) hk0 (by decide) rfl w1 pr_w450 pr_w451 pr_w67 pr_w56 rfl rfl ⟨rfl, by decide +kernel, by decide +kernel, by decide +kernel⟩ rfl ⟨hr1, hr2⟩ rfl hcat hdg k

def L_X8_put_34 (q0 : Nat) (x1 : Int64) : Nat → Int32 → pr_M → Option ((Unit) × pr_M)
  | 0, _, _ => none
  | n + 1, x4, f =>
    if x4 < 0 then (
      some ((), f)
    ) else (
      pr_bd (F_X2_append (q0 + 199) ((Int64.toInt32 (x1.toUInt64 >>> (((8 * x4) : Int32).toInt64.toUInt64 &&& Int64.toUInt64 63)).toInt64) &&& 255) f) fun u35004 f35005 =>
      L_X8_put_34 q0 x1 n (x4 + (-1)) f35005
    )
set_option maxHeartbeats 4000000 in
set_option maxRecDepth 100000 in
theorem l_X8_put_34 {l : Launch} {e : pr_E0} {Y : pr_Y} {c0 : Cond} {q0 : Nat} {x1 : Int64} {z : Unit} {g : pr_M} (C : pr_C (pr_EC l e) Y { frames := 2, cells := 0, slots := 0, locals := 46 } cX8_put RX8 5 c0) (hq0 : pr_LC[q0]? = some (8, 0)) : ∀ (n : Nat) (x4 : Int32) (f : pr_M), L_X8_put_34 q0 x1 n x4 f = some (z, g) → pr_W (pr_EC l e) Y { frames := 2, cells := 0, slots := 0, locals := 46 } 5 g 64 [(0, .ref (pr_ad (pr_EC l e) q0))] [] → pr_W (pr_EC l e) Y { frames := 2, cells := 0, slots := 0, locals := 46 } 5 f 34 [(0, .ref (pr_ad (pr_EC l e) q0)), (1, .long x1), (4, .int x4)] [] := by
  intro n
  induction n with
  | zero =>
    intro x4 f h
    exact absurd h (by simp [L_X8_put_34])
  | succ n ih =>
    intro x4 f h K
    rw [L_X8_put_34] at h
    refine pr_iload C dX8_put_34 2 rfl ?_
    refine pr_if_lt (tgt := 64) C dX8_put_36 (by decide) (fun c35001 => ?_) (fun c35001 => ?_)
    · have h := pr_ifT h c35001
      obtain ⟨rfl, rfl⟩ := pr_inj h
      exact pr_pick [0] rfl K
    · have h := pr_ifF h c35001
      refine pr_aload_n C dX8_put_39 rfl 0 rfl ?_
      refine pr_g_8_4 C hq0 pr_w353 dX8_put_40 ?_
      have hk35002 := pr_kC_8_4 hq0
      refine pr_lload_n C dX8_put_43 rfl 1 rfl ?_
      refine pr_bipush (v := 8) C dX8_put_44 (by decide) ?_
      refine pr_iload C dX8_put_46 2 rfl ?_
      refine pr_imul C dX8_put_48 ?_
      refine pr_lushr C dX8_put_49 ?_
      refine pr_l2i C dX8_put_50 ?_
      refine pr_sipush (v := 255) C dX8_put_51 (by decide) ?_
      refine pr_iand C dX8_put_54 ?_
      obtain ⟨u35004, f35005, hc35003, h⟩ := pr_bd_some h
      refine k_X2_append C pr_w449 hk35002 hc35003 (Nat.le_of_ble_eq_true rfl) (Nat.le_of_ble_eq_true rfl) (Nat.le_of_ble_eq_true rfl) dX8_put_55 ?_
      refine pr_iinc (v := (x4 + (-1))) (lv' := [(4, .int (x4 + (-1))), (0, .ref (pr_ad (pr_EC l e) q0)), (1, .long x1)]) C dX8_put_58 2 rfl rfl (by decide) rfl ?_
      refine pr_goto (tgt := 34) C dX8_put_61 (by decide) ?_
      exact pr_pick [1, 2, 0] rfl (ih _ _ h K)
def F_X8_put (c : Nat) (p1 : Int64) (f : pr_M) : Option (Int32 × pr_M) :=
  pr_b1 (F_X8_charactersIn p1 f) fun r2 =>
  if r2 = 0 then (
    some ((-1000000002), f)
  ) else (
    if ((f (c + 199) 1) + r2) ≤ 80 then (
      pr_bd (L_X8_put_34 c p1 pr_fuel (r2 - 1) f) fun v6 f7 =>
      some ((f7 (c + 199) 1), f7)
    ) else (
      some ((-1000000004), f)
    )
  )
set_option maxHeartbeats 4000000 in
set_option maxRecDepth 100000 in
theorem m_X8_put {l : Launch} {e : pr_E0} {c : Nat} {p1 : Int64} {f : pr_M} {r : Int32} {g : pr_M} (hk0 : pr_LC[c]? = some (8, 0)) (h : F_X8_put c p1 f = some (r, g)) : pr_Met (pr_EC l e) yX8_put cX8_put 5 (some .int) { frames := 2, cells := 0, slots := 0, locals := 46 } [.ref (pr_ad (pr_EC l e) c), .long p1] f (some (.int r)) g := by
  rw [F_X8_put] at h
  refine pr_enter (by decide +kernel) (Nat.le_of_ble_eq_true rfl) (fun Y C Z => ?_)
  replace C : pr_C (pr_EC l e) Y { frames := 2, cells := 0, slots := 0, locals := 46 } cX8_put RX8 5 _ := C
  show pr_W (pr_EC l e) Y _ 5 f 0 [(0, .ref (pr_ad (pr_EC l e) c)), (1, .long p1)] []
  refine pr_lload_n C dX8_put_0 rfl 1 rfl ?_
  obtain ⟨r2, hc1, h⟩ := pr_b1_some h
  refine k_X8_charactersIn C pr_w447  hc1 (Nat.le_of_ble_eq_true rfl) (Nat.le_of_ble_eq_true rfl) (Nat.le_of_ble_eq_true rfl) dX8_put_1 ?_
  refine pr_istore_n (lv' := [(3, .int r2), (0, .ref (pr_ad (pr_EC l e) c)), (1, .long p1)]) C dX8_put_4 rfl (by decide) rfl ?_
  refine pr_iload_n C dX8_put_5 rfl 0 rfl ?_
  refine pr_if_ne (tgt := 12) C dX8_put_6 (by decide) (fun c3 => ?_) (fun c3 => ?_)
  · have h := pr_ifF h c3
    refine pr_aload_n C dX8_put_12 rfl 1 rfl ?_
    refine pr_g_8_4 C hk0 pr_w353 dX8_put_13 ?_
    have hk4 := pr_kC_8_4 hk0
    refine pr_gN_2_1 C hk4 pr_nf48 dX8_put_16 ?_
    refine pr_iload_n C dX8_put_19 rfl 0 rfl ?_
    refine pr_iadd C dX8_put_20 ?_
    refine pr_bipush (v := 80) C dX8_put_21 (by decide) ?_
    refine pr_icmp_le (tgt := 29) C dX8_put_23 (by decide) (fun c5 => ?_) (fun c5 => ?_)
    · have h := pr_ifT h c5
      refine pr_iload_n C dX8_put_29 rfl 0 rfl ?_
      refine pr_iconst (v := 1) C dX8_put_30 (by decide) ?_
      refine pr_isub C dX8_put_31 ?_
      refine pr_istore (lv' := [(4, .int (r2 - 1)), (3, .int r2), (0, .ref (pr_ad (pr_EC l e) c)), (1, .long p1)]) C dX8_put_32 (by decide) rfl ?_
      obtain ⟨v6, f7, hv, h⟩ := pr_bd_some h
      refine pr_pick [2, 3, 0] rfl (l_X8_put_34 C hk0 pr_fuel _ _ hv ?_)
      clear hv
      refine pr_aload_n C dX8_put_64 rfl 0 rfl ?_
      refine pr_g_8_4 C hk0 pr_w353 dX8_put_65 ?_
      refine pr_gN_2_1 C hk4 pr_nf48 dX8_put_68 ?_
      obtain ⟨rfl, rfl⟩ := pr_inj h
      exact pr_iret C Z dX8_put_71
    · have h := pr_ifF h c5
      refine pr_ldc (v := (-1000000004)) C dX8_put_26 pr_w446 ?_
      obtain ⟨rfl, rfl⟩ := pr_inj h
      exact pr_iret C Z dX8_put_28
  · have h := pr_ifT h c3
    refine pr_ldc (v := (-1000000002)) C dX8_put_9 pr_w362 ?_
    obtain ⟨rfl, rfl⟩ := pr_inj h
    exact pr_iret C Z dX8_put_11

def F_X8_wipe (c : Nat) (f : pr_M) : Option (Int32 × pr_M) :=
  pr_lt (pr_up f (c + 199) 1 0) fun f2 =>
  some ((f (c + 199) 1), f2)
set_option maxHeartbeats 4000000 in
set_option maxRecDepth 100000 in
theorem m_X8_wipe {l : Launch} {e : pr_E0} {c : Nat} {f : pr_M} {r : Int32} {g : pr_M} (hk0 : pr_LC[c]? = some (8, 0)) (h : F_X8_wipe c f = some (r, g)) : pr_Met (pr_EC l e) yX8_wipe cX8_wipe 2 (some .int) { frames := 0, cells := 0, slots := 0, locals := 0 } [.ref (pr_ad (pr_EC l e) c)] f (some (.int r)) g := by
  rw [F_X8_wipe] at h
  refine pr_enter (by decide +kernel) (Nat.le_of_ble_eq_true rfl) (fun Y C Z => ?_)
  replace C : pr_C (pr_EC l e) Y { frames := 0, cells := 0, slots := 0, locals := 0 } cX8_wipe RX8 2 _ := C
  show pr_W (pr_EC l e) Y _ 2 f 0 [(0, .ref (pr_ad (pr_EC l e) c))] []
  refine pr_aload_n C dX8_wipe_0 rfl 0 rfl ?_
  refine pr_g_8_4 C hk0 pr_w353 dX8_wipe_1 ?_
  have hk1 := pr_kC_8_4 hk0
  refine pr_gN_2_1 C hk1 pr_nf48 dX8_wipe_4 ?_
  refine pr_istore_n (lv' := [(1, .int (f (c + 199) 1)), (0, .ref (pr_ad (pr_EC l e) c))]) C dX8_wipe_7 rfl (by decide) rfl ?_
  refine pr_aload_n C dX8_wipe_8 rfl 1 rfl ?_
  refine pr_g_8_4 C hk0 pr_w353 dX8_wipe_9 ?_
  refine pr_iconst (v := 0) C dX8_wipe_12 (by decide) ?_
  refine pr_pN_2_1 C hk1 pr_nf48 dX8_wipe_13 (fun f2 e3 => ?_)
  have h := pr_lt_at h e3
  refine pr_iload_n C dX8_wipe_16 rfl 0 rfl ?_
  obtain ⟨rfl, rfl⟩ := pr_inj h
  exact pr_iret C Z dX8_wipe_17

def F_X2_beginReading (c : Nat) (f : pr_M) : Option (Unit × pr_M) :=
  pr_lt (pr_up f c 2 0) fun f1 =>
  pr_lt (pr_up f1 c 3 0) fun f3 =>
  some ((), f3)
set_option maxHeartbeats 4000000 in
set_option maxRecDepth 100000 in
theorem m_X2_beginReading {l : Launch} {e : pr_E0} {c : Nat} {f : pr_M} {r : Unit} {g : pr_M} (hk0 : pr_LC[c]? = some (2, 0)) (h : F_X2_beginReading c f = some (r, g)) : pr_Met (pr_EC l e) yX2_beginReading cX2_beginReading 1 none { frames := 0, cells := 0, slots := 0, locals := 0 } [.ref (pr_ad (pr_EC l e) c)] f none g := by
  rw [F_X2_beginReading] at h
  refine pr_enter (by decide +kernel) (Nat.le_of_ble_eq_true rfl) (fun Y C Z => ?_)
  replace C : pr_C (pr_EC l e) Y { frames := 0, cells := 0, slots := 0, locals := 0 } cX2_beginReading RX2 1 _ := C
  show pr_W (pr_EC l e) Y _ 1 f 0 [(0, .ref (pr_ad (pr_EC l e) c))] []
  refine pr_aload_n C dX2_beginReading_0 rfl 0 rfl ?_
  refine pr_iconst (v := 0) C dX2_beginReading_1 (by decide) ?_
  refine pr_p_2_2 C hk0 pr_w60 dX2_beginReading_2 (fun f1 e2 => ?_)
  have h := pr_lt_at h e2
  refine pr_aload_n C dX2_beginReading_5 rfl 0 rfl ?_
  refine pr_iconst (v := 0) C dX2_beginReading_6 (by decide) ?_
  refine pr_p_2_3 C hk0 pr_w61 (by decide) dX2_beginReading_7 (fun f3 e4 => ?_)
  have h := pr_lt_at h e4
  obtain ⟨rfl, rfl⟩ := pr_inj h
  exact pr_vret C Z dX2_beginReading_10
theorem k_X2_beginReading {l : Launch} {e : pr_E0} {Y : pr_Y} {Rm : Room} {cc : ByteArray} {own : String} {nL : Nat} {c0 : Cond} {pc idx : Nat} {lv : List (Nat × Value)} {st : List Value} {c : Nat} {f : pr_M} {r : Unit} {g : pr_M} (C : pr_C (pr_EC l e) Y Rm cc own nL c0) (w1 : Cond.methodLink own idx yX2_beginReading ∈ pr_AL) (hk0 : pr_LC[c]? = some (2, 0)) (h : F_X2_beginReading c f = some (r, g)) (hr1 : 1 ≤ Rm.frames) (hr2 : 20 ≤ Rm.locals) (hcat : (st.map fun v => v.category).sum ≤ 8) (hdg : decode cc pc = .ok (.invokevirtual idx, 3)) (k : pr_W (pr_EC l e) Y Rm nL g (pc + 3) lv (st)) : pr_W (pr_EC l e) Y Rm nL f pc lv (.ref (pr_ad (pr_EC l e) c) :: st) :=
  pr_callV (As := []) (n := 0) C (m_X2_beginReading hk0 h) hk0 (by decide) rfl w1 pr_w96 pr_w97 pr_w67 pr_w59 rfl rfl ⟨rfl, by decide +kernel, by decide +kernel, by decide +kernel⟩ rfl ⟨hr1, hr2⟩ rfl hcat hdg k

def F_X2_codeAt (c : Nat) (p1 : Int32) (f : pr_M) : Option (Int32) :=
  if p1 < 0 then (
    some 0
  ) else (
    if (f c 1) ≤ p1 then (
      some 0
    ) else (
      if 80 ≤ p1 then (
        some 0
      ) else (
        pr_gd (¬ (p1 < 0 ∨ 80 ≤ Int32.toNatClampNeg p1)) <|
        some (f (c + 1) (Int32.toNatClampNeg p1))
      )
    )
  )
set_option maxHeartbeats 4000000 in
set_option maxRecDepth 100000 in
theorem m_X2_codeAt {l : Launch} {e : pr_E0} {c : Nat} {p1 : Int32} {f : pr_M} {r : Int32} (hk0 : pr_LC[c]? = some (2, 0)) (h : F_X2_codeAt c p1 f = some r) : pr_Met (pr_EC l e) yX2_codeAt cX2_codeAt 2 (some .int) { frames := 0, cells := 0, slots := 0, locals := 0 } [.ref (pr_ad (pr_EC l e) c), .int p1] f (some (.int r)) f := by
  rw [F_X2_codeAt] at h
  refine pr_enter (by decide +kernel) (Nat.le_of_ble_eq_true rfl) (fun Y C Z => ?_)
  replace C : pr_C (pr_EC l e) Y { frames := 0, cells := 0, slots := 0, locals := 0 } cX2_codeAt RX2 2 _ := C
  show pr_W (pr_EC l e) Y _ 2 f 0 [(0, .ref (pr_ad (pr_EC l e) c)), (1, .int p1)] []
  refine pr_iload_n C dX2_codeAt_0 rfl 1 rfl ?_
  refine pr_if_lt (tgt := 27) C dX2_codeAt_1 (by decide) (fun c1 => ?_) (fun c1 => ?_)
  · have h := pr_ifT h c1
    refine pr_iconst (v := 0) C dX2_codeAt_27 (by decide) ?_
    obtain rfl := pr_in1 h
    exact pr_iret C Z dX2_codeAt_28
  · have h := pr_ifF h c1
    refine pr_iload_n C dX2_codeAt_4 rfl 1 rfl ?_
    refine pr_aload_n C dX2_codeAt_5 rfl 0 rfl ?_
    refine pr_g_2_1 C hk0 pr_w57 dX2_codeAt_6 ?_
    refine pr_icmp_ge (tgt := 27) C dX2_codeAt_9 (by decide) (fun c2 => ?_) (fun c2 => ?_)
    · have h := pr_ifT h c2
      refine pr_iconst (v := 0) C dX2_codeAt_27 (by decide) ?_
      obtain rfl := pr_in1 h
      exact pr_iret C Z dX2_codeAt_28
    · have h := pr_ifF h c2
      refine pr_iload_n C dX2_codeAt_12 rfl 1 rfl ?_
      refine pr_bipush (v := 80) C dX2_codeAt_13 (by decide) ?_
      refine pr_icmp_ge (tgt := 27) C dX2_codeAt_15 (by decide) (fun c3 => ?_) (fun c3 => ?_)
      · have h := pr_ifT h c3
        refine pr_iconst (v := 0) C dX2_codeAt_27 (by decide) ?_
        obtain rfl := pr_in1 h
        exact pr_iret C Z dX2_codeAt_28
      · have h := pr_ifF h c3
        refine pr_aload_n C dX2_codeAt_18 rfl 0 rfl ?_
        refine pr_g_2_0 C hk0 pr_w55 dX2_codeAt_19 ?_
        have hk4 := pr_kC_2_0 hk0
        refine pr_iload_n C dX2_codeAt_22 rfl 1 rfl ?_
        obtain ⟨hg5, h⟩ := pr_gd_some h
        refine pr_iaload C hk4 hg5 dX2_codeAt_23 ?_
        refine pr_goto (tgt := 28) C dX2_codeAt_24 (by decide) ?_
        obtain rfl := pr_in1 h
        exact pr_iret C Z dX2_codeAt_28
theorem k_X2_codeAt {l : Launch} {e : pr_E0} {Y : pr_Y} {Rm : Room} {cc : ByteArray} {own : String} {nL : Nat} {c0 : Cond} {pc idx : Nat} {lv : List (Nat × Value)} {st : List Value} {c : Nat} {p1 : Int32} {f : pr_M} {r : Int32} (C : pr_C (pr_EC l e) Y Rm cc own nL c0) (w1 : Cond.methodLink own idx yX2_codeAt ∈ pr_AL) (hk0 : pr_LC[c]? = some (2, 0)) (h : F_X2_codeAt c p1 f = some r) (hr1 : 1 ≤ Rm.frames) (hr2 : 21 ≤ Rm.locals) (hcat : (st.map fun v => v.category).sum ≤ 8) (hdg : decode cc pc = .ok (.invokevirtual idx, 3)) (k : pr_W (pr_EC l e) Y Rm nL f (pc + 3) lv (.int r :: st)) : pr_W (pr_EC l e) Y Rm nL f pc lv (.int p1 :: .ref (pr_ad (pr_EC l e) c) :: st) :=
  pr_callV (As := [.int p1]) (n := 1) C (m_X2_codeAt hk0 h) hk0 (by decide) rfl w1 pr_w65 pr_w66 pr_w67 pr_w58 rfl rfl ⟨rfl, by decide +kernel, by decide +kernel, by decide +kernel⟩ rfl ⟨hr1, hr2⟩ rfl hcat hdg k

def F_X2_readSign (c : Nat) (p1 : Int32) (f : pr_M) : Option (Unit × pr_M) :=
  pr_b1 (F_X2_codeAt c (f c 2) f) fun r2 =>
  if r2 = p1 then (
    if (f c 3) = 0 then (
      pr_lt (pr_up f c 2 ((f c 2) + 1)) fun f5 =>
      some ((), f5)
    ) else (
      some ((), f)
    )
  ) else (
    pr_lt (pr_up f c 3 1) fun f7 =>
    if (f7 c 3) = 0 then (
      pr_lt (pr_up f7 c 2 ((f7 c 2) + 1)) fun f10 =>
      some ((), f10)
    ) else (
      some ((), f7)
    )
  )
set_option maxHeartbeats 4000000 in
set_option maxRecDepth 100000 in
theorem m_X2_readSign {l : Launch} {e : pr_E0} {c : Nat} {p1 : Int32} {f : pr_M} {r : Unit} {g : pr_M} (hk0 : pr_LC[c]? = some (2, 0)) (h : F_X2_readSign c p1 f = some (r, g)) : pr_Met (pr_EC l e) yX2_readSign cX2_readSign 2 none { frames := 1, cells := 0, slots := 0, locals := 21 } [.ref (pr_ad (pr_EC l e) c), .int p1] f none g := by
  rw [F_X2_readSign] at h
  refine pr_enter (by decide +kernel) (Nat.le_of_ble_eq_true rfl) (fun Y C Z => ?_)
  replace C : pr_C (pr_EC l e) Y { frames := 1, cells := 0, slots := 0, locals := 21 } cX2_readSign RX2 2 _ := C
  show pr_W (pr_EC l e) Y _ 2 f 0 [(0, .ref (pr_ad (pr_EC l e) c)), (1, .int p1)] []
  refine pr_aload_n C dX2_readSign_0 rfl 0 rfl ?_
  refine pr_aload_n C dX2_readSign_1 rfl 0 rfl ?_
  refine pr_g_2_2 C hk0 pr_w60 dX2_readSign_2 ?_
  obtain ⟨r2, hc1, h⟩ := pr_b1_some h
  refine k_X2_codeAt C pr_w64 hk0 hc1 (Nat.le_of_ble_eq_true rfl) (Nat.le_of_ble_eq_true rfl) (Nat.le_of_ble_eq_true rfl) dX2_readSign_5 ?_
  refine pr_iload_n C dX2_readSign_8 rfl 1 rfl ?_
  refine pr_icmp_eq (tgt := 17) C dX2_readSign_9 (by decide) (fun c3 => ?_) (fun c3 => ?_)
  · have h := pr_ifT h c3
    refine pr_aload_n C dX2_readSign_17 rfl 0 rfl ?_
    refine pr_g_2_3 C hk0 pr_w61 dX2_readSign_18 ?_
    refine pr_if_ne (tgt := 34) C dX2_readSign_21 (by decide) (fun c4 => ?_) (fun c4 => ?_)
    · have h := pr_ifF h c4
      obtain ⟨rfl, rfl⟩ := pr_inj h
      exact pr_vret C Z dX2_readSign_34
    · have h := pr_ifT h c4
      refine pr_aload_n C dX2_readSign_24 rfl 0 rfl ?_
      refine pr_dup C dX2_readSign_25 rfl ?_
      refine pr_g_2_2 C hk0 pr_w60 dX2_readSign_26 ?_
      refine pr_iconst (v := 1) C dX2_readSign_29 (by decide) ?_
      refine pr_iadd C dX2_readSign_30 ?_
      refine pr_p_2_2 C hk0 pr_w60 dX2_readSign_31 (fun f5 e6 => ?_)
      have h := pr_lt_at h e6
      obtain ⟨rfl, rfl⟩ := pr_inj h
      exact pr_vret C Z dX2_readSign_34
  · have h := pr_ifF h c3
    refine pr_aload_n C dX2_readSign_12 rfl 0 rfl ?_
    refine pr_iconst (v := 1) C dX2_readSign_13 (by decide) ?_
    refine pr_p_2_3 C hk0 pr_w61 (by decide) dX2_readSign_14 (fun f7 e8 => ?_)
    have h := pr_lt_at h e8
    refine pr_aload_n C dX2_readSign_17 rfl 0 rfl ?_
    refine pr_g_2_3 C hk0 pr_w61 dX2_readSign_18 ?_
    refine pr_if_ne (tgt := 34) C dX2_readSign_21 (by decide) (fun c9 => ?_) (fun c9 => ?_)
    · have h := pr_ifF h c9
      obtain ⟨rfl, rfl⟩ := pr_inj h
      exact pr_vret C Z dX2_readSign_34
    · have h := pr_ifT h c9
      refine pr_aload_n C dX2_readSign_24 rfl 0 rfl ?_
      refine pr_dup C dX2_readSign_25 rfl ?_
      refine pr_g_2_2 C hk0 pr_w60 dX2_readSign_26 ?_
      refine pr_iconst (v := 1) C dX2_readSign_29 (by decide) ?_
      refine pr_iadd C dX2_readSign_30 ?_
      refine pr_p_2_2 C hk0 pr_w60 dX2_readSign_31 (fun f10 e11 => ?_)
      have h := pr_lt_at h e11
      obtain ⟨rfl, rfl⟩ := pr_inj h
      exact pr_vret C Z dX2_readSign_34
theorem k_X2_readSign {l : Launch} {e : pr_E0} {Y : pr_Y} {Rm : Room} {cc : ByteArray} {own : String} {nL : Nat} {c0 : Cond} {pc idx : Nat} {lv : List (Nat × Value)} {st : List Value} {c : Nat} {p1 : Int32} {f : pr_M} {r : Unit} {g : pr_M} (C : pr_C (pr_EC l e) Y Rm cc own nL c0) (w1 : Cond.methodLink own idx yX2_readSign ∈ pr_AL) (hk0 : pr_LC[c]? = some (2, 0)) (h : F_X2_readSign c p1 f = some (r, g)) (hr1 : 2 ≤ Rm.frames) (hr2 : 42 ≤ Rm.locals) (hcat : (st.map fun v => v.category).sum ≤ 8) (hdg : decode cc pc = .ok (.invokevirtual idx, 3)) (k : pr_W (pr_EC l e) Y Rm nL g (pc + 3) lv (st)) : pr_W (pr_EC l e) Y Rm nL f pc lv (.int p1 :: .ref (pr_ad (pr_EC l e) c) :: st) :=
  pr_callV (As := [.int p1]) (n := 1) C (m_X2_readSign hk0 h) hk0 (by decide) rfl w1 pr_w78 pr_w79 pr_w67 pr_w63 rfl rfl ⟨rfl, by decide +kernel, by decide +kernel, by decide +kernel⟩ rfl ⟨hr1, hr2⟩ rfl hcat hdg k

def F_X2_digitAt (c : Nat) (p1 : Int32) (f : pr_M) : Option (Int32) :=
  pr_b1 (F_X2_codeAt c p1 f) fun r2 =>
  if r2 < 48 then (
    some (-1)
  ) else (
    if 57 < r2 then (
      some (-1)
    ) else (
      some (r2 - 48)
    )
  )
set_option maxHeartbeats 4000000 in
set_option maxRecDepth 100000 in
theorem m_X2_digitAt {l : Launch} {e : pr_E0} {c : Nat} {p1 : Int32} {f : pr_M} {r : Int32} (hk0 : pr_LC[c]? = some (2, 0)) (h : F_X2_digitAt c p1 f = some r) : pr_Met (pr_EC l e) yX2_digitAt cX2_digitAt 3 (some .int) { frames := 1, cells := 0, slots := 0, locals := 21 } [.ref (pr_ad (pr_EC l e) c), .int p1] f (some (.int r)) f := by
  rw [F_X2_digitAt] at h
  refine pr_enter (by decide +kernel) (Nat.le_of_ble_eq_true rfl) (fun Y C Z => ?_)
  replace C : pr_C (pr_EC l e) Y { frames := 1, cells := 0, slots := 0, locals := 21 } cX2_digitAt RX2 3 _ := C
  show pr_W (pr_EC l e) Y _ 3 f 0 [(0, .ref (pr_ad (pr_EC l e) c)), (1, .int p1)] []
  refine pr_aload_n C dX2_digitAt_0 rfl 0 rfl ?_
  refine pr_iload_n C dX2_digitAt_1 rfl 1 rfl ?_
  obtain ⟨r2, hc1, h⟩ := pr_b1_some h
  refine k_X2_codeAt C pr_w64 hk0 hc1 (Nat.le_of_ble_eq_true rfl) (Nat.le_of_ble_eq_true rfl) (Nat.le_of_ble_eq_true rfl) dX2_digitAt_2 ?_
  refine pr_istore_n (lv' := [(2, .int r2), (0, .ref (pr_ad (pr_EC l e) c)), (1, .int p1)]) C dX2_digitAt_5 rfl (by decide) rfl ?_
  refine pr_iload_n C dX2_digitAt_6 rfl 0 rfl ?_
  refine pr_bipush (v := 48) C dX2_digitAt_7 (by decide) ?_
  refine pr_icmp_lt (tgt := 25) C dX2_digitAt_9 (by decide) (fun c3 => ?_) (fun c3 => ?_)
  · have h := pr_ifT h c3
    refine pr_iconst (v := (-1)) C dX2_digitAt_25 (by decide) ?_
    obtain rfl := pr_in1 h
    exact pr_iret C Z dX2_digitAt_26
  · have h := pr_ifF h c3
    refine pr_iload_n C dX2_digitAt_12 rfl 0 rfl ?_
    refine pr_bipush (v := 57) C dX2_digitAt_13 (by decide) ?_
    refine pr_icmp_gt (tgt := 25) C dX2_digitAt_15 (by decide) (fun c4 => ?_) (fun c4 => ?_)
    · have h := pr_ifT h c4
      refine pr_iconst (v := (-1)) C dX2_digitAt_25 (by decide) ?_
      obtain rfl := pr_in1 h
      exact pr_iret C Z dX2_digitAt_26
    · have h := pr_ifF h c4
      refine pr_iload_n C dX2_digitAt_18 rfl 0 rfl ?_
      refine pr_bipush (v := 48) C dX2_digitAt_19 (by decide) ?_
      refine pr_isub C dX2_digitAt_21 ?_
      refine pr_goto (tgt := 26) C dX2_digitAt_22 (by decide) ?_
      obtain rfl := pr_in1 h
      exact pr_iret C Z dX2_digitAt_26
theorem k_X2_digitAt {l : Launch} {e : pr_E0} {Y : pr_Y} {Rm : Room} {cc : ByteArray} {own : String} {nL : Nat} {c0 : Cond} {pc idx : Nat} {lv : List (Nat × Value)} {st : List Value} {c : Nat} {p1 : Int32} {f : pr_M} {r : Int32} (C : pr_C (pr_EC l e) Y Rm cc own nL c0) (w1 : Cond.methodLink own idx yX2_digitAt ∈ pr_AL) (hk0 : pr_LC[c]? = some (2, 0)) (h : F_X2_digitAt c p1 f = some r) (hr1 : 2 ≤ Rm.frames) (hr2 : 43 ≤ Rm.locals) (hcat : (st.map fun v => v.category).sum ≤ 8) (hdg : decode cc pc = .ok (.invokevirtual idx, 3)) (k : pr_W (pr_EC l e) Y Rm nL f (pc + 3) lv (.int r :: st)) : pr_W (pr_EC l e) Y Rm nL f pc lv (.int p1 :: .ref (pr_ad (pr_EC l e) c) :: st) :=
  pr_callV (As := [.int p1]) (n := 1) C (m_X2_digitAt hk0 h) hk0 (by decide) rfl w1 pr_w71 pr_w72 pr_w67 pr_w68 rfl rfl ⟨rfl, by decide +kernel, by decide +kernel, by decide +kernel⟩ rfl ⟨hr1, hr2⟩ rfl hcat hdg k
