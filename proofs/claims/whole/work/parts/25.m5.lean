def L_X2_readNumber_43 (q0 : Nat) (x2 : Int32) : Nat → Int32 → pr_M → Option (Int32 × pr_M)
  | 0, _, _ => none
  | n + 1, x3, f =>
    if (f q0 1) ≤ (f q0 2) then (
      some (x3, f)
    ) else (
      pr_b1 (F_X2_digitAt q0 (f q0 2) f) fun r44003 =>
      if r44003 = (-1) then (
        some (x3, f)
      ) else (
        pr_b1 (F_X2_digitAt q0 (f q0 2) f) fun r44006 =>
        if x3 = 0 then (
          pr_lt (pr_up f q0 3 1) fun f44008 =>
          some (0, f44008)
        ) else (
          if ((10 * x3) + r44006) ≤ x2 then (
            pr_lt (pr_up f q0 2 ((f q0 2) + 1)) fun f44011 =>
            L_X2_readNumber_43 q0 x2 n ((10 * x3) + r44006) f44011
          ) else (
            pr_lt (pr_up f q0 3 1) fun f44013 =>
            some (0, f44013)
          )
        )
      )
    )
set_option maxHeartbeats 4000000 in
set_option maxRecDepth 100000 in
theorem l_X2_readNumber_43 {l : Launch} {e : pr_E0} {Y : pr_Y} {c0 : Cond} {q0 : Nat} {x2 : Int32} {z : Int32} {g : pr_M} (C : pr_C (pr_EC l e) Y { frames := 2, cells := 0, slots := 0, locals := 43 } cX2_readNumber RX2 5 c0) (hq0 : pr_LC[q0]? = some (2, 0)) : ∀ (n : Nat) (x3 : Int32) (f : pr_M), L_X2_readNumber_43 q0 x2 n x3 f = some (z, g) → pr_Z (pr_EC l e) Y (some .int) (some (.int z)) g → pr_W (pr_EC l e) Y { frames := 2, cells := 0, slots := 0, locals := 43 } 5 f 43 [(0, .ref (pr_ad (pr_EC l e) q0)), (2, .int x2), (3, .int x3)] [] := by
  intro n
  induction n with
  | zero =>
    intro x3 f h
    exact absurd h (by simp [L_X2_readNumber_43])
  | succ n ih =>
    intro x3 f h Z
    rw [L_X2_readNumber_43] at h
    refine pr_aload_n C dX2_readNumber_43 rfl 0 rfl ?_
    refine pr_g_2_2 C hq0 pr_w60 dX2_readNumber_44 ?_
    refine pr_aload_n C dX2_readNumber_47 rfl 0 rfl ?_
    refine pr_g_2_1 C hq0 pr_w57 dX2_readNumber_48 ?_
    refine pr_icmp_ge (tgt := 114) C dX2_readNumber_51 (by decide) (fun c44001 => ?_) (fun c44001 => ?_)
    · have h := pr_ifT h c44001
      refine pr_iload_n C dX2_readNumber_114 rfl 2 rfl ?_
      obtain ⟨rfl, rfl⟩ := pr_inj h
      exact pr_iret C Z dX2_readNumber_115
    · have h := pr_ifF h c44001
      refine pr_aload_n C dX2_readNumber_54 rfl 0 rfl ?_
      refine pr_aload_n C dX2_readNumber_55 rfl 0 rfl ?_
      refine pr_g_2_2 C hq0 pr_w60 dX2_readNumber_56 ?_
      obtain ⟨r44003, hc44002, h⟩ := pr_b1_some h
      refine k_X2_digitAt C pr_w70 hq0 hc44002 (Nat.le_of_ble_eq_true rfl) (Nat.le_of_ble_eq_true rfl) (Nat.le_of_ble_eq_true rfl) dX2_readNumber_59 ?_
      refine pr_iconst (v := (-1)) C dX2_readNumber_62 (by decide) ?_
      refine pr_icmp_eq (tgt := 114) C dX2_readNumber_63 (by decide) (fun c44004 => ?_) (fun c44004 => ?_)
      · have h := pr_ifT h c44004
        refine pr_iload_n C dX2_readNumber_114 rfl 2 rfl ?_
        obtain ⟨rfl, rfl⟩ := pr_inj h
        exact pr_iret C Z dX2_readNumber_115
      · have h := pr_ifF h c44004
        refine pr_bipush (v := 10) C dX2_readNumber_66 (by decide) ?_
        refine pr_iload_n C dX2_readNumber_68 rfl 2 rfl ?_
        refine pr_imul C dX2_readNumber_69 ?_
        refine pr_aload_n C dX2_readNumber_70 rfl 0 rfl ?_
        refine pr_aload_n C dX2_readNumber_71 rfl 0 rfl ?_
        refine pr_g_2_2 C hq0 pr_w60 dX2_readNumber_72 ?_
        obtain ⟨r44006, hc44005, h⟩ := pr_b1_some h
        refine k_X2_digitAt C pr_w70 hq0 hc44005 (Nat.le_of_ble_eq_true rfl) (Nat.le_of_ble_eq_true rfl) (Nat.le_of_ble_eq_true rfl) dX2_readNumber_75 ?_
        refine pr_iadd C dX2_readNumber_78 ?_
        refine pr_istore (lv' := [(4, .int ((10 * x3) + r44006)), (0, .ref (pr_ad (pr_EC l e) q0)), (2, .int x2), (3, .int x3)]) C dX2_readNumber_79 (by decide) rfl ?_
        refine pr_iload_n C dX2_readNumber_81 rfl 3 rfl ?_
        refine pr_if_eq (tgt := 91) C dX2_readNumber_82 (by decide) (fun c44007 => ?_) (fun c44007 => ?_)
        · have h := pr_ifT h c44007
          refine pr_aload_n C dX2_readNumber_91 rfl 1 rfl ?_
          refine pr_iconst (v := 1) C dX2_readNumber_92 (by decide) ?_
          refine pr_p_2_3 C hq0 pr_w61 (by decide) dX2_readNumber_93 (fun f44008 e44009 => ?_)
          have h := pr_lt_at h e44009
          refine pr_iconst (v := 0) C dX2_readNumber_96 (by decide) ?_
          obtain ⟨rfl, rfl⟩ := pr_inj h
          exact pr_iret C Z dX2_readNumber_97
        · have h := pr_ifF h c44007
          refine pr_iload C dX2_readNumber_85 0 rfl ?_
          refine pr_iload_n C dX2_readNumber_87 rfl 2 rfl ?_
          refine pr_icmp_le (tgt := 98) C dX2_readNumber_88 (by decide) (fun c44010 => ?_) (fun c44010 => ?_)
          · have h := pr_ifT h c44010
            refine pr_iload C dX2_readNumber_98 0 rfl ?_
            refine pr_istore_n (lv' := [(3, .int ((10 * x3) + r44006)), (4, .int ((10 * x3) + r44006)), (0, .ref (pr_ad (pr_EC l e) q0)), (2, .int x2)]) C dX2_readNumber_100 rfl (by decide) rfl ?_
            refine pr_aload_n C dX2_readNumber_101 rfl 2 rfl ?_
            refine pr_dup C dX2_readNumber_102 rfl ?_
            refine pr_g_2_2 C hq0 pr_w60 dX2_readNumber_103 ?_
            refine pr_iconst (v := 1) C dX2_readNumber_106 (by decide) ?_
            refine pr_iadd C dX2_readNumber_107 ?_
            refine pr_p_2_2 C hq0 pr_w60 dX2_readNumber_108 (fun f44011 e44012 => ?_)
            have h := pr_lt_at h e44012
            refine pr_goto (tgt := 43) C dX2_readNumber_111 (by decide) ?_
            exact pr_pick [2, 3, 0] rfl (ih _ _ h Z)
          · have h := pr_ifF h c44010
            refine pr_aload_n C dX2_readNumber_91 rfl 1 rfl ?_
            refine pr_iconst (v := 1) C dX2_readNumber_92 (by decide) ?_
            refine pr_p_2_3 C hq0 pr_w61 (by decide) dX2_readNumber_93 (fun f44013 e44014 => ?_)
            have h := pr_lt_at h e44014
            refine pr_iconst (v := 0) C dX2_readNumber_96 (by decide) ?_
            obtain ⟨rfl, rfl⟩ := pr_inj h
            exact pr_iret C Z dX2_readNumber_97
def F_X2_readNumber (c : Nat) (p1 : Int32) (p2 : Int32) (f : pr_M) : Option (Int32 × pr_M) :=
  pr_b1 (F_X2_digitAt c (f c 2) f) fun r2 =>
  if r2 = (-1) then (
    pr_lt (pr_up f c 3 1) fun f4 =>
    if (f4 c 3) = 0 then (
      pr_lt (pr_up f4 c 2 ((f4 c 2) + 1)) fun f7 =>
      L_X2_readNumber_43 c p2 pr_fuel r2 f7
    ) else (
      some (0, f4)
    )
  ) else (
    if p1 ≤ r2 then (
      if (f c 3) = 0 then (
        pr_lt (pr_up f c 2 ((f c 2) + 1)) fun f11 =>
        L_X2_readNumber_43 c p2 pr_fuel r2 f11
      ) else (
        some (0, f)
      )
    ) else (
      pr_lt (pr_up f c 3 1) fun f13 =>
      if (f13 c 3) = 0 then (
        pr_lt (pr_up f13 c 2 ((f13 c 2) + 1)) fun f16 =>
        L_X2_readNumber_43 c p2 pr_fuel r2 f16
      ) else (
        some (0, f13)
      )
    )
  )
set_option maxHeartbeats 4000000 in
set_option maxRecDepth 100000 in
theorem m_X2_readNumber {l : Launch} {e : pr_E0} {c : Nat} {p1 : Int32} {p2 : Int32} {f : pr_M} {r : Int32} {g : pr_M} (hk0 : pr_LC[c]? = some (2, 0)) (h : F_X2_readNumber c p1 p2 f = some (r, g)) : pr_Met (pr_EC l e) yX2_readNumber cX2_readNumber 5 (some .int) { frames := 2, cells := 0, slots := 0, locals := 43 } [.ref (pr_ad (pr_EC l e) c), .int p1, .int p2] f (some (.int r)) g := by
  rw [F_X2_readNumber] at h
  refine pr_enter (by decide +kernel) (Nat.le_of_ble_eq_true rfl) (fun Y C Z => ?_)
  replace C : pr_C (pr_EC l e) Y { frames := 2, cells := 0, slots := 0, locals := 43 } cX2_readNumber RX2 5 _ := C
  show pr_W (pr_EC l e) Y _ 5 f 0 [(0, .ref (pr_ad (pr_EC l e) c)), (1, .int p1), (2, .int p2)] []
  refine pr_aload_n C dX2_readNumber_0 rfl 0 rfl ?_
  refine pr_aload_n C dX2_readNumber_1 rfl 0 rfl ?_
  refine pr_g_2_2 C hk0 pr_w60 dX2_readNumber_2 ?_
  obtain ⟨r2, hc1, h⟩ := pr_b1_some h
  refine k_X2_digitAt C pr_w70 hk0 hc1 (Nat.le_of_ble_eq_true rfl) (Nat.le_of_ble_eq_true rfl) (Nat.le_of_ble_eq_true rfl) dX2_readNumber_5 ?_
  refine pr_istore_n (lv' := [(3, .int r2), (0, .ref (pr_ad (pr_EC l e) c)), (1, .int p1), (2, .int p2)]) C dX2_readNumber_8 rfl (by decide) rfl ?_
  refine pr_iload_n C dX2_readNumber_9 rfl 0 rfl ?_
  refine pr_iconst (v := (-1)) C dX2_readNumber_10 (by decide) ?_
  refine pr_icmp_eq (tgt := 19) C dX2_readNumber_11 (by decide) (fun c3 => ?_) (fun c3 => ?_)
  · have h := pr_ifT h c3
    refine pr_aload_n C dX2_readNumber_19 rfl 1 rfl ?_
    refine pr_iconst (v := 1) C dX2_readNumber_20 (by decide) ?_
    refine pr_p_2_3 C hk0 pr_w61 (by decide) dX2_readNumber_21 (fun f4 e5 => ?_)
    have h := pr_lt_at h e5
    refine pr_aload_n C dX2_readNumber_24 rfl 1 rfl ?_
    refine pr_g_2_3 C hk0 pr_w61 dX2_readNumber_25 ?_
    refine pr_if_eq (tgt := 33) C dX2_readNumber_28 (by decide) (fun c6 => ?_) (fun c6 => ?_)
    · have h := pr_ifT h c6
      refine pr_aload_n C dX2_readNumber_33 rfl 1 rfl ?_
      refine pr_dup C dX2_readNumber_34 rfl ?_
      refine pr_g_2_2 C hk0 pr_w60 dX2_readNumber_35 ?_
      refine pr_iconst (v := 1) C dX2_readNumber_38 (by decide) ?_
      refine pr_iadd C dX2_readNumber_39 ?_
      refine pr_p_2_2 C hk0 pr_w60 dX2_readNumber_40 (fun f7 e8 => ?_)
      have h := pr_lt_at h e8
      exact pr_pick [1, 3, 0] rfl (l_X2_readNumber_43 C hk0 pr_fuel _ _ h Z)
    · have h := pr_ifF h c6
      refine pr_iconst (v := 0) C dX2_readNumber_31 (by decide) ?_
      obtain ⟨rfl, rfl⟩ := pr_inj h
      exact pr_iret C Z dX2_readNumber_32
  · have h := pr_ifF h c3
    refine pr_iload_n C dX2_readNumber_14 rfl 0 rfl ?_
    refine pr_iload_n C dX2_readNumber_15 rfl 2 rfl ?_
    refine pr_icmp_ge (tgt := 24) C dX2_readNumber_16 (by decide) (fun c9 => ?_) (fun c9 => ?_)
    · have h := pr_ifT h c9
      refine pr_aload_n C dX2_readNumber_24 rfl 1 rfl ?_
      refine pr_g_2_3 C hk0 pr_w61 dX2_readNumber_25 ?_
      refine pr_if_eq (tgt := 33) C dX2_readNumber_28 (by decide) (fun c10 => ?_) (fun c10 => ?_)
      · have h := pr_ifT h c10
        refine pr_aload_n C dX2_readNumber_33 rfl 1 rfl ?_
        refine pr_dup C dX2_readNumber_34 rfl ?_
        refine pr_g_2_2 C hk0 pr_w60 dX2_readNumber_35 ?_
        refine pr_iconst (v := 1) C dX2_readNumber_38 (by decide) ?_
        refine pr_iadd C dX2_readNumber_39 ?_
        refine pr_p_2_2 C hk0 pr_w60 dX2_readNumber_40 (fun f11 e12 => ?_)
        have h := pr_lt_at h e12
        exact pr_pick [1, 3, 0] rfl (l_X2_readNumber_43 C hk0 pr_fuel _ _ h Z)
      · have h := pr_ifF h c10
        refine pr_iconst (v := 0) C dX2_readNumber_31 (by decide) ?_
        obtain ⟨rfl, rfl⟩ := pr_inj h
        exact pr_iret C Z dX2_readNumber_32
    · have h := pr_ifF h c9
      refine pr_aload_n C dX2_readNumber_19 rfl 1 rfl ?_
      refine pr_iconst (v := 1) C dX2_readNumber_20 (by decide) ?_
      refine pr_p_2_3 C hk0 pr_w61 (by decide) dX2_readNumber_21 (fun f13 e14 => ?_)
      have h := pr_lt_at h e14
      refine pr_aload_n C dX2_readNumber_24 rfl 1 rfl ?_
      refine pr_g_2_3 C hk0 pr_w61 dX2_readNumber_25 ?_
      refine pr_if_eq (tgt := 33) C dX2_readNumber_28 (by decide) (fun c15 => ?_) (fun c15 => ?_)
      · have h := pr_ifT h c15
        refine pr_aload_n C dX2_readNumber_33 rfl 1 rfl ?_
        refine pr_dup C dX2_readNumber_34 rfl ?_
        refine pr_g_2_2 C hk0 pr_w60 dX2_readNumber_35 ?_
        refine pr_iconst (v := 1) C dX2_readNumber_38 (by decide) ?_
        refine pr_iadd C dX2_readNumber_39 ?_
        refine pr_p_2_2 C hk0 pr_w60 dX2_readNumber_40 (fun f16 e17 => ?_)
        have h := pr_lt_at h e17
        exact pr_pick [1, 3, 0] rfl (l_X2_readNumber_43 C hk0 pr_fuel _ _ h Z)
      · have h := pr_ifF h c15
        refine pr_iconst (v := 0) C dX2_readNumber_31 (by decide) ?_
        obtain ⟨rfl, rfl⟩ := pr_inj h
        exact pr_iret C Z dX2_readNumber_32
theorem k_X2_readNumber {l : Launch} {e : pr_E0} {Y : pr_Y} {Rm : Room} {cc : ByteArray} {own : String} {nL : Nat} {c0 : Cond} {pc idx : Nat} {lv : List (Nat × Value)} {st : List Value} {c : Nat} {p1 : Int32} {p2 : Int32} {f : pr_M} {r : Int32} {g : pr_M} (C : pr_C (pr_EC l e) Y Rm cc own nL c0) (w1 : Cond.methodLink own idx yX2_readNumber ∈ pr_AL) (hk0 : pr_LC[c]? = some (2, 0)) (h : F_X2_readNumber c p1 p2 f = some (r, g)) (hr1 : 3 ≤ Rm.frames) (hr2 : 67 ≤ Rm.locals) (hcat : (st.map fun v => v.category).sum ≤ 8) (hdg : decode cc pc = .ok (.invokevirtual idx, 3)) (k : pr_W (pr_EC l e) Y Rm nL g (pc + 3) lv (.int r :: st)) : pr_W (pr_EC l e) Y Rm nL f pc lv (.int p2 :: .int p1 :: .ref (pr_ad (pr_EC l e) c) :: st) :=
  pr_callV (As := [.int p1, .int p2]) (n := 2) C (m_X2_readNumber hk0 h) hk0 (by decide) rfl w1 pr_w81 pr_w82 pr_w67 pr_w69 rfl rfl ⟨rfl, by decide +kernel, by decide +kernel, by decide +kernel⟩ rfl ⟨hr1, hr2⟩ rfl hcat hdg k

def F_X2_readUnit (c : Nat) (f : pr_M) : Option (Int32 × pr_M) :=
  pr_b1 (F_X2_digitAt c (f c 2) f) fun r2 =>
  if r2 = (-1) then (
    pr_lt (pr_up f c 3 1) fun f4 =>
    if (f4 c 3) = 0 then (
      pr_lt (pr_up f4 c 2 ((f4 c 2) + 1)) fun f7 =>
      some (r2, f7)
    ) else (
      some (0, f4)
    )
  ) else (
    if r2 ≤ 4 then (
      if (f c 3) = 0 then (
        pr_lt (pr_up f c 2 ((f c 2) + 1)) fun f11 =>
        some (r2, f11)
      ) else (
        some (0, f)
      )
    ) else (
      pr_lt (pr_up f c 3 1) fun f13 =>
      if (f13 c 3) = 0 then (
        pr_lt (pr_up f13 c 2 ((f13 c 2) + 1)) fun f16 =>
        some (r2, f16)
      ) else (
        some (0, f13)
      )
    )
  )
set_option maxHeartbeats 4000000 in
set_option maxRecDepth 100000 in
theorem m_X2_readUnit {l : Launch} {e : pr_E0} {c : Nat} {f : pr_M} {r : Int32} {g : pr_M} (hk0 : pr_LC[c]? = some (2, 0)) (h : F_X2_readUnit c f = some (r, g)) : pr_Met (pr_EC l e) yX2_readUnit cX2_readUnit 2 (some .int) { frames := 2, cells := 0, slots := 0, locals := 43 } [.ref (pr_ad (pr_EC l e) c)] f (some (.int r)) g := by
  rw [F_X2_readUnit] at h
  refine pr_enter (by decide +kernel) (Nat.le_of_ble_eq_true rfl) (fun Y C Z => ?_)
  replace C : pr_C (pr_EC l e) Y { frames := 2, cells := 0, slots := 0, locals := 43 } cX2_readUnit RX2 2 _ := C
  show pr_W (pr_EC l e) Y _ 2 f 0 [(0, .ref (pr_ad (pr_EC l e) c))] []
  refine pr_aload_n C dX2_readUnit_0 rfl 0 rfl ?_
  refine pr_aload_n C dX2_readUnit_1 rfl 0 rfl ?_
  refine pr_g_2_2 C hk0 pr_w60 dX2_readUnit_2 ?_
  obtain ⟨r2, hc1, h⟩ := pr_b1_some h
  refine k_X2_digitAt C pr_w70 hk0 hc1 (Nat.le_of_ble_eq_true rfl) (Nat.le_of_ble_eq_true rfl) (Nat.le_of_ble_eq_true rfl) dX2_readUnit_5 ?_
  refine pr_istore_n (lv' := [(1, .int r2), (0, .ref (pr_ad (pr_EC l e) c))]) C dX2_readUnit_8 rfl (by decide) rfl ?_
  refine pr_iload_n C dX2_readUnit_9 rfl 0 rfl ?_
  refine pr_iconst (v := (-1)) C dX2_readUnit_10 (by decide) ?_
  refine pr_icmp_eq (tgt := 19) C dX2_readUnit_11 (by decide) (fun c3 => ?_) (fun c3 => ?_)
  · have h := pr_ifT h c3
    refine pr_aload_n C dX2_readUnit_19 rfl 1 rfl ?_
    refine pr_iconst (v := 1) C dX2_readUnit_20 (by decide) ?_
    refine pr_p_2_3 C hk0 pr_w61 (by decide) dX2_readUnit_21 (fun f4 e5 => ?_)
    have h := pr_lt_at h e5
    refine pr_aload_n C dX2_readUnit_24 rfl 1 rfl ?_
    refine pr_g_2_3 C hk0 pr_w61 dX2_readUnit_25 ?_
    refine pr_if_eq (tgt := 33) C dX2_readUnit_28 (by decide) (fun c6 => ?_) (fun c6 => ?_)
    · have h := pr_ifT h c6
      refine pr_aload_n C dX2_readUnit_33 rfl 1 rfl ?_
      refine pr_dup C dX2_readUnit_34 rfl ?_
      refine pr_g_2_2 C hk0 pr_w60 dX2_readUnit_35 ?_
      refine pr_iconst (v := 1) C dX2_readUnit_38 (by decide) ?_
      refine pr_iadd C dX2_readUnit_39 ?_
      refine pr_p_2_2 C hk0 pr_w60 dX2_readUnit_40 (fun f7 e8 => ?_)
      have h := pr_lt_at h e8
      refine pr_iload_n C dX2_readUnit_43 rfl 0 rfl ?_
      obtain ⟨rfl, rfl⟩ := pr_inj h
      exact pr_iret C Z dX2_readUnit_44
    · have h := pr_ifF h c6
      refine pr_iconst (v := 0) C dX2_readUnit_31 (by decide) ?_
      obtain ⟨rfl, rfl⟩ := pr_inj h
      exact pr_iret C Z dX2_readUnit_32
  · have h := pr_ifF h c3
    refine pr_iload_n C dX2_readUnit_14 rfl 0 rfl ?_
    refine pr_iconst (v := 4) C dX2_readUnit_15 (by decide) ?_
    refine pr_icmp_le (tgt := 24) C dX2_readUnit_16 (by decide) (fun c9 => ?_) (fun c9 => ?_)
    · have h := pr_ifT h c9
      refine pr_aload_n C dX2_readUnit_24 rfl 1 rfl ?_
      refine pr_g_2_3 C hk0 pr_w61 dX2_readUnit_25 ?_
      refine pr_if_eq (tgt := 33) C dX2_readUnit_28 (by decide) (fun c10 => ?_) (fun c10 => ?_)
      · have h := pr_ifT h c10
        refine pr_aload_n C dX2_readUnit_33 rfl 1 rfl ?_
        refine pr_dup C dX2_readUnit_34 rfl ?_
        refine pr_g_2_2 C hk0 pr_w60 dX2_readUnit_35 ?_
        refine pr_iconst (v := 1) C dX2_readUnit_38 (by decide) ?_
        refine pr_iadd C dX2_readUnit_39 ?_
        refine pr_p_2_2 C hk0 pr_w60 dX2_readUnit_40 (fun f11 e12 => ?_)
        have h := pr_lt_at h e12
        refine pr_iload_n C dX2_readUnit_43 rfl 0 rfl ?_
        obtain ⟨rfl, rfl⟩ := pr_inj h
        exact pr_iret C Z dX2_readUnit_44
      · have h := pr_ifF h c10
        refine pr_iconst (v := 0) C dX2_readUnit_31 (by decide) ?_
        obtain ⟨rfl, rfl⟩ := pr_inj h
        exact pr_iret C Z dX2_readUnit_32
    · have h := pr_ifF h c9
      refine pr_aload_n C dX2_readUnit_19 rfl 1 rfl ?_
      refine pr_iconst (v := 1) C dX2_readUnit_20 (by decide) ?_
      refine pr_p_2_3 C hk0 pr_w61 (by decide) dX2_readUnit_21 (fun f13 e14 => ?_)
      have h := pr_lt_at h e14
      refine pr_aload_n C dX2_readUnit_24 rfl 1 rfl ?_
      refine pr_g_2_3 C hk0 pr_w61 dX2_readUnit_25 ?_
      refine pr_if_eq (tgt := 33) C dX2_readUnit_28 (by decide) (fun c15 => ?_) (fun c15 => ?_)
      · have h := pr_ifT h c15
        refine pr_aload_n C dX2_readUnit_33 rfl 1 rfl ?_
        refine pr_dup C dX2_readUnit_34 rfl ?_
        refine pr_g_2_2 C hk0 pr_w60 dX2_readUnit_35 ?_
        refine pr_iconst (v := 1) C dX2_readUnit_38 (by decide) ?_
        refine pr_iadd C dX2_readUnit_39 ?_
        refine pr_p_2_2 C hk0 pr_w60 dX2_readUnit_40 (fun f16 e17 => ?_)
        have h := pr_lt_at h e17
        refine pr_iload_n C dX2_readUnit_43 rfl 0 rfl ?_
        obtain ⟨rfl, rfl⟩ := pr_inj h
        exact pr_iret C Z dX2_readUnit_44
      · have h := pr_ifF h c15
        refine pr_iconst (v := 0) C dX2_readUnit_31 (by decide) ?_
        obtain ⟨rfl, rfl⟩ := pr_inj h
        exact pr_iret C Z dX2_readUnit_32
theorem k_X2_readUnit {l : Launch} {e : pr_E0} {Y : pr_Y} {Rm : Room} {cc : ByteArray} {own : String} {nL : Nat} {c0 : Cond} {pc idx : Nat} {lv : List (Nat × Value)} {st : List Value} {c : Nat} {f : pr_M} {r : Int32} {g : pr_M} (C : pr_C (pr_EC l e) Y Rm cc own nL c0) (w1 : Cond.methodLink own idx yX2_readUnit ∈ pr_AL) (hk0 : pr_LC[c]? = some (2, 0)) (h : F_X2_readUnit c f = some (r, g)) (hr1 : 3 ≤ Rm.frames) (hr2 : 64 ≤ Rm.locals) (hcat : (st.map fun v => v.category).sum ≤ 8) (hdg : decode cc pc = .ok (.invokevirtual idx, 3)) (k : pr_W (pr_EC l e) Y Rm nL g (pc + 3) lv (.int r :: st)) : pr_W (pr_EC l e) Y Rm nL f pc lv (.ref (pr_ad (pr_EC l e) c) :: st) :=
  pr_callV (As := []) (n := 0) C (m_X2_readUnit hk0 h) hk0 (by decide) rfl w1 pr_w86 pr_w87 pr_w67 pr_w73 rfl rfl ⟨rfl, by decide +kernel, by decide +kernel, by decide +kernel⟩ rfl ⟨hr1, hr2⟩ rfl hcat hdg k

def F_X2_readDisturbance (c : Nat) (f : pr_M) : Option (Unit × pr_M) :=
  pr_b1 (F_X2_codeAt c (f c 2) f) fun r2 =>
  pr_b1 (α := Int32) (
    if r2 = 45 then (
      some 1
    ) else (
      some 0
    )
  ) fun v3 =>
  if v3 = 0 then (
    pr_bd (F_X2_readNumber c 0 3000 f) fun r7 f8 =>
    pr_lt (pr_up f8 c 6 r7) fun f10 =>
    pr_bd (F_X2_readSign c 47 f10) fun u13 f14 =>
    pr_bd (F_X2_readNumber c 1 50 f14) fun r16 f17 =>
    pr_lt (pr_up f17 c 7 r16) fun f18 =>
    some ((), f18)
  ) else (
    pr_bd (F_X2_readSign c 45 f) fun u21 f22 =>
    pr_bd (F_X2_readNumber c 0 3000 f22) fun r24 f25 =>
    pr_lt (pr_up f25 c 6 (-r24)) fun f27 =>
    pr_bd (F_X2_readSign c 47 f27) fun u30 f31 =>
    pr_bd (F_X2_readNumber c 1 50 f31) fun r33 f34 =>
    pr_lt (pr_up f34 c 7 r33) fun f35 =>
    some ((), f35)
  )
set_option maxHeartbeats 4000000 in
set_option maxRecDepth 100000 in
theorem m_X2_readDisturbance {l : Launch} {e : pr_E0} {c : Nat} {f : pr_M} {r : Unit} {g : pr_M} (hk0 : pr_LC[c]? = some (2, 0)) (h : F_X2_readDisturbance c f = some (r, g)) : pr_Met (pr_EC l e) yX2_readDisturbance cX2_readDisturbance 3 none { frames := 3, cells := 0, slots := 0, locals := 67 } [.ref (pr_ad (pr_EC l e) c)] f none g := by
  rw [F_X2_readDisturbance] at h
  refine pr_enter (by decide +kernel) (Nat.le_of_ble_eq_true rfl) (fun Y C Z => ?_)
  replace C : pr_C (pr_EC l e) Y { frames := 3, cells := 0, slots := 0, locals := 67 } cX2_readDisturbance RX2 3 _ := C
  show pr_W (pr_EC l e) Y _ 3 f 0 [(0, .ref (pr_ad (pr_EC l e) c))] []
  refine pr_aload_n C dX2_readDisturbance_0 rfl 0 rfl ?_
  refine pr_aload_n C dX2_readDisturbance_1 rfl 0 rfl ?_
  refine pr_g_2_2 C hk0 pr_w60 dX2_readDisturbance_2 ?_
  obtain ⟨r2, hc1, h⟩ := pr_b1_some h
  refine k_X2_codeAt C pr_w64 hk0 hc1 (Nat.le_of_ble_eq_true rfl) (Nat.le_of_ble_eq_true rfl) (Nat.le_of_ble_eq_true rfl) dX2_readDisturbance_5 ?_
  refine pr_bipush (v := 45) C dX2_readDisturbance_8 (by decide) ?_
  obtain ⟨v3, hv, h⟩ := pr_b1_some h
  have K : pr_W (pr_EC l e) Y { frames := 3, cells := 0, slots := 0, locals := 67 } 3 f 18 [(0, .ref (pr_ad (pr_EC l e) c))] [.int v3] := by
    refine pr_istore_n (lv' := [(1, .int v3), (0, .ref (pr_ad (pr_EC l e) c))]) C dX2_readDisturbance_18 rfl (by decide) rfl ?_
    refine pr_iload_n C dX2_readDisturbance_19 rfl 0 rfl ?_
    refine pr_if_eq (tgt := 29) C dX2_readDisturbance_20 (by decide) (fun c5 => ?_) (fun c5 => ?_)
    · have h := pr_ifT h c5
      refine pr_aload_n C dX2_readDisturbance_29 rfl 1 rfl ?_
      refine pr_iconst (v := 0) C dX2_readDisturbance_30 (by decide) ?_
      refine pr_sipush (v := 3000) C dX2_readDisturbance_31 (by decide) ?_
      obtain ⟨r7, f8, hc6, h⟩ := pr_bd_some h
      refine k_X2_readNumber C pr_w80 hk0 hc6 (Nat.le_of_ble_eq_true rfl) (Nat.le_of_ble_eq_true rfl) (Nat.le_of_ble_eq_true rfl) dX2_readDisturbance_34 ?_
      refine pr_istore_n (lv' := [(2, .int r7), (1, .int v3), (0, .ref (pr_ad (pr_EC l e) c))]) C dX2_readDisturbance_37 rfl (by decide) rfl ?_
      refine pr_aload_n C dX2_readDisturbance_38 rfl 2 rfl ?_
      refine pr_iload_n C dX2_readDisturbance_39 rfl 1 rfl ?_
      refine pr_if_eq (tgt := 48) C dX2_readDisturbance_40 (by decide) (fun _ => ?_) (fun c9 => absurd c5 c9)
      refine pr_iload_n C dX2_readDisturbance_48 rfl 0 rfl ?_
      refine pr_p_2_6 C hk0 pr_w75 dX2_readDisturbance_49 (fun f10 e11 => ?_)
      have h := pr_lt_at h e11
      refine pr_aload_n C dX2_readDisturbance_52 rfl 2 rfl ?_
      refine pr_bipush (v := 47) C dX2_readDisturbance_53 (by decide) ?_
      obtain ⟨u13, f14, hc12, h⟩ := pr_bd_some h
      refine k_X2_readSign C pr_w77 hk0 hc12 (Nat.le_of_ble_eq_true rfl) (Nat.le_of_ble_eq_true rfl) (Nat.le_of_ble_eq_true rfl) dX2_readDisturbance_55 ?_
      refine pr_aload_n C dX2_readDisturbance_58 rfl 2 rfl ?_
      refine pr_aload_n C dX2_readDisturbance_59 rfl 2 rfl ?_
      refine pr_iconst (v := 1) C dX2_readDisturbance_60 (by decide) ?_
      refine pr_bipush (v := 50) C dX2_readDisturbance_61 (by decide) ?_
      obtain ⟨r16, f17, hc15, h⟩ := pr_bd_some h
      refine k_X2_readNumber C pr_w80 hk0 hc15 (Nat.le_of_ble_eq_true rfl) (Nat.le_of_ble_eq_true rfl) (Nat.le_of_ble_eq_true rfl) dX2_readDisturbance_63 ?_
      refine pr_p_2_7 C hk0 pr_w76 dX2_readDisturbance_66 (fun f18 e19 => ?_)
      have h := pr_lt_at h e19
      obtain ⟨rfl, rfl⟩ := pr_inj h
      exact pr_vret C Z dX2_readDisturbance_69
    · have h := pr_ifF h c5
      refine pr_aload_n C dX2_readDisturbance_23 rfl 1 rfl ?_
      refine pr_bipush (v := 45) C dX2_readDisturbance_24 (by decide) ?_
      obtain ⟨u21, f22, hc20, h⟩ := pr_bd_some h
      refine k_X2_readSign C pr_w77 hk0 hc20 (Nat.le_of_ble_eq_true rfl) (Nat.le_of_ble_eq_true rfl) (Nat.le_of_ble_eq_true rfl) dX2_readDisturbance_26 ?_
      refine pr_aload_n C dX2_readDisturbance_29 rfl 1 rfl ?_
      refine pr_iconst (v := 0) C dX2_readDisturbance_30 (by decide) ?_
      refine pr_sipush (v := 3000) C dX2_readDisturbance_31 (by decide) ?_
      obtain ⟨r24, f25, hc23, h⟩ := pr_bd_some h
      refine k_X2_readNumber C pr_w80 hk0 hc23 (Nat.le_of_ble_eq_true rfl) (Nat.le_of_ble_eq_true rfl) (Nat.le_of_ble_eq_true rfl) dX2_readDisturbance_34 ?_
      refine pr_istore_n (lv' := [(2, .int r24), (1, .int v3), (0, .ref (pr_ad (pr_EC l e) c))]) C dX2_readDisturbance_37 rfl (by decide) rfl ?_
      refine pr_aload_n C dX2_readDisturbance_38 rfl 2 rfl ?_
      refine pr_iload_n C dX2_readDisturbance_39 rfl 1 rfl ?_
      refine pr_if_eq (tgt := 48) C dX2_readDisturbance_40 (by decide) (fun c26 => absurd c26 c5) (fun _ => ?_)
      refine pr_iload_n C dX2_readDisturbance_43 rfl 0 rfl ?_
      refine pr_ineg C dX2_readDisturbance_44 ?_
      refine pr_goto (tgt := 49) C dX2_readDisturbance_45 (by decide) ?_
      refine pr_p_2_6 C hk0 pr_w75 dX2_readDisturbance_49 (fun f27 e28 => ?_)
      have h := pr_lt_at h e28
      refine pr_aload_n C dX2_readDisturbance_52 rfl 2 rfl ?_
      refine pr_bipush (v := 47) C dX2_readDisturbance_53 (by decide) ?_
      obtain ⟨u30, f31, hc29, h⟩ := pr_bd_some h
      refine k_X2_readSign C pr_w77 hk0 hc29 (Nat.le_of_ble_eq_true rfl) (Nat.le_of_ble_eq_true rfl) (Nat.le_of_ble_eq_true rfl) dX2_readDisturbance_55 ?_
      refine pr_aload_n C dX2_readDisturbance_58 rfl 2 rfl ?_
      refine pr_aload_n C dX2_readDisturbance_59 rfl 2 rfl ?_
      refine pr_iconst (v := 1) C dX2_readDisturbance_60 (by decide) ?_
      refine pr_bipush (v := 50) C dX2_readDisturbance_61 (by decide) ?_
      obtain ⟨r33, f34, hc32, h⟩ := pr_bd_some h
      refine k_X2_readNumber C pr_w80 hk0 hc32 (Nat.le_of_ble_eq_true rfl) (Nat.le_of_ble_eq_true rfl) (Nat.le_of_ble_eq_true rfl) dX2_readDisturbance_63 ?_
      refine pr_p_2_7 C hk0 pr_w76 dX2_readDisturbance_66 (fun f35 e36 => ?_)
      have h := pr_lt_at h e36
      obtain ⟨rfl, rfl⟩ := pr_inj h
      exact pr_vret C Z dX2_readDisturbance_69
  clear h
  have h := hv
  clear hv
  refine pr_icmp_ne (tgt := 17) C dX2_readDisturbance_10 (by decide) (fun c4 => ?_) (fun c4 => ?_)
  · have h := pr_ifF h c4
    refine pr_iconst (v := 0) C dX2_readDisturbance_17 (by decide) ?_
    obtain rfl := pr_in1 h
    exact pr_pick [0] rfl K
  · have h := pr_ifT h c4
    refine pr_iconst (v := 1) C dX2_readDisturbance_13 (by decide) ?_
    refine pr_goto (tgt := 18) C dX2_readDisturbance_14 (by decide) ?_
    obtain rfl := pr_in1 h
    exact pr_pick [0] rfl K
theorem k_X2_readDisturbance {l : Launch} {e : pr_E0} {Y : pr_Y} {Rm : Room} {cc : ByteArray} {own : String} {nL : Nat} {c0 : Cond} {pc idx : Nat} {lv : List (Nat × Value)} {st : List Value} {c : Nat} {f : pr_M} {r : Unit} {g : pr_M} (C : pr_C (pr_EC l e) Y Rm cc own nL c0) (w1 : Cond.methodLink own idx yX2_readDisturbance ∈ pr_AL) (hk0 : pr_LC[c]? = some (2, 0)) (h : F_X2_readDisturbance c f = some (r, g)) (hr1 : 4 ≤ Rm.frames) (hr2 : 89 ≤ Rm.locals) (hcat : (st.map fun v => v.category).sum ≤ 8) (hdg : decode cc pc = .ok (.invokevirtual idx, 3)) (k : pr_W (pr_EC l e) Y Rm nL g (pc + 3) lv (st)) : pr_W (pr_EC l e) Y Rm nL f pc lv (.ref (pr_ad (pr_EC l e) c) :: st) :=
  pr_callV (As := []) (n := 0) C (m_X2_readDisturbance hk0 h) hk0 (by decide) rfl w1 pr_w89 pr_w90 pr_w67 pr_w74 rfl rfl ⟨rfl, by decide +kernel, by decide +kernel, by decide +kernel⟩ rfl ⟨hr1, hr2⟩ rfl hcat hdg k

def F_X2_readStep (c : Nat) (f : pr_M) : Option (Unit × pr_M) :=
  if (f c 2) ≤ 0 then (
    pr_b1 (F_X2_codeAt c (f c 2) f) fun r3 =>
    pr_lt (pr_up f c 4 r3) fun f4 =>
    if (f4 c 4) = 100 then (
      pr_bd (F_X2_readSign c 100 f4) fun u8 f9 =>
      pr_bd (F_X2_readUnit c f9) fun r11 f12 =>
      pr_lt (pr_up f12 c 5 r11) fun f13 =>
      pr_bd (F_X2_readSign c 58 f13) fun u16 f17 =>
      pr_bd (F_X2_readDisturbance c f17) fun u19 f20 =>
      some ((), f20)
    ) else (
      if (f4 c 4) = 110 then (
        pr_bd (F_X2_readSign c 110 f4) fun u23 f24 =>
        pr_bd (F_X2_readNumber c 1 99 f24) fun r26 f27 =>
        pr_lt (pr_up f27 c 6 r26) fun f28 =>
        some ((), f28)
      ) else (
        if (f4 c 4) = 112 then (
          pr_bd (F_X2_readSign c 112 f4) fun u32 f33 =>
          pr_bd (F_X2_readDisturbance c f33) fun u35 f36 =>
          some ((), f36)
        ) else (
          if (f4 c 4) = 118 then (
            pr_bd (F_X2_readSign c 118 f4) fun u39 f40 =>
            pr_bd (F_X2_readNumber c 0 1000 f40) fun r42 f43 =>
            pr_lt (pr_up f43 c 6 r42) fun f44 =>
            some ((), f44)
          ) else (
            pr_lt (pr_up f4 c 3 1) fun f46 =>
            some ((), f46)
            )
            )
            )
            )
  ) else (
    pr_bd (F_X2_readSign c 44 f) fun u49 f50 =>
    pr_b1 (F_X2_codeAt c (f50 c 2) f50) fun r52 =>
    pr_lt (pr_up f50 c 4 r52) fun f53 =>
    if (f53 c 4) = 100 then (
      pr_bd (F_X2_readSign c 100 f53) fun u57 f58 =>
      pr_bd (F_X2_readUnit c f58) fun r60 f61 =>
      pr_lt (pr_up f61 c 5 r60) fun f62 =>
      pr_bd (F_X2_readSign c 58 f62) fun u65 f66 =>
      pr_bd (F_X2_readDisturbance c f66) fun u68 f69 =>
      some ((), f69)
    ) else (
      if (f53 c 4) = 110 then (
        pr_bd (F_X2_readSign c 110 f53) fun u72 f73 =>
        pr_bd (F_X2_readNumber c 1 99 f73) fun r75 f76 =>
        pr_lt (pr_up f76 c 6 r75) fun f77 =>
        some ((), f77)
      ) else (
        if (f53 c 4) = 112 then (
          pr_bd (F_X2_readSign c 112 f53) fun u81 f82 =>
          pr_bd (F_X2_readDisturbance c f82) fun u84 f85 =>
          some ((), f85)
        ) else (
          if (f53 c 4) = 118 then (
            pr_bd (F_X2_readSign c 118 f53) fun u88 f89 =>
            pr_bd (F_X2_readNumber c 0 1000 f89) fun r91 f92 =>
            pr_lt (pr_up f92 c 6 r91) fun f93 =>
            some ((), f93)
          ) else (
            pr_lt (pr_up f53 c 3 1) fun f95 =>
            some ((), f95)
            )
            )
            )
            )
  )
set_option maxHeartbeats 4000000 in
set_option maxRecDepth 100000 in
theorem m_X2_readStep {l : Launch} {e : pr_E0} {c : Nat} {f : pr_M} {r : Unit} {g : pr_M} (hk0 : pr_LC[c]? = some (2, 0)) (h : F_X2_readStep c f = some (r, g)) : pr_Met (pr_EC l e) yX2_readStep cX2_readStep 1 none { frames := 4, cells := 0, slots := 0, locals := 89 } [.ref (pr_ad (pr_EC l e) c)] f none g := by
  rw [F_X2_readStep] at h
  refine pr_enter (by decide +kernel) (Nat.le_of_ble_eq_true rfl) (fun Y C Z => ?_)
  replace C : pr_C (pr_EC l e) Y { frames := 4, cells := 0, slots := 0, locals := 89 } cX2_readStep RX2 1 _ := C
  show pr_W (pr_EC l e) Y _ 1 f 0 [(0, .ref (pr_ad (pr_EC l e) c))] []
  refine pr_aload_n C dX2_readStep_0 rfl 0 rfl ?_
  refine pr_g_2_2 C hk0 pr_w60 dX2_readStep_1 ?_
  refine pr_if_le (tgt := 13) C dX2_readStep_4 (by decide) (fun c1 => ?_) (fun c1 => ?_)
  · have h := pr_ifT h c1
    refine pr_aload_n C dX2_readStep_13 rfl 0 rfl ?_
    refine pr_aload_n C dX2_readStep_14 rfl 0 rfl ?_
    refine pr_aload_n C dX2_readStep_15 rfl 0 rfl ?_
    refine pr_g_2_2 C hk0 pr_w60 dX2_readStep_16 ?_
    obtain ⟨r3, hc2, h⟩ := pr_b1_some h
    refine k_X2_codeAt C pr_w64 hk0 hc2 (Nat.le_of_ble_eq_true rfl) (Nat.le_of_ble_eq_true rfl) (Nat.le_of_ble_eq_true rfl) dX2_readStep_19 ?_
    refine pr_p_2_4 C hk0 pr_w83 dX2_readStep_22 (fun f4 e5 => ?_)
    have h := pr_lt_at h e5
    refine pr_aload_n C dX2_readStep_25 rfl 0 rfl ?_
    refine pr_g_2_4 C hk0 pr_w83 dX2_readStep_26 ?_
    by_cases c6 : (f4 c 4) = 100
    · have h := pr_ifT h c6
      refine pr_lookup (tgt := 113) (off := 84) C dX2_readStep_29 c6 (by decide) (by decide) (by decide) ?_
      refine pr_aload_n C dX2_readStep_113 rfl 0 rfl ?_
      refine pr_bipush (v := 100) C dX2_readStep_114 (by decide) ?_
      obtain ⟨u8, f9, hc7, h⟩ := pr_bd_some h
      refine k_X2_readSign C pr_w77 hk0 hc7 (Nat.le_of_ble_eq_true rfl) (Nat.le_of_ble_eq_true rfl) (Nat.le_of_ble_eq_true rfl) dX2_readStep_116 ?_
      refine pr_aload_n C dX2_readStep_119 rfl 0 rfl ?_
      refine pr_aload_n C dX2_readStep_120 rfl 0 rfl ?_
      obtain ⟨r11, f12, hc10, h⟩ := pr_bd_some h
      refine k_X2_readUnit C pr_w85 hk0 hc10 (Nat.le_of_ble_eq_true rfl) (Nat.le_of_ble_eq_true rfl) (Nat.le_of_ble_eq_true rfl) dX2_readStep_121 ?_
      refine pr_p_2_5 C hk0 pr_w84 dX2_readStep_124 (fun f13 e14 => ?_)
      have h := pr_lt_at h e14
      refine pr_aload_n C dX2_readStep_127 rfl 0 rfl ?_
      refine pr_bipush (v := 58) C dX2_readStep_128 (by decide) ?_
      obtain ⟨u16, f17, hc15, h⟩ := pr_bd_some h
      refine k_X2_readSign C pr_w77 hk0 hc15 (Nat.le_of_ble_eq_true rfl) (Nat.le_of_ble_eq_true rfl) (Nat.le_of_ble_eq_true rfl) dX2_readStep_130 ?_
      refine pr_aload_n C dX2_readStep_133 rfl 0 rfl ?_
      obtain ⟨u19, f20, hc18, h⟩ := pr_bd_some h
      refine k_X2_readDisturbance C pr_w88 hk0 hc18 (Nat.le_of_ble_eq_true rfl) (Nat.le_of_ble_eq_true rfl) (Nat.le_of_ble_eq_true rfl) dX2_readStep_134 ?_
      refine pr_goto (tgt := 158) C dX2_readStep_137 (by decide) ?_
      obtain ⟨rfl, rfl⟩ := pr_inj h
      exact pr_vret C Z dX2_readStep_158
    · have h := pr_ifF h c6
      by_cases c21 : (f4 c 4) = 110
      · have h := pr_ifT h c21
        refine pr_lookup (tgt := 72) (off := 43) C dX2_readStep_29 c21 (by decide) (by decide) (by decide) ?_
        refine pr_aload_n C dX2_readStep_72 rfl 0 rfl ?_
        refine pr_bipush (v := 110) C dX2_readStep_73 (by decide) ?_
        obtain ⟨u23, f24, hc22, h⟩ := pr_bd_some h
        refine k_X2_readSign C pr_w77 hk0 hc22 (Nat.le_of_ble_eq_true rfl) (Nat.le_of_ble_eq_true rfl) (Nat.le_of_ble_eq_true rfl) dX2_readStep_75 ?_
        refine pr_aload_n C dX2_readStep_78 rfl 0 rfl ?_
        refine pr_aload_n C dX2_readStep_79 rfl 0 rfl ?_
        refine pr_iconst (v := 1) C dX2_readStep_80 (by decide) ?_
        refine pr_bipush (v := 99) C dX2_readStep_81 (by decide) ?_
        obtain ⟨r26, f27, hc25, h⟩ := pr_bd_some h
        refine k_X2_readNumber C pr_w80 hk0 hc25 (Nat.le_of_ble_eq_true rfl) (Nat.le_of_ble_eq_true rfl) (Nat.le_of_ble_eq_true rfl) dX2_readStep_83 ?_
        refine pr_p_2_6 C hk0 pr_w75 dX2_readStep_86 (fun f28 e29 => ?_)
        have h := pr_lt_at h e29
        refine pr_goto (tgt := 158) C dX2_readStep_89 (by decide) ?_
        obtain ⟨rfl, rfl⟩ := pr_inj h
        exact pr_vret C Z dX2_readStep_158
      · have h := pr_ifF h c21
        by_cases c30 : (f4 c 4) = 112
        · have h := pr_ifT h c30
          refine pr_lookup (tgt := 140) (off := 111) C dX2_readStep_29 c30 (by decide) (by decide) (by decide) ?_
          refine pr_aload_n C dX2_readStep_140 rfl 0 rfl ?_
          refine pr_bipush (v := 112) C dX2_readStep_141 (by decide) ?_
          obtain ⟨u32, f33, hc31, h⟩ := pr_bd_some h
          refine k_X2_readSign C pr_w77 hk0 hc31 (Nat.le_of_ble_eq_true rfl) (Nat.le_of_ble_eq_true rfl) (Nat.le_of_ble_eq_true rfl) dX2_readStep_143 ?_
          refine pr_aload_n C dX2_readStep_146 rfl 0 rfl ?_
          obtain ⟨u35, f36, hc34, h⟩ := pr_bd_some h
          refine k_X2_readDisturbance C pr_w88 hk0 hc34 (Nat.le_of_ble_eq_true rfl) (Nat.le_of_ble_eq_true rfl) (Nat.le_of_ble_eq_true rfl) dX2_readStep_147 ?_
          refine pr_goto (tgt := 158) C dX2_readStep_150 (by decide) ?_
          obtain ⟨rfl, rfl⟩ := pr_inj h
          exact pr_vret C Z dX2_readStep_158
        · have h := pr_ifF h c30
          by_cases c37 : (f4 c 4) = 118
          · have h := pr_ifT h c37
            refine pr_lookup (tgt := 92) (off := 63) C dX2_readStep_29 c37 (by decide) (by decide) (by decide) ?_
            refine pr_aload_n C dX2_readStep_92 rfl 0 rfl ?_
            refine pr_bipush (v := 118) C dX2_readStep_93 (by decide) ?_
            obtain ⟨u39, f40, hc38, h⟩ := pr_bd_some h
            refine k_X2_readSign C pr_w77 hk0 hc38 (Nat.le_of_ble_eq_true rfl) (Nat.le_of_ble_eq_true rfl) (Nat.le_of_ble_eq_true rfl) dX2_readStep_95 ?_
            refine pr_aload_n C dX2_readStep_98 rfl 0 rfl ?_
            refine pr_aload_n C dX2_readStep_99 rfl 0 rfl ?_
            refine pr_iconst (v := 0) C dX2_readStep_100 (by decide) ?_
            refine pr_sipush (v := 1000) C dX2_readStep_101 (by decide) ?_
            obtain ⟨r42, f43, hc41, h⟩ := pr_bd_some h
            refine k_X2_readNumber C pr_w80 hk0 hc41 (Nat.le_of_ble_eq_true rfl) (Nat.le_of_ble_eq_true rfl) (Nat.le_of_ble_eq_true rfl) dX2_readStep_104 ?_
            refine pr_p_2_6 C hk0 pr_w75 dX2_readStep_107 (fun f44 e45 => ?_)
            have h := pr_lt_at h e45
            refine pr_goto (tgt := 158) C dX2_readStep_110 (by decide) ?_
            obtain ⟨rfl, rfl⟩ := pr_inj h
            exact pr_vret C Z dX2_readStep_158
          · have h := pr_ifF h c37
            refine pr_lookup (tgt := 153) (off := 124) (v := (f4 c 4)) C dX2_readStep_29 rfl (by decide) (by rw [lv_osw c6 (by decide), lv_osw c21 (by decide), lv_osw c30 (by decide), lv_osw c37 (by decide)] <;> rfl) (by decide) ?_
            refine pr_aload_n C dX2_readStep_153 rfl 0 rfl ?_
            refine pr_iconst (v := 1) C dX2_readStep_154 (by decide) ?_
            refine pr_p_2_3 C hk0 pr_w61 (by decide) dX2_readStep_155 (fun f46 e47 => ?_)
            have h := pr_lt_at h e47
            obtain ⟨rfl, rfl⟩ := pr_inj h
            exact pr_vret C Z dX2_readStep_158
  · have h := pr_ifF h c1
    refine pr_aload_n C dX2_readStep_7 rfl 0 rfl ?_
    refine pr_bipush (v := 44) C dX2_readStep_8 (by decide) ?_
    obtain ⟨u49, f50, hc48, h⟩ := pr_bd_some h
    refine k_X2_readSign C pr_w77 hk0 hc48 (Nat.le_of_ble_eq_true rfl) (Nat.le_of_ble_eq_true rfl) (Nat.le_of_ble_eq_true rfl) dX2_readStep_10 ?_
    refine pr_aload_n C dX2_readStep_13 rfl 0 rfl ?_
    refine pr_aload_n C dX2_readStep_14 rfl 0 rfl ?_
    refine pr_aload_n C dX2_readStep_15 rfl 0 rfl ?_
    refine pr_g_2_2 C hk0 pr_w60 dX2_readStep_16 ?_
    obtain ⟨r52, hc51, h⟩ := pr_b1_some h
    refine k_X2_codeAt C pr_w64 hk0 hc51 (Nat.le_of_ble_eq_true rfl) (Nat.le_of_ble_eq_true rfl) (Nat.le_of_ble_eq_true rfl) dX2_readStep_19 ?_
    refine pr_p_2_4 C hk0 pr_w83 dX2_readStep_22 (fun f53 e54 => ?_)
    have h := pr_lt_at h e54
    refine pr_aload_n C dX2_readStep_25 rfl 0 rfl ?_
    refine pr_g_2_4 C hk0 pr_w83 dX2_readStep_26 ?_
    by_cases c55 : (f53 c 4) = 100
    · have h := pr_ifT h c55
      refine pr_lookup (tgt := 113) (off := 84) C dX2_readStep_29 c55 (by decide) (by decide) (by decide) ?_
      refine pr_aload_n C dX2_readStep_113 rfl 0 rfl ?_
      refine pr_bipush (v := 100) C dX2_readStep_114 (by decide) ?_
      obtain ⟨u57, f58, hc56, h⟩ := pr_bd_some h
      refine k_X2_readSign C pr_w77 hk0 hc56 (Nat.le_of_ble_eq_true rfl) (Nat.le_of_ble_eq_true rfl) (Nat.le_of_ble_eq_true rfl) dX2_readStep_116 ?_
      refine pr_aload_n C dX2_readStep_119 rfl 0 rfl ?_
      refine pr_aload_n C dX2_readStep_120 rfl 0 rfl ?_
      obtain ⟨r60, f61, hc59, h⟩ := pr_bd_some h
      refine k_X2_readUnit C pr_w85 hk0 hc59 (Nat.le_of_ble_eq_true rfl) (Nat.le_of_ble_eq_true rfl) (Nat.le_of_ble_eq_true rfl) dX2_readStep_121 ?_
      refine pr_p_2_5 C hk0 pr_w84 dX2_readStep_124 (fun f62 e63 => ?_)
      have h := pr_lt_at h e63
      refine pr_aload_n C dX2_readStep_127 rfl 0 rfl ?_
      refine pr_bipush (v := 58) C dX2_readStep_128 (by decide) ?_
      obtain ⟨u65, f66, hc64, h⟩ := pr_bd_some h
      refine k_X2_readSign C pr_w77 hk0 hc64 (Nat.le_of_ble_eq_true rfl) (Nat.le_of_ble_eq_true rfl) (Nat.le_of_ble_eq_true rfl) dX2_readStep_130 ?_
      refine pr_aload_n C dX2_readStep_133 rfl 0 rfl ?_
      obtain ⟨u68, f69, hc67, h⟩ := pr_bd_some h
      refine k_X2_readDisturbance C pr_w88 hk0 hc67 (Nat.le_of_ble_eq_true rfl) (Nat.le_of_ble_eq_true rfl) (Nat.le_of_ble_eq_true rfl) dX2_readStep_134 ?_
      refine pr_goto (tgt := 158) C dX2_readStep_137 (by decide) ?_
      obtain ⟨rfl, rfl⟩ := pr_inj h
      exact pr_vret C Z dX2_readStep_158
    · have h := pr_ifF h c55
      by_cases c70 : (f53 c 4) = 110
      · have h := pr_ifT h c70
        refine pr_lookup (tgt := 72) (off := 43) C dX2_readStep_29 c70 (by decide) (by decide) (by decide) ?_
        refine pr_aload_n C dX2_readStep_72 rfl 0 rfl ?_
        refine pr_bipush (v := 110) C dX2_readStep_73 (by decide) ?_
        obtain ⟨u72, f73, hc71, h⟩ := pr_bd_some h
        refine k_X2_readSign C pr_w77 hk0 hc71 (Nat.le_of_ble_eq_true rfl) (Nat.le_of_ble_eq_true rfl) (Nat.le_of_ble_eq_true rfl) dX2_readStep_75 ?_
        refine pr_aload_n C dX2_readStep_78 rfl 0 rfl ?_
        refine pr_aload_n C dX2_readStep_79 rfl 0 rfl ?_
        refine pr_iconst (v := 1) C dX2_readStep_80 (by decide) ?_
        refine pr_bipush (v := 99) C dX2_readStep_81 (by decide) ?_
        obtain ⟨r75, f76, hc74, h⟩ := pr_bd_some h
        refine k_X2_readNumber C pr_w80 hk0 hc74 (Nat.le_of_ble_eq_true rfl) (Nat.le_of_ble_eq_true rfl) (Nat.le_of_ble_eq_true rfl) dX2_readStep_83 ?_
        refine pr_p_2_6 C hk0 pr_w75 dX2_readStep_86 (fun f77 e78 => ?_)
        have h := pr_lt_at h e78
        refine pr_goto (tgt := 158) C dX2_readStep_89 (by decide) ?_
        obtain ⟨rfl, rfl⟩ := pr_inj h
        exact pr_vret C Z dX2_readStep_158
      · have h := pr_ifF h c70
        by_cases c79 : (f53 c 4) = 112
        · have h := pr_ifT h c79
          refine pr_lookup (tgt := 140) (off := 111) C dX2_readStep_29 c79 (by decide) (by decide) (by decide) ?_
          refine pr_aload_n C dX2_readStep_140 rfl 0 rfl ?_
          refine pr_bipush (v := 112) C dX2_readStep_141 (by decide) ?_
          obtain ⟨u81, f82, hc80, h⟩ := pr_bd_some h
          refine k_X2_readSign C pr_w77 hk0 hc80 (Nat.le_of_ble_eq_true rfl) (Nat.le_of_ble_eq_true rfl) (Nat.le_of_ble_eq_true rfl) dX2_readStep_143 ?_
          refine pr_aload_n C dX2_readStep_146 rfl 0 rfl ?_
          obtain ⟨u84, f85, hc83, h⟩ := pr_bd_some h
          refine k_X2_readDisturbance C pr_w88 hk0 hc83 (Nat.le_of_ble_eq_true rfl) (Nat.le_of_ble_eq_true rfl) (Nat.le_of_ble_eq_true rfl) dX2_readStep_147 ?_
          refine pr_goto (tgt := 158) C dX2_readStep_150 (by decide) ?_
          obtain ⟨rfl, rfl⟩ := pr_inj h
          exact pr_vret C Z dX2_readStep_158
        · have h := pr_ifF h c79
          by_cases c86 : (f53 c 4) = 118
          · have h := pr_ifT h c86
            refine pr_lookup (tgt := 92) (off := 63) C dX2_readStep_29 c86 (by decide) (by decide) (by decide) ?_
            refine pr_aload_n C dX2_readStep_92 rfl 0 rfl ?_
            refine pr_bipush (v := 118) C dX2_readStep_93 (by decide) ?_
            obtain ⟨u88, f89, hc87, h⟩ := pr_bd_some h
            refine k_X2_readSign C pr_w77 hk0 hc87 (Nat.le_of_ble_eq_true rfl) (Nat.le_of_ble_eq_true rfl) (Nat.le_of_ble_eq_true rfl) dX2_readStep_95 ?_
            refine pr_aload_n C dX2_readStep_98 rfl 0 rfl ?_
            refine pr_aload_n C dX2_readStep_99 rfl 0 rfl ?_
            refine pr_iconst (v := 0) C dX2_readStep_100 (by decide) ?_
            refine pr_sipush (v := 1000) C dX2_readStep_101 (by decide) ?_
            obtain ⟨r91, f92, hc90, h⟩ := pr_bd_some h
            refine k_X2_readNumber C pr_w80 hk0 hc90 (Nat.le_of_ble_eq_true rfl) (Nat.le_of_ble_eq_true rfl) (Nat.le_of_ble_eq_true rfl) dX2_readStep_104 ?_
            refine pr_p_2_6 C hk0 pr_w75 dX2_readStep_107 (fun f93 e94 => ?_)
            have h := pr_lt_at h e94
            refine pr_goto (tgt := 158) C dX2_readStep_110 (by decide) ?_
            obtain ⟨rfl, rfl⟩ := pr_inj h
            exact pr_vret C Z dX2_readStep_158
          · have h := pr_ifF h c86
            refine pr_lookup (tgt := 153) (off := 124) (v := (f53 c 4)) C dX2_readStep_29 rfl (by decide) (by rw [lv_osw c55 (by decide), lv_osw c70 (by decide), lv_osw c79 (by decide), lv_osw c86 (by decide)] <;> rfl) (by decide) ?_
            refine pr_aload_n C dX2_readStep_153 rfl 0 rfl ?_
            refine pr_iconst (v := 1) C dX2_readStep_154 (by decide) ?_
            refine pr_p_2_3 C hk0 pr_w61 (by decide) dX2_readStep_155 (fun f95 e96 => ?_)
            have h := pr_lt_at h e96
            obtain ⟨rfl, rfl⟩ := pr_inj h
            exact pr_vret C Z dX2_readStep_158
theorem k_X2_readStep {l : Launch} {e : pr_E0} {Y : pr_Y} {Rm : Room} {cc : ByteArray} {own : String} {nL : Nat} {c0 : Cond} {pc idx : Nat} {lv : List (Nat × Value)} {st : List Value} {c : Nat} {f : pr_M} {r : Unit} {g : pr_M} (C : pr_C (pr_EC l e) Y Rm cc own nL c0) (w1 : Cond.methodLink own idx yX2_readStep ∈ pr_AL) (hk0 : pr_LC[c]? = some (2, 0)) (h : F_X2_readStep c f = some (r, g)) (hr1 : 5 ≤ Rm.frames) (hr2 : 109 ≤ Rm.locals) (hcat : (st.map fun v => v.category).sum ≤ 8) (hdg : decode cc pc = .ok (.invokevirtual idx, 3)) (k : pr_W (pr_EC l e) Y Rm nL g (pc + 3) lv (st)) : pr_W (pr_EC l e) Y Rm nL f pc lv (.ref (pr_ad (pr_EC l e) c) :: st) :=
  pr_callV (As := []) (n := 0) C (m_X2_readStep hk0 h) hk0 (by decide) rfl w1 pr_w99 pr_w100 pr_w67 pr_w91 rfl rfl ⟨rfl, by decide +kernel, by decide +kernel, by decide +kernel⟩ rfl ⟨hr1, hr2⟩ rfl hcat hdg k

def F_X2_hasMore (c : Nat) (f : pr_M) : Option (Int32) :=
  if (f c 3) = 0 then (
    if (f c 1) ≤ (f c 2) then (
      some 0
    ) else (
      some 1
    )
  ) else (
    some 0
  )
set_option maxHeartbeats 4000000 in
set_option maxRecDepth 100000 in
theorem m_X2_hasMore {l : Launch} {e : pr_E0} {c : Nat} {f : pr_M} {r : Int32} (hk0 : pr_LC[c]? = some (2, 0)) (h : F_X2_hasMore c f = some r) : pr_Met (pr_EC l e) yX2_hasMore cX2_hasMore 1 (some .boolean) { frames := 0, cells := 0, slots := 0, locals := 0 } [.ref (pr_ad (pr_EC l e) c)] f (some (.int r)) f := by
  rw [F_X2_hasMore] at h
  refine pr_enter (by decide +kernel) (Nat.le_of_ble_eq_true rfl) (fun Y C Z => ?_)
  replace C : pr_C (pr_EC l e) Y { frames := 0, cells := 0, slots := 0, locals := 0 } cX2_hasMore RX2 1 _ := C
  show pr_W (pr_EC l e) Y _ 1 f 0 [(0, .ref (pr_ad (pr_EC l e) c))] []
  refine pr_aload_n C dX2_hasMore_0 rfl 0 rfl ?_
  refine pr_g_2_3 C hk0 pr_w61 dX2_hasMore_1 ?_
  refine pr_if_ne (tgt := 22) C dX2_hasMore_4 (by decide) (fun c1 => ?_) (fun c1 => ?_)
  · have h := pr_ifF h c1
    refine pr_iconst (v := 0) C dX2_hasMore_22 (by decide) ?_
    obtain rfl := pr_in1 h
    exact pr_zret C (by decide) Z dX2_hasMore_23
  · have h := pr_ifT h c1
    refine pr_aload_n C dX2_hasMore_7 rfl 0 rfl ?_
    refine pr_g_2_2 C hk0 pr_w60 dX2_hasMore_8 ?_
    refine pr_aload_n C dX2_hasMore_11 rfl 0 rfl ?_
    refine pr_g_2_1 C hk0 pr_w57 dX2_hasMore_12 ?_
    refine pr_icmp_ge (tgt := 22) C dX2_hasMore_15 (by decide) (fun c2 => ?_) (fun c2 => ?_)
    · have h := pr_ifT h c2
      refine pr_iconst (v := 0) C dX2_hasMore_22 (by decide) ?_
      obtain rfl := pr_in1 h
      exact pr_zret C (by decide) Z dX2_hasMore_23
    · have h := pr_ifF h c2
      refine pr_iconst (v := 1) C dX2_hasMore_18 (by decide) ?_
      refine pr_goto (tgt := 23) C dX2_hasMore_19 (by decide) ?_
      obtain rfl := pr_in1 h
      exact pr_zret C (by decide) Z dX2_hasMore_23
theorem k_X2_hasMore {l : Launch} {e : pr_E0} {Y : pr_Y} {Rm : Room} {cc : ByteArray} {own : String} {nL : Nat} {c0 : Cond} {pc idx : Nat} {lv : List (Nat × Value)} {st : List Value} {c : Nat} {f : pr_M} {r : Int32} (C : pr_C (pr_EC l e) Y Rm cc own nL c0) (w1 : Cond.methodLink own idx yX2_hasMore ∈ pr_AL) (hk0 : pr_LC[c]? = some (2, 0)) (h : F_X2_hasMore c f = some r) (hr1 : 1 ≤ Rm.frames) (hr2 : 20 ≤ Rm.locals) (hcat : (st.map fun v => v.category).sum ≤ 8) (hdg : decode cc pc = .ok (.invokevirtual idx, 3)) (k : pr_W (pr_EC l e) Y Rm nL f (pc + 3) lv (.int r :: st)) : pr_W (pr_EC l e) Y Rm nL f pc lv (.ref (pr_ad (pr_EC l e) c) :: st) :=
  pr_callV (As := []) (n := 0) C (m_X2_hasMore hk0 h) hk0 (by decide) rfl w1 pr_w102 pr_w103 pr_w67 pr_w62 rfl rfl ⟨rfl, by decide +kernel, by decide +kernel, by decide +kernel⟩ rfl ⟨hr1, hr2⟩ rfl hcat hdg k

def L_X2_readAll_16 (q0 : Nat) : Nat → Int32 → pr_M → Option ((Unit) × pr_M)
  | 0, _, _ => none
  | n + 1, x1, f =>
    pr_bd (F_X2_readStep q0 f) fun u17002 f17003 =>
    if (f17003 q0 4) = 110 then (
      pr_lt (pr_up f17003 q0 8 ((f17003 q0 8) + (f17003 q0 6))) fun f17016 =>
      if (f17016 q0 4) = 100 then (
        pr_lt (pr_up f17016 q0 9 (if (f17016 q0 9) < (f17016 q0 5) then (f17016 q0 5) else (f17016 q0 9))) fun f17023 =>
        pr_b1 (F_X2_hasMore q0 f17023) fun r17026 =>
        if r17026 = 0 then (
          some ((), f17023)
        ) else (
          if (x1 + 1) < 80 then (
            L_X2_readAll_16 q0 n (x1 + 1) f17023
          ) else (
            some ((), f17023)
          )
        )
      ) else (
        pr_b1 (F_X2_hasMore q0 f17016) fun r17020 =>
        if r17020 = 0 then (
          some ((), f17016)
        ) else (
          if (x1 + 1) < 80 then (
            L_X2_readAll_16 q0 n (x1 + 1) f17016
          ) else (
            some ((), f17016)
          )
        )
      )
    ) else (
      if (f17003 q0 4) = 100 then (
        pr_lt (pr_up f17003 q0 9 (if (f17003 q0 9) < (f17003 q0 5) then (f17003 q0 5) else (f17003 q0 9))) fun f17010 =>
        pr_b1 (F_X2_hasMore q0 f17010) fun r17013 =>
        if r17013 = 0 then (
          some ((), f17010)
        ) else (
          if (x1 + 1) < 80 then (
            L_X2_readAll_16 q0 n (x1 + 1) f17010
          ) else (
            some ((), f17010)
          )
        )
      ) else (
        pr_b1 (F_X2_hasMore q0 f17003) fun r17007 =>
        if r17007 = 0 then (
          some ((), f17003)
        ) else (
          if (x1 + 1) < 80 then (
            L_X2_readAll_16 q0 n (x1 + 1) f17003
          ) else (
            some ((), f17003)
          )
        )
      )
    )
set_option maxHeartbeats 4000000 in
set_option maxRecDepth 100000 in
theorem l_X2_readAll_16 {l : Launch} {e : pr_E0} {Y : pr_Y} {c0 : Cond} {q0 : Nat} {z : Unit} {g : pr_M} (C : pr_C (pr_EC l e) Y { frames := 5, cells := 0, slots := 0, locals := 109 } cX2_readAll RX2 2 c0) (hq0 : pr_LC[q0]? = some (2, 0)) : ∀ (n : Nat) (x1 : Int32) (f : pr_M), L_X2_readAll_16 q0 n x1 f = some (z, g) → pr_W (pr_EC l e) Y { frames := 5, cells := 0, slots := 0, locals := 109 } 2 g 82 [] [] → pr_W (pr_EC l e) Y { frames := 5, cells := 0, slots := 0, locals := 109 } 2 f 16 [(0, .ref (pr_ad (pr_EC l e) q0)), (1, .int x1)] [] := by
  intro n
  induction n with
  | zero =>
    intro x1 f h
    exact absurd h (by simp [L_X2_readAll_16])
  | succ n ih =>
    intro x1 f h K
    rw [L_X2_readAll_16] at h
    refine pr_aload_n C dX2_readAll_16 rfl 0 rfl ?_
    obtain ⟨u17002, f17003, hc17001, h⟩ := pr_bd_some h
    refine k_X2_readStep C pr_w98 hq0 hc17001 (Nat.le_of_ble_eq_true rfl) (Nat.le_of_ble_eq_true rfl) (Nat.le_of_ble_eq_true rfl) dX2_readAll_17 ?_
    refine pr_aload_n C dX2_readAll_20 rfl 0 rfl ?_
    refine pr_g_2_4 C hq0 pr_w83 dX2_readAll_21 ?_
    refine pr_bipush (v := 110) C dX2_readAll_24 (by decide) ?_
    refine pr_icmp_ne (tgt := 42) C dX2_readAll_26 (by decide) (fun c17004 => ?_) (fun c17004 => ?_)
    · have h := pr_ifF h c17004
      refine pr_aload_n C dX2_readAll_42 rfl 0 rfl ?_
      refine pr_g_2_4 C hq0 pr_w83 dX2_readAll_43 ?_
      refine pr_bipush (v := 100) C dX2_readAll_46 (by decide) ?_
      refine pr_icmp_ne (tgt := 66) C dX2_readAll_48 (by decide) (fun c17005 => ?_) (fun c17005 => ?_)
      · have h := pr_ifF h c17005
        refine pr_iinc (v := (x1 + 1)) (lv' := [(1, .int (x1 + 1)), (0, .ref (pr_ad (pr_EC l e) q0))]) C dX2_readAll_66 1 rfl rfl (by decide) rfl ?_
        refine pr_aload_n C dX2_readAll_69 rfl 1 rfl ?_
        obtain ⟨r17007, hc17006, h⟩ := pr_b1_some h
        refine k_X2_hasMore C pr_w101 hq0 hc17006 (Nat.le_of_ble_eq_true rfl) (Nat.le_of_ble_eq_true rfl) (Nat.le_of_ble_eq_true rfl) dX2_readAll_70 ?_
        refine pr_if_eq (tgt := 82) C dX2_readAll_73 (by decide) (fun c17008 => ?_) (fun c17008 => ?_)
        · have h := pr_ifT h c17008
          obtain ⟨rfl, rfl⟩ := pr_inj h
          exact pr_pick [] rfl K
        · have h := pr_ifF h c17008
          refine pr_iload_n C dX2_readAll_76 rfl 0 rfl ?_
          refine pr_bipush (v := 80) C dX2_readAll_77 (by decide) ?_
          refine pr_icmp_lt (tgt := 16) C dX2_readAll_79 (by decide) (fun c17009 => ?_) (fun c17009 => ?_)
          · have h := pr_ifT h c17009
            exact pr_pick [1, 0] rfl (ih _ _ h K)
          · have h := pr_ifF h c17009
            obtain ⟨rfl, rfl⟩ := pr_inj h
            exact pr_pick [] rfl K
      · have h := pr_ifT h c17005
        refine pr_aload_n C dX2_readAll_51 rfl 0 rfl ?_
        refine pr_aload_n C dX2_readAll_52 rfl 0 rfl ?_
        refine pr_g_2_9 C hq0 pr_w93 dX2_readAll_53 ?_
        refine pr_aload_n C dX2_readAll_56 rfl 0 rfl ?_
        refine pr_g_2_5 C hq0 pr_w84 dX2_readAll_57 ?_
        refine pr_mmax C pr_w94 pr_w42 pr_w34 pr_w43 (Nat.le_of_ble_eq_true rfl) (Nat.le_of_ble_eq_true rfl) dX2_readAll_60 ?_
        refine pr_p_2_9 C hq0 pr_w93 dX2_readAll_63 (fun f17010 e17011 => ?_)
        have h := pr_lt_at h e17011
        refine pr_iinc (v := (x1 + 1)) (lv' := [(1, .int (x1 + 1)), (0, .ref (pr_ad (pr_EC l e) q0))]) C dX2_readAll_66 1 rfl rfl (by decide) rfl ?_
        refine pr_aload_n C dX2_readAll_69 rfl 1 rfl ?_
        obtain ⟨r17013, hc17012, h⟩ := pr_b1_some h
        refine k_X2_hasMore C pr_w101 hq0 hc17012 (Nat.le_of_ble_eq_true rfl) (Nat.le_of_ble_eq_true rfl) (Nat.le_of_ble_eq_true rfl) dX2_readAll_70 ?_
        refine pr_if_eq (tgt := 82) C dX2_readAll_73 (by decide) (fun c17014 => ?_) (fun c17014 => ?_)
        · have h := pr_ifT h c17014
          obtain ⟨rfl, rfl⟩ := pr_inj h
          exact pr_pick [] rfl K
        · have h := pr_ifF h c17014
          refine pr_iload_n C dX2_readAll_76 rfl 0 rfl ?_
          refine pr_bipush (v := 80) C dX2_readAll_77 (by decide) ?_
          refine pr_icmp_lt (tgt := 16) C dX2_readAll_79 (by decide) (fun c17015 => ?_) (fun c17015 => ?_)
          · have h := pr_ifT h c17015
            exact pr_pick [1, 0] rfl (ih _ _ h K)
          · have h := pr_ifF h c17015
            obtain ⟨rfl, rfl⟩ := pr_inj h
            exact pr_pick [] rfl K
    · have h := pr_ifT h c17004
      refine pr_aload_n C dX2_readAll_29 rfl 0 rfl ?_
      refine pr_dup C dX2_readAll_30 rfl ?_
      refine pr_g_2_8 C hq0 pr_w92 dX2_readAll_31 ?_
      refine pr_aload_n C dX2_readAll_34 rfl 0 rfl ?_
      refine pr_g_2_6 C hq0 pr_w75 dX2_readAll_35 ?_
      refine pr_iadd C dX2_readAll_38 ?_
      refine pr_p_2_8 C hq0 pr_w92 dX2_readAll_39 (fun f17016 e17017 => ?_)
      have h := pr_lt_at h e17017
      refine pr_aload_n C dX2_readAll_42 rfl 0 rfl ?_
      refine pr_g_2_4 C hq0 pr_w83 dX2_readAll_43 ?_
      refine pr_bipush (v := 100) C dX2_readAll_46 (by decide) ?_
      refine pr_icmp_ne (tgt := 66) C dX2_readAll_48 (by decide) (fun c17018 => ?_) (fun c17018 => ?_)
      · have h := pr_ifF h c17018
        refine pr_iinc (v := (x1 + 1)) (lv' := [(1, .int (x1 + 1)), (0, .ref (pr_ad (pr_EC l e) q0))]) C dX2_readAll_66 1 rfl rfl (by decide) rfl ?_
        refine pr_aload_n C dX2_readAll_69 rfl 1 rfl ?_
        obtain ⟨r17020, hc17019, h⟩ := pr_b1_some h
        refine k_X2_hasMore C pr_w101 hq0 hc17019 (Nat.le_of_ble_eq_true rfl) (Nat.le_of_ble_eq_true rfl) (Nat.le_of_ble_eq_true rfl) dX2_readAll_70 ?_
        refine pr_if_eq (tgt := 82) C dX2_readAll_73 (by decide) (fun c17021 => ?_) (fun c17021 => ?_)
        · have h := pr_ifT h c17021
          obtain ⟨rfl, rfl⟩ := pr_inj h
          exact pr_pick [] rfl K
        · have h := pr_ifF h c17021
          refine pr_iload_n C dX2_readAll_76 rfl 0 rfl ?_
          refine pr_bipush (v := 80) C dX2_readAll_77 (by decide) ?_
          refine pr_icmp_lt (tgt := 16) C dX2_readAll_79 (by decide) (fun c17022 => ?_) (fun c17022 => ?_)
          · have h := pr_ifT h c17022
            exact pr_pick [1, 0] rfl (ih _ _ h K)
          · have h := pr_ifF h c17022
            obtain ⟨rfl, rfl⟩ := pr_inj h
            exact pr_pick [] rfl K
      · have h := pr_ifT h c17018
        refine pr_aload_n C dX2_readAll_51 rfl 0 rfl ?_
        refine pr_aload_n C dX2_readAll_52 rfl 0 rfl ?_
        refine pr_g_2_9 C hq0 pr_w93 dX2_readAll_53 ?_
        refine pr_aload_n C dX2_readAll_56 rfl 0 rfl ?_
        refine pr_g_2_5 C hq0 pr_w84 dX2_readAll_57 ?_
        refine pr_mmax C pr_w94 pr_w42 pr_w34 pr_w43 (Nat.le_of_ble_eq_true rfl) (Nat.le_of_ble_eq_true rfl) dX2_readAll_60 ?_
        refine pr_p_2_9 C hq0 pr_w93 dX2_readAll_63 (fun f17023 e17024 => ?_)
        have h := pr_lt_at h e17024
        refine pr_iinc (v := (x1 + 1)) (lv' := [(1, .int (x1 + 1)), (0, .ref (pr_ad (pr_EC l e) q0))]) C dX2_readAll_66 1 rfl rfl (by decide) rfl ?_
        refine pr_aload_n C dX2_readAll_69 rfl 1 rfl ?_
        obtain ⟨r17026, hc17025, h⟩ := pr_b1_some h
        refine k_X2_hasMore C pr_w101 hq0 hc17025 (Nat.le_of_ble_eq_true rfl) (Nat.le_of_ble_eq_true rfl) (Nat.le_of_ble_eq_true rfl) dX2_readAll_70 ?_
        refine pr_if_eq (tgt := 82) C dX2_readAll_73 (by decide) (fun c17027 => ?_) (fun c17027 => ?_)
        · have h := pr_ifT h c17027
          obtain ⟨rfl, rfl⟩ := pr_inj h
          exact pr_pick [] rfl K
        · have h := pr_ifF h c17027
          refine pr_iload_n C dX2_readAll_76 rfl 0 rfl ?_
          refine pr_bipush (v := 80) C dX2_readAll_77 (by decide) ?_
          refine pr_icmp_lt (tgt := 16) C dX2_readAll_79 (by decide) (fun c17028 => ?_) (fun c17028 => ?_)
          · have h := pr_ifT h c17028
            exact pr_pick [1, 0] rfl (ih _ _ h K)
          · have h := pr_ifF h c17028
            obtain ⟨rfl, rfl⟩ := pr_inj h
            exact pr_pick [] rfl K
def F_X2_readAll (c : Nat) (f : pr_M) : Option (Unit × pr_M) :=
  pr_bd (F_X2_beginReading c f) fun u2 f3 =>
  pr_lt (pr_up f3 c 8 0) fun f4 =>
  pr_lt (pr_up f4 c 9 0) fun f6 =>
  pr_bd (L_X2_readAll_16 c pr_fuel 0 f6) fun v8 f9 =>
  some ((), f9)
set_option maxHeartbeats 4000000 in
set_option maxRecDepth 100000 in
theorem m_X2_readAll {l : Launch} {e : pr_E0} {c : Nat} {f : pr_M} {r : Unit} {g : pr_M} (hk0 : pr_LC[c]? = some (2, 0)) (h : F_X2_readAll c f = some (r, g)) : pr_Met (pr_EC l e) yX2_readAll cX2_readAll 2 none { frames := 5, cells := 0, slots := 0, locals := 109 } [.ref (pr_ad (pr_EC l e) c)] f none g := by
  rw [F_X2_readAll] at h
  refine pr_enter (by decide +kernel) (Nat.le_of_ble_eq_true rfl) (fun Y C Z => ?_)
  replace C : pr_C (pr_EC l e) Y { frames := 5, cells := 0, slots := 0, locals := 109 } cX2_readAll RX2 2 _ := C
  show pr_W (pr_EC l e) Y _ 2 f 0 [(0, .ref (pr_ad (pr_EC l e) c))] []
  refine pr_aload_n C dX2_readAll_0 rfl 0 rfl ?_
  obtain ⟨u2, f3, hc1, h⟩ := pr_bd_some h
  refine k_X2_beginReading C pr_w95 hk0 hc1 (Nat.le_of_ble_eq_true rfl) (Nat.le_of_ble_eq_true rfl) (Nat.le_of_ble_eq_true rfl) dX2_readAll_1 ?_
  refine pr_aload_n C dX2_readAll_4 rfl 0 rfl ?_
  refine pr_iconst (v := 0) C dX2_readAll_5 (by decide) ?_
  refine pr_p_2_8 C hk0 pr_w92 dX2_readAll_6 (fun f4 e5 => ?_)
  have h := pr_lt_at h e5
  refine pr_aload_n C dX2_readAll_9 rfl 0 rfl ?_
  refine pr_iconst (v := 0) C dX2_readAll_10 (by decide) ?_
  refine pr_p_2_9 C hk0 pr_w93 dX2_readAll_11 (fun f6 e7 => ?_)
  have h := pr_lt_at h e7
  refine pr_iconst (v := 0) C dX2_readAll_14 (by decide) ?_
  refine pr_istore_n (lv' := [(1, .int 0), (0, .ref (pr_ad (pr_EC l e) c))]) C dX2_readAll_15 rfl (by decide) rfl ?_
  obtain ⟨v8, f9, hv, h⟩ := pr_bd_some h
  refine pr_pick [1, 0] rfl (l_X2_readAll_16 C hk0 pr_fuel _ _ hv ?_)
  clear hv
  obtain ⟨rfl, rfl⟩ := pr_inj h
  exact pr_vret C Z dX2_readAll_82
theorem k_X2_readAll {l : Launch} {e : pr_E0} {Y : pr_Y} {Rm : Room} {cc : ByteArray} {own : String} {nL : Nat} {c0 : Cond} {pc idx : Nat} {lv : List (Nat × Value)} {st : List Value} {c : Nat} {f : pr_M} {r : Unit} {g : pr_M} (C : pr_C (pr_EC l e) Y Rm cc own nL c0) (w1 : Cond.methodLink own idx yX2_readAll ∈ pr_AL) (hk0 : pr_LC[c]? = some (2, 0)) (h : F_X2_readAll c f = some (r, g)) (hr1 : 6 ≤ Rm.frames) (hr2 : 130 ≤ Rm.locals) (hcat : (st.map fun v => v.category).sum ≤ 8) (hdg : decode cc pc = .ok (.invokevirtual idx, 3)) (k : pr_W (pr_EC l e) Y Rm nL g (pc + 3) lv (st)) : pr_W (pr_EC l e) Y Rm nL f pc lv (.ref (pr_ad (pr_EC l e) c) :: st) :=
  pr_callV (As := []) (n := 0) C (m_X2_readAll hk0 h) hk0 (by decide) rfl w1 pr_w454 pr_w455 pr_w67 pr_w104 rfl rfl ⟨rfl, by decide +kernel, by decide +kernel, by decide +kernel⟩ rfl ⟨hr1, hr2⟩ rfl hcat hdg k

def F_X8_fault (c : Nat) (f : pr_M) : Option (Int32 × pr_M) :=
  pr_bd (F_X2_readAll (c + 199) f) fun u3 f4 =>
  if (f4 (c + 199) 3) = 0 then (
    some ((-1000000006), f4)
  ) else (
    some ((f4 (c + 199) 2), f4)
  )
set_option maxHeartbeats 4000000 in
set_option maxRecDepth 100000 in
theorem m_X8_fault {l : Launch} {e : pr_E0} {c : Nat} {f : pr_M} {r : Int32} {g : pr_M} (hk0 : pr_LC[c]? = some (8, 0)) (h : F_X8_fault c f = some (r, g)) : pr_Met (pr_EC l e) yX8_fault cX8_fault 1 (some .int) { frames := 6, cells := 0, slots := 0, locals := 130 } [.ref (pr_ad (pr_EC l e) c)] f (some (.int r)) g := by
  rw [F_X8_fault] at h
  refine pr_enter (by decide +kernel) (Nat.le_of_ble_eq_true rfl) (fun Y C Z => ?_)
  replace C : pr_C (pr_EC l e) Y { frames := 6, cells := 0, slots := 0, locals := 130 } cX8_fault RX8 1 _ := C
  show pr_W (pr_EC l e) Y _ 1 f 0 [(0, .ref (pr_ad (pr_EC l e) c))] []
  refine pr_aload_n C dX8_fault_0 rfl 0 rfl ?_
  refine pr_g_8_4 C hk0 pr_w353 dX8_fault_1 ?_
  have hk1 := pr_kC_8_4 hk0
  obtain ⟨u3, f4, hc2, h⟩ := pr_bd_some h
  refine k_X2_readAll C pr_w453 hk1 hc2 (Nat.le_of_ble_eq_true rfl) (Nat.le_of_ble_eq_true rfl) (Nat.le_of_ble_eq_true rfl) dX8_fault_4 ?_
  refine pr_aload_n C dX8_fault_7 rfl 0 rfl ?_
  refine pr_g_8_4 C hk0 pr_w353 dX8_fault_8 ?_
  refine pr_gN_2_3 C hk1 pr_nf50 dX8_fault_11 ?_
  refine pr_if_eq (tgt := 27) C dX8_fault_14 (by decide) (fun c5 => ?_) (fun c5 => ?_)
  · have h := pr_ifT h c5
    refine pr_ldc (v := (-1000000006)) C dX8_fault_27 pr_w409 ?_
    obtain ⟨rfl, rfl⟩ := pr_inj h
    exact pr_iret C Z dX8_fault_29
  · have h := pr_ifF h c5
    refine pr_aload_n C dX8_fault_17 rfl 0 rfl ?_
    refine pr_g_8_4 C hk0 pr_w353 dX8_fault_18 ?_
    refine pr_gN_2_2 C hk1 pr_nf49 dX8_fault_21 ?_
    refine pr_goto (tgt := 29) C dX8_fault_24 (by decide) ?_
    obtain ⟨rfl, rfl⟩ := pr_inj h
    exact pr_iret C Z dX8_fault_29

def L_X8_carryOutStep_50 (q0 : Nat) : Nat → Int32 → pr_M → Option ((Unit) × pr_M)
  | 0, _, _ => none
  | n + 1, x1, f =>
    if (f (q0 + 199) 6) ≤ x1 then (
      some ((), f)
    ) else (
      pr_bd (F_X3_makeRepeat (q0 + 1) f) fun u51005 f51006 =>
      L_X8_carryOutStep_50 q0 n (x1 + 1) f51006
    )
set_option maxHeartbeats 4000000 in
set_option maxRecDepth 100000 in
theorem l_X8_carryOutStep_50 {l : Launch} {e : pr_E0} {Y : pr_Y} {c0 : Cond} {q0 : Nat} {z : Unit} {g : pr_M} (C : pr_C (pr_EC l e) Y { frames := 5, cells := 0, slots := 0, locals := 117 } cX8_carryOutStep RX8 2 c0) (hq0 : pr_LC[q0]? = some (8, 0)) : ∀ (n : Nat) (x1 : Int32) (f : pr_M), L_X8_carryOutStep_50 q0 n x1 f = some (z, g) → pr_W (pr_EC l e) Y { frames := 5, cells := 0, slots := 0, locals := 117 } 2 g 74 [] [] → pr_W (pr_EC l e) Y { frames := 5, cells := 0, slots := 0, locals := 117 } 2 f 50 [(0, .ref (pr_ad (pr_EC l e) q0)), (1, .int x1)] [] := by
  intro n
  induction n with
  | zero =>
    intro x1 f h
    exact absurd h (by simp [L_X8_carryOutStep_50])
  | succ n ih =>
    intro x1 f h K
    rw [L_X8_carryOutStep_50] at h
    refine pr_iload_n C dX8_carryOutStep_50 rfl 1 rfl ?_
    refine pr_aload_n C dX8_carryOutStep_51 rfl 0 rfl ?_
    refine pr_g_8_4 C hq0 pr_w353 dX8_carryOutStep_52 ?_
    have hk51001 := pr_kC_8_4 hq0
    refine pr_gN_2_6 C hk51001 pr_nf53 dX8_carryOutStep_55 ?_
    refine pr_icmp_ge (tgt := 74) C dX8_carryOutStep_58 (by decide) (fun c51002 => ?_) (fun c51002 => ?_)
    · have h := pr_ifT h c51002
      obtain ⟨rfl, rfl⟩ := pr_inj h
      exact pr_pick [] rfl K
    · have h := pr_ifF h c51002
      refine pr_aload_n C dX8_carryOutStep_61 rfl 0 rfl ?_
      refine pr_g_8_0 C hq0 pr_w344 dX8_carryOutStep_62 ?_
      have hk51003 := pr_kC_8_0 hq0
      obtain ⟨u51005, f51006, hc51004, h⟩ := pr_bd_some h
      refine k_X3_makeRepeat C pr_w407 hk51003 hc51004 (Nat.le_of_ble_eq_true rfl) (Nat.le_of_ble_eq_true rfl) (Nat.le_of_ble_eq_true rfl) dX8_carryOutStep_65 ?_
      refine pr_iinc (v := (x1 + 1)) (lv' := [(1, .int (x1 + 1)), (0, .ref (pr_ad (pr_EC l e) q0))]) C dX8_carryOutStep_68 1 rfl rfl (by decide) rfl ?_
      refine pr_goto (tgt := 50) C dX8_carryOutStep_71 (by decide) ?_
      exact pr_pick [1, 0] rfl (ih _ _ h K)
def F_X8_carryOutStep (c : Nat) (f : pr_M) : Option (Unit × pr_M) :=
  if (f (c + 199) 4) = 100 then (
    pr_b1 (F_X3_unitAt (c + 1) (f (c + 199) 5) f) fun o5 =>
    pr_op o5 (
      some ((), f)
    ) fun q6 =>
    pr_gd (pr_LC[q6]? = some (7, 0)) <|
    pr_bd (F_X4_beDisturbed (q6 + 2) (f (c + 199) 6) (f (c + 199) 7) f) fun u10 f11 =>
    some ((), f11)
  ) else (
    if (f (c + 199) 4) = 110 then (
      pr_bd (L_X8_carryOutStep_50 c pr_fuel 0 f) fun v13 f14 =>
      some ((), f14)
    ) else (
      if (f (c + 199) 4) = 112 then (
        pr_bd (F_X3_startSplice (c + 1) (f (c + 199) 6) (f (c + 199) 7) f) fun u18 f19 =>
        some ((), f19)
      ) else (
        if (f (c + 199) 4) = 118 then (
          pr_lt (pr_up f (c + 1) 5 (f (c + 199) 6)) fun f22 =>
          some ((), f22)
        ) else (
          some ((), f)
          )
          )
          )
          )
set_option maxHeartbeats 4000000 in
set_option maxRecDepth 100000 in
theorem m_X8_carryOutStep {l : Launch} {e : pr_E0} {c : Nat} {f : pr_M} {r : Unit} {g : pr_M} (hk0 : pr_LC[c]? = some (8, 0)) (h : F_X8_carryOutStep c f = some (r, g)) : pr_Met (pr_EC l e) yX8_carryOutStep cX8_carryOutStep 2 none { frames := 5, cells := 0, slots := 0, locals := 117 } [.ref (pr_ad (pr_EC l e) c)] f none g := by
  rw [F_X8_carryOutStep] at h
  refine pr_enter (by decide +kernel) (Nat.le_of_ble_eq_true rfl) (fun Y C Z => ?_)
  replace C : pr_C (pr_EC l e) Y { frames := 5, cells := 0, slots := 0, locals := 117 } cX8_carryOutStep RX8 2 _ := C
  show pr_W (pr_EC l e) Y _ 2 f 0 [(0, .ref (pr_ad (pr_EC l e) c))] []
  refine pr_aload_n C dX8_carryOutStep_0 rfl 0 rfl ?_
  refine pr_g_8_4 C hk0 pr_w353 dX8_carryOutStep_1 ?_
  have hk1 := pr_kC_8_4 hk0
  refine pr_gN_2_4 C hk1 pr_nf51 dX8_carryOutStep_4 ?_
  by_cases c2 : (f (c + 199) 4) = 100
  · have h := pr_ifT h c2
    refine pr_lookup (tgt := 94) (off := 87) C dX8_carryOutStep_7 c2 (by decide) (by decide) (by decide) ?_
    refine pr_aload_n C dX8_carryOutStep_94 rfl 0 rfl ?_
    refine pr_g_8_0 C hk0 pr_w344 dX8_carryOutStep_95 ?_
    have hk3 := pr_kC_8_0 hk0
    refine pr_aload_n C dX8_carryOutStep_98 rfl 0 rfl ?_
    refine pr_g_8_4 C hk0 pr_w353 dX8_carryOutStep_99 ?_
    refine pr_gN_2_5 C hk1 pr_nf52 dX8_carryOutStep_102 ?_
    obtain ⟨o5, hc4, h⟩ := pr_b1_some h
    refine k_X3_unitAt C pr_w372 hk3 hc4 (Nat.le_of_ble_eq_true rfl) (Nat.le_of_ble_eq_true rfl) (Nat.le_of_ble_eq_true rfl) dX8_carryOutStep_105 ?_
    cases o5 with
    | none =>
      have h := pr_op_n h
      refine pr_astore_nN (lv' := [(1, .null), (0, .ref (pr_ad (pr_EC l e) c))]) C dX8_carryOutStep_108 rfl (by decide) rfl ?_
      refine pr_aload_nN C dX8_carryOutStep_109 rfl 0 rfl ?_
      refine pr_ifnullN (tgt := 161) C dX8_carryOutStep_110 (by decide) ?_
      obtain ⟨rfl, rfl⟩ := pr_inj h
      exact pr_vret C Z dX8_carryOutStep_161
    | some q6 =>
      have h := pr_op_s h
      obtain ⟨hk7, h⟩ := pr_gd_some h
      refine pr_astore_n (lv' := [(1, .ref (pr_ad (pr_EC l e) q6)), (0, .ref (pr_ad (pr_EC l e) c))]) C dX8_carryOutStep_108 rfl (by decide) rfl ?_
      refine pr_aload_n C dX8_carryOutStep_109 rfl 0 rfl ?_
      refine pr_ifnull C dX8_carryOutStep_110 ?_
      refine pr_aload_n C dX8_carryOutStep_113 rfl 0 rfl ?_
      refine pr_gN_7_1 C hk7 pr_nf36 dX8_carryOutStep_114 ?_
      have hk8 := pr_kC_7_1 hk7
      refine pr_aload_n C dX8_carryOutStep_117 rfl 1 rfl ?_
      refine pr_g_8_4 C hk0 pr_w353 dX8_carryOutStep_118 ?_
      refine pr_gN_2_6 C hk1 pr_nf53 dX8_carryOutStep_121 ?_
      refine pr_aload_n C dX8_carryOutStep_124 rfl 1 rfl ?_
      refine pr_g_8_4 C hk0 pr_w353 dX8_carryOutStep_125 ?_
      refine pr_gN_2_7 C hk1 pr_nf54 dX8_carryOutStep_128 ?_
      obtain ⟨u10, f11, hc9, h⟩ := pr_bd_some h
      refine k_X4_beDisturbed C pr_w395 hk8 hc9 (Nat.le_of_ble_eq_true rfl) (Nat.le_of_ble_eq_true rfl) (Nat.le_of_ble_eq_true rfl) dX8_carryOutStep_131 ?_
      refine pr_goto (tgt := 161) C dX8_carryOutStep_134 (by decide) ?_
      obtain ⟨rfl, rfl⟩ := pr_inj h
      exact pr_vret C Z dX8_carryOutStep_161
  · have h := pr_ifF h c2
    by_cases c12 : (f (c + 199) 4) = 110
    · have h := pr_ifT h c12
      refine pr_lookup (tgt := 48) (off := 41) C dX8_carryOutStep_7 c12 (by decide) (by decide) (by decide) ?_
      refine pr_iconst (v := 0) C dX8_carryOutStep_48 (by decide) ?_
      refine pr_istore_n (lv' := [(1, .int 0), (0, .ref (pr_ad (pr_EC l e) c))]) C dX8_carryOutStep_49 rfl (by decide) rfl ?_
      obtain ⟨v13, f14, hv, h⟩ := pr_bd_some h
      refine pr_pick [1, 0] rfl (l_X8_carryOutStep_50 C hk0 pr_fuel _ _ hv ?_)
      clear hv
      refine pr_goto (tgt := 161) C dX8_carryOutStep_74 (by decide) ?_
      obtain ⟨rfl, rfl⟩ := pr_inj h
      exact pr_vret C Z dX8_carryOutStep_161
    · have h := pr_ifF h c12
      by_cases c15 : (f (c + 199) 4) = 112
      · have h := pr_ifT h c15
        refine pr_lookup (tgt := 137) (off := 130) C dX8_carryOutStep_7 c15 (by decide) (by decide) (by decide) ?_
        refine pr_aload_n C dX8_carryOutStep_137 rfl 0 rfl ?_
        refine pr_g_8_0 C hk0 pr_w344 dX8_carryOutStep_138 ?_
        have hk16 := pr_kC_8_0 hk0
        refine pr_aload_n C dX8_carryOutStep_141 rfl 0 rfl ?_
        refine pr_g_8_4 C hk0 pr_w353 dX8_carryOutStep_142 ?_
        refine pr_gN_2_6 C hk1 pr_nf53 dX8_carryOutStep_145 ?_
        refine pr_aload_n C dX8_carryOutStep_148 rfl 0 rfl ?_
        refine pr_g_8_4 C hk0 pr_w353 dX8_carryOutStep_149 ?_
        refine pr_gN_2_7 C hk1 pr_nf54 dX8_carryOutStep_152 ?_
        obtain ⟨u18, f19, hc17, h⟩ := pr_bd_some h
        refine k_X3_startSplice C pr_w399 hk16 hc17 (Nat.le_of_ble_eq_true rfl) (Nat.le_of_ble_eq_true rfl) (Nat.le_of_ble_eq_true rfl) dX8_carryOutStep_155 ?_
        refine pr_goto (tgt := 161) C dX8_carryOutStep_158 (by decide) ?_
        obtain ⟨rfl, rfl⟩ := pr_inj h
        exact pr_vret C Z dX8_carryOutStep_161
      · have h := pr_ifF h c15
        by_cases c20 : (f (c + 199) 4) = 118
        · have h := pr_ifT h c20
          refine pr_lookup (tgt := 77) (off := 70) C dX8_carryOutStep_7 c20 (by decide) (by decide) (by decide) ?_
          refine pr_aload_n C dX8_carryOutStep_77 rfl 0 rfl ?_
          refine pr_g_8_0 C hk0 pr_w344 dX8_carryOutStep_78 ?_
          have hk21 := pr_kC_8_0 hk0
          refine pr_aload_n C dX8_carryOutStep_81 rfl 0 rfl ?_
          refine pr_g_8_4 C hk0 pr_w353 dX8_carryOutStep_82 ?_
          refine pr_gN_2_6 C hk1 pr_nf53 dX8_carryOutStep_85 ?_
          refine pr_pN_3_5 C hk21 pr_nf45 dX8_carryOutStep_88 (fun f22 e23 => ?_)
          have h := pr_lt_at h e23
          refine pr_goto (tgt := 161) C dX8_carryOutStep_91 (by decide) ?_
          obtain ⟨rfl, rfl⟩ := pr_inj h
          exact pr_vret C Z dX8_carryOutStep_161
        · have h := pr_ifF h c20
          refine pr_lookup (tgt := 161) (off := 154) (v := (f (c + 199) 4)) C dX8_carryOutStep_7 rfl (by decide) (by rw [lv_osw c2 (by decide), lv_osw c12 (by decide), lv_osw c15 (by decide), lv_osw c20 (by decide)] <;> rfl) (by decide) ?_
          obtain ⟨rfl, rfl⟩ := pr_inj h
          exact pr_vret C Z dX8_carryOutStep_161
theorem k_X8_carryOutStep {l : Launch} {e : pr_E0} {Y : pr_Y} {Rm : Room} {cc : ByteArray} {own : String} {nL : Nat} {c0 : Cond} {pc idx : Nat} {lv : List (Nat × Value)} {st : List Value} {c : Nat} {f : pr_M} {r : Unit} {g : pr_M} (C : pr_C (pr_EC l e) Y Rm cc own nL c0) (w1 : Cond.methodLink own idx yX8_carryOutStep ∈ pr_AL) (hk0 : pr_LC[c]? = some (8, 0)) (h : F_X8_carryOutStep c f = some (r, g)) (hr1 : 6 ≤ Rm.frames) (hr2 : 138 ≤ Rm.locals) (hcat : (st.map fun v => v.category).sum ≤ 8) (hdg : decode cc pc = .ok (.invokevirtual idx, 3)) (k : pr_W (pr_EC l e) Y Rm nL g (pc + 3) lv (st)) : pr_W (pr_EC l e) Y Rm nL f pc lv (.ref (pr_ad (pr_EC l e) c) :: st) :=
  pr_callV (As := []) (n := 0) C (m_X8_carryOutStep hk0 h) hk0 (by decide) rfl w1 pr_w463 pr_w464 pr_w18 pr_w457 rfl rfl ⟨rfl, by decide +kernel, by decide +kernel, by decide +kernel⟩ rfl ⟨hr1, hr2⟩ rfl hcat hdg k
