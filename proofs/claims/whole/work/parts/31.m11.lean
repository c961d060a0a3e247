def L_X9_readNumber_48 (q0 : Nat) (x2 : Int32) : Nat → Int32 → pr_M → Option ((Int32) × pr_M)
  | 0, _, _ => none
  | n + 1, x3, f =>
    if x3 ≤ 0 then (
      some (x3, f)
    ) else (
      pr_b1 (F_X9_next q0 f) fun r49003 =>
      pr_b1 (F_X9_in r49003 48 57 f) fun r49005 =>
      if r49005 = 0 then (
        some (x3, f)
      ) else (
        pr_b1 (F_X9_next q0 f) fun r49008 =>
        if x2 < (((10 * x3) + r49008) - 48) then (
          some (x3, f)
        ) else (
          pr_b1 (F_X9_next q0 f) fun r49011 =>
          pr_lt (pr_up f q0 6 ((f q0 6) + 1)) fun f49012 =>
          L_X9_readNumber_48 q0 x2 n (((10 * x3) + r49011) - 48) f49012
        )
      )
    )
set_option maxHeartbeats 4000000 in
set_option maxRecDepth 100000 in
theorem l_X9_readNumber_48 {l : Launch} {e : pr_E0} {Y : pr_Y} {c0 : Cond} {q0 : Nat} {x2 : Int32} {z : Int32} {g : pr_M} (C : pr_C (pr_EM l e) Y { frames := 1, cells := 0, slots := 0, locals := 22 } cX9_readNumber RX9 4 c0) (hq0 : pr_LM[q0]? = some (9, 0)) : ∀ (n : Nat) (x3 : Int32) (f : pr_M), L_X9_readNumber_48 q0 x2 n x3 f = some (z, g) → pr_W (pr_EM l e) Y { frames := 1, cells := 0, slots := 0, locals := 22 } 4 g 108 [(3, .int z)] [] → pr_W (pr_EM l e) Y { frames := 1, cells := 0, slots := 0, locals := 22 } 4 f 48 [(0, .ref (pr_ad (pr_EM l e) q0)), (2, .int x2), (3, .int x3)] [] := by
  intro n
  induction n with
  | zero =>
    intro x3 f h
    exact absurd h (by simp [L_X9_readNumber_48])
  | succ n ih =>
    intro x3 f h K
    rw [L_X9_readNumber_48] at h
    refine pr_iload_n C dX9_readNumber_48 rfl 2 rfl ?_
    refine pr_if_le (tgt := 108) C dX9_readNumber_49 (by decide) (fun c49001 => ?_) (fun c49001 => ?_)
    · have h := pr_ifT h c49001
      obtain ⟨rfl, rfl⟩ := pr_inj h
      exact pr_pick [2] rfl K
    · have h := pr_ifF h c49001
      refine pr_aload_n C dX9_readNumber_52 rfl 0 rfl ?_
      obtain ⟨r49003, hc49002, h⟩ := pr_b1_some h
      refine k_X9_next C pr_w648 hq0 hc49002 (Nat.le_of_ble_eq_true rfl) (Nat.le_of_ble_eq_true rfl) (Nat.le_of_ble_eq_true rfl) dX9_readNumber_53 ?_
      refine pr_bipush (v := 48) C dX9_readNumber_56 (by decide) ?_
      refine pr_bipush (v := 57) C dX9_readNumber_58 (by decide) ?_
      obtain ⟨r49005, hc49004, h⟩ := pr_b1_some h
      refine k_X9_in C pr_w504  hc49004 (Nat.le_of_ble_eq_true rfl) (Nat.le_of_ble_eq_true rfl) (Nat.le_of_ble_eq_true rfl) dX9_readNumber_60 ?_
      refine pr_if_eq (tgt := 108) C dX9_readNumber_63 (by decide) (fun c49006 => ?_) (fun c49006 => ?_)
      · have h := pr_ifT h c49006
        obtain ⟨rfl, rfl⟩ := pr_inj h
        exact pr_pick [2] rfl K
      · have h := pr_ifF h c49006
        refine pr_bipush (v := 10) C dX9_readNumber_66 (by decide) ?_
        refine pr_iload_n C dX9_readNumber_68 rfl 2 rfl ?_
        refine pr_imul C dX9_readNumber_69 ?_
        refine pr_aload_n C dX9_readNumber_70 rfl 0 rfl ?_
        obtain ⟨r49008, hc49007, h⟩ := pr_b1_some h
        refine k_X9_next C pr_w648 hq0 hc49007 (Nat.le_of_ble_eq_true rfl) (Nat.le_of_ble_eq_true rfl) (Nat.le_of_ble_eq_true rfl) dX9_readNumber_71 ?_
        refine pr_iadd C dX9_readNumber_74 ?_
        refine pr_bipush (v := 48) C dX9_readNumber_75 (by decide) ?_
        refine pr_isub C dX9_readNumber_77 ?_
        refine pr_iload_n C dX9_readNumber_78 rfl 1 rfl ?_
        refine pr_icmp_gt (tgt := 108) C dX9_readNumber_79 (by decide) (fun c49009 => ?_) (fun c49009 => ?_)
        · have h := pr_ifT h c49009
          obtain ⟨rfl, rfl⟩ := pr_inj h
          exact pr_pick [2] rfl K
        · have h := pr_ifF h c49009
          refine pr_bipush (v := 10) C dX9_readNumber_82 (by decide) ?_
          refine pr_iload_n C dX9_readNumber_84 rfl 2 rfl ?_
          refine pr_imul C dX9_readNumber_85 ?_
          refine pr_aload_n C dX9_readNumber_86 rfl 0 rfl ?_
          obtain ⟨r49011, hc49010, h⟩ := pr_b1_some h
          refine k_X9_next C pr_w648 hq0 hc49010 (Nat.le_of_ble_eq_true rfl) (Nat.le_of_ble_eq_true rfl) (Nat.le_of_ble_eq_true rfl) dX9_readNumber_87 ?_
          refine pr_iadd C dX9_readNumber_90 ?_
          refine pr_bipush (v := 48) C dX9_readNumber_91 (by decide) ?_
          refine pr_isub C dX9_readNumber_93 ?_
          refine pr_istore_n (lv' := [(3, .int (((10 * x3) + r49011) - 48)), (0, .ref (pr_ad (pr_EM l e) q0)), (2, .int x2)]) C dX9_readNumber_94 rfl (by decide) rfl ?_
          refine pr_aload_n C dX9_readNumber_95 rfl 1 rfl ?_
          refine pr_dup C dX9_readNumber_96 rfl ?_
          refine pr_g_9_6 C hq0 pr_w645 dX9_readNumber_97 ?_
          refine pr_iconst (v := 1) C dX9_readNumber_100 (by decide) ?_
          refine pr_iadd C dX9_readNumber_101 ?_
          refine pr_p_9_6 C hq0 pr_w645 dX9_readNumber_102 (fun f49012 e49013 => ?_)
          have h := pr_lt_at h e49013
          refine pr_goto (tgt := 48) C dX9_readNumber_105 (by decide) ?_
          exact pr_pick [1, 2, 0] rfl (ih _ _ h K)
def F_X9_readNumber (c : Nat) (p1 : Int32) (p2 : Int32) (f : pr_M) : Option (Int32 × pr_M) :=
  if (f c 7) = 0 then (
    pr_b1 (F_X9_next c f) fun r5 =>
    pr_b1 (F_X9_in r5 (48 + p1) 57 f) fun r7 =>
    if r7 = 0 then (
      pr_lt (pr_up f c 7 1) fun f15 =>
      some (0, f15)
    ) else (
      pr_b1 (F_X9_next c f) fun r10 =>
      pr_lt (pr_up f c 6 ((f c 6) + 1)) fun f11 =>
      pr_bd (L_X9_readNumber_48 c p2 pr_fuel (r10 - 48) f11) fun v13 f14 =>
      some (v13, f14)
    )
  ) else (
    pr_lt (pr_up f c 7 1) fun f2 =>
    some (0, f2)
  )
set_option maxHeartbeats 4000000 in
set_option maxRecDepth 100000 in
theorem m_X9_readNumber {l : Launch} {e : pr_E0} {c : Nat} {p1 : Int32} {p2 : Int32} {f : pr_M} {r : Int32} {g : pr_M} (hk0 : pr_LM[c]? = some (9, 0)) (h : F_X9_readNumber c p1 p2 f = some (r, g)) : pr_Met (pr_EM l e) yX9_readNumber cX9_readNumber 4 (some .int) { frames := 1, cells := 0, slots := 0, locals := 22 } [.ref (pr_ad (pr_EM l e) c), .int p1, .int p2] f (some (.int r)) g := by
  rw [F_X9_readNumber] at h
  refine pr_enter (by decide +kernel) (Nat.le_of_ble_eq_true rfl) (fun Y C Z => ?_)
  replace C : pr_C (pr_EM l e) Y { frames := 1, cells := 0, slots := 0, locals := 22 } cX9_readNumber RX9 4 _ := C
  show pr_W (pr_EM l e) Y _ 4 f 0 [(0, .ref (pr_ad (pr_EM l e) c)), (1, .int p1), (2, .int p2)] []
  refine pr_aload_n C dX9_readNumber_0 rfl 0 rfl ?_
  refine pr_g_9_7 C hk0 pr_w647 dX9_readNumber_1 ?_
  refine pr_if_ne (tgt := 23) C dX9_readNumber_4 (by decide) (fun c1 => ?_) (fun c1 => ?_)
  · have h := pr_ifF h c1
    refine pr_aload_n C dX9_readNumber_23 rfl 0 rfl ?_
    refine pr_iconst (v := 1) C dX9_readNumber_24 (by decide) ?_
    refine pr_p_9_7 C hk0 pr_w647 (by decide) dX9_readNumber_25 (fun f2 e3 => ?_)
    have h := pr_lt_at h e3
    refine pr_iconst (v := 0) C dX9_readNumber_28 (by decide) ?_
    obtain ⟨rfl, rfl⟩ := pr_inj h
    exact pr_iret C Z dX9_readNumber_29
  · have h := pr_ifT h c1
    refine pr_aload_n C dX9_readNumber_7 rfl 0 rfl ?_
    obtain ⟨r5, hc4, h⟩ := pr_b1_some h
    refine k_X9_next C pr_w648 hk0 hc4 (Nat.le_of_ble_eq_true rfl) (Nat.le_of_ble_eq_true rfl) (Nat.le_of_ble_eq_true rfl) dX9_readNumber_8 ?_
    refine pr_bipush (v := 48) C dX9_readNumber_11 (by decide) ?_
    refine pr_iload_n C dX9_readNumber_13 rfl 1 rfl ?_
    refine pr_iadd C dX9_readNumber_14 ?_
    refine pr_bipush (v := 57) C dX9_readNumber_15 (by decide) ?_
    obtain ⟨r7, hc6, h⟩ := pr_b1_some h
    refine k_X9_in C pr_w504  hc6 (Nat.le_of_ble_eq_true rfl) (Nat.le_of_ble_eq_true rfl) (Nat.le_of_ble_eq_true rfl) dX9_readNumber_17 ?_
    refine pr_if_ne (tgt := 30) C dX9_readNumber_20 (by decide) (fun c8 => ?_) (fun c8 => ?_)
    · have h := pr_ifF h c8
      refine pr_aload_n C dX9_readNumber_30 rfl 0 rfl ?_
      obtain ⟨r10, hc9, h⟩ := pr_b1_some h
      refine k_X9_next C pr_w648 hk0 hc9 (Nat.le_of_ble_eq_true rfl) (Nat.le_of_ble_eq_true rfl) (Nat.le_of_ble_eq_true rfl) dX9_readNumber_31 ?_
      refine pr_bipush (v := 48) C dX9_readNumber_34 (by decide) ?_
      refine pr_isub C dX9_readNumber_36 ?_
      refine pr_istore_n (lv' := [(3, .int (r10 - 48)), (0, .ref (pr_ad (pr_EM l e) c)), (1, .int p1), (2, .int p2)]) C dX9_readNumber_37 rfl (by decide) rfl ?_
      refine pr_aload_n C dX9_readNumber_38 rfl 1 rfl ?_
      refine pr_dup C dX9_readNumber_39 rfl ?_
      refine pr_g_9_6 C hk0 pr_w645 dX9_readNumber_40 ?_
      refine pr_iconst (v := 1) C dX9_readNumber_43 (by decide) ?_
      refine pr_iadd C dX9_readNumber_44 ?_
      refine pr_p_9_6 C hk0 pr_w645 dX9_readNumber_45 (fun f11 e12 => ?_)
      have h := pr_lt_at h e12
      obtain ⟨v13, f14, hv, h⟩ := pr_bd_some h
      refine pr_pick [1, 3, 0] rfl (l_X9_readNumber_48 C hk0 pr_fuel _ _ hv ?_)
      clear hv
      refine pr_iload_n C dX9_readNumber_108 rfl 0 rfl ?_
      obtain ⟨rfl, rfl⟩ := pr_inj h
      exact pr_iret C Z dX9_readNumber_109
    · have h := pr_ifT h c8
      refine pr_aload_n C dX9_readNumber_23 rfl 0 rfl ?_
      refine pr_iconst (v := 1) C dX9_readNumber_24 (by decide) ?_
      refine pr_p_9_7 C hk0 pr_w647 (by decide) dX9_readNumber_25 (fun f15 e16 => ?_)
      have h := pr_lt_at h e16
      refine pr_iconst (v := 0) C dX9_readNumber_28 (by decide) ?_
      obtain ⟨rfl, rfl⟩ := pr_inj h
      exact pr_iret C Z dX9_readNumber_29
theorem k_X9_readNumber {l : Launch} {e : pr_E0} {Y : pr_Y} {Rm : Room} {cc : ByteArray} {own : String} {nL : Nat} {c0 : Cond} {pc idx : Nat} {lv : List (Nat × Value)} {st : List Value} {c : Nat} {p1 : Int32} {p2 : Int32} {f : pr_M} {r : Int32} {g : pr_M} (C : pr_C (pr_EM l e) Y Rm cc own nL c0) (w1 : Cond.methodLink own idx yX9_readNumber ∈ pr_AL) (hk0 : pr_LM[c]? = some (9, 0)) (h : F_X9_readNumber c p1 p2 f = some (r, g)) (hr1 : 2 ≤ Rm.frames) (hr2 : 45 ≤ Rm.locals) (hcat : (st.map fun v => v.category).sum ≤ 8) (hdg : decode cc pc = .ok (.invokevirtual idx, 3)) (k : pr_W (pr_EM l e) Y Rm nL g (pc + 3) lv (.int r :: st)) : pr_W (pr_EM l e) Y Rm nL f pc lv (.int p2 :: .int p1 :: .ref (pr_ad (pr_EM l e) c) :: st) :=
  pr_callV (As := [.int p1, .int p2]) (n := 2) C (m_X9_readNumber hk0 h) hk0 (by decide) rfl w1 pr_w655 pr_w656 pr_w479 pr_w651 rfl rfl ⟨rfl, by decide +kernel, by decide +kernel, by decide +kernel⟩ rfl ⟨hr1, hr2⟩ rfl hcat hdg k

def F_X9_readUnit (c : Nat) (f : pr_M) : Option (Int32 × pr_M) :=
  if (f c 7) = 0 then (
    pr_b1 (F_X9_next c f) fun r5 =>
    pr_b1 (F_X9_in r5 48 52 f) fun r7 =>
    if r7 = 0 then (
      pr_lt (pr_up f c 7 1) fun f13 =>
      some (0, f13)
    ) else (
      pr_lt (pr_up f c 6 ((f c 6) + 1)) fun f9 =>
      pr_gd (¬ (((f9 c 6) - 1) < 0 ∨ 80 ≤ Int32.toNatClampNeg ((f9 c 6) - 1))) <|
      some (((f9 (c + 5) (Int32.toNatClampNeg ((f9 c 6) - 1))) - 48), f9)
    )
  ) else (
    pr_lt (pr_up f c 7 1) fun f2 =>
    some (0, f2)
  )
set_option maxHeartbeats 4000000 in
set_option maxRecDepth 100000 in
theorem m_X9_readUnit {l : Launch} {e : pr_E0} {c : Nat} {f : pr_M} {r : Int32} {g : pr_M} (hk0 : pr_LM[c]? = some (9, 0)) (h : F_X9_readUnit c f = some (r, g)) : pr_Met (pr_EM l e) yX9_readUnit cX9_readUnit 1 (some .int) { frames := 1, cells := 0, slots := 0, locals := 22 } [.ref (pr_ad (pr_EM l e) c)] f (some (.int r)) g := by
  rw [F_X9_readUnit] at h
  refine pr_enter (by decide +kernel) (Nat.le_of_ble_eq_true rfl) (fun Y C Z => ?_)
  replace C : pr_C (pr_EM l e) Y { frames := 1, cells := 0, slots := 0, locals := 22 } cX9_readUnit RX9 1 _ := C
  show pr_W (pr_EM l e) Y _ 1 f 0 [(0, .ref (pr_ad (pr_EM l e) c))] []
  refine pr_aload_n C dX9_readUnit_0 rfl 0 rfl ?_
  refine pr_g_9_7 C hk0 pr_w647 dX9_readUnit_1 ?_
  refine pr_if_ne (tgt := 21) C dX9_readUnit_4 (by decide) (fun c1 => ?_) (fun c1 => ?_)
  · have h := pr_ifF h c1
    refine pr_aload_n C dX9_readUnit_21 rfl 0 rfl ?_
    refine pr_iconst (v := 1) C dX9_readUnit_22 (by decide) ?_
    refine pr_p_9_7 C hk0 pr_w647 (by decide) dX9_readUnit_23 (fun f2 e3 => ?_)
    have h := pr_lt_at h e3
    refine pr_iconst (v := 0) C dX9_readUnit_26 (by decide) ?_
    obtain ⟨rfl, rfl⟩ := pr_inj h
    exact pr_iret C Z dX9_readUnit_27
  · have h := pr_ifT h c1
    refine pr_aload_n C dX9_readUnit_7 rfl 0 rfl ?_
    obtain ⟨r5, hc4, h⟩ := pr_b1_some h
    refine k_X9_next C pr_w648 hk0 hc4 (Nat.le_of_ble_eq_true rfl) (Nat.le_of_ble_eq_true rfl) (Nat.le_of_ble_eq_true rfl) dX9_readUnit_8 ?_
    refine pr_bipush (v := 48) C dX9_readUnit_11 (by decide) ?_
    refine pr_bipush (v := 52) C dX9_readUnit_13 (by decide) ?_
    obtain ⟨r7, hc6, h⟩ := pr_b1_some h
    refine k_X9_in C pr_w504  hc6 (Nat.le_of_ble_eq_true rfl) (Nat.le_of_ble_eq_true rfl) (Nat.le_of_ble_eq_true rfl) dX9_readUnit_15 ?_
    refine pr_if_ne (tgt := 28) C dX9_readUnit_18 (by decide) (fun c8 => ?_) (fun c8 => ?_)
    · have h := pr_ifF h c8
      refine pr_aload_n C dX9_readUnit_28 rfl 0 rfl ?_
      refine pr_dup C dX9_readUnit_29 rfl ?_
      refine pr_g_9_6 C hk0 pr_w645 dX9_readUnit_30 ?_
      refine pr_iconst (v := 1) C dX9_readUnit_33 (by decide) ?_
      refine pr_iadd C dX9_readUnit_34 ?_
      refine pr_p_9_6 C hk0 pr_w645 dX9_readUnit_35 (fun f9 e10 => ?_)
      have h := pr_lt_at h e10
      refine pr_aload_n C dX9_readUnit_38 rfl 0 rfl ?_
      refine pr_g_9_4 C hk0 pr_w491 dX9_readUnit_39 ?_
      have hk11 := pr_kM_9_4 hk0
      refine pr_aload_n C dX9_readUnit_42 rfl 0 rfl ?_
      refine pr_g_9_6 C hk0 pr_w645 dX9_readUnit_43 ?_
      refine pr_iconst (v := 1) C dX9_readUnit_46 (by decide) ?_
      refine pr_isub C dX9_readUnit_47 ?_
      obtain ⟨hg12, h⟩ := pr_gd_some h
      refine pr_iaload C hk11 hg12 dX9_readUnit_48 ?_
      refine pr_bipush (v := 48) C dX9_readUnit_49 (by decide) ?_
      refine pr_isub C dX9_readUnit_51 ?_
      obtain ⟨rfl, rfl⟩ := pr_inj h
      exact pr_iret C Z dX9_readUnit_52
    · have h := pr_ifT h c8
      refine pr_aload_n C dX9_readUnit_21 rfl 0 rfl ?_
      refine pr_iconst (v := 1) C dX9_readUnit_22 (by decide) ?_
      refine pr_p_9_7 C hk0 pr_w647 (by decide) dX9_readUnit_23 (fun f13 e14 => ?_)
      have h := pr_lt_at h e14
      refine pr_iconst (v := 0) C dX9_readUnit_26 (by decide) ?_
      obtain ⟨rfl, rfl⟩ := pr_inj h
      exact pr_iret C Z dX9_readUnit_27
theorem k_X9_readUnit {l : Launch} {e : pr_E0} {Y : pr_Y} {Rm : Room} {cc : ByteArray} {own : String} {nL : Nat} {c0 : Cond} {pc idx : Nat} {lv : List (Nat × Value)} {st : List Value} {c : Nat} {f : pr_M} {r : Int32} {g : pr_M} (C : pr_C (pr_EM l e) Y Rm cc own nL c0) (w1 : Cond.methodLink own idx yX9_readUnit ∈ pr_AL) (hk0 : pr_LM[c]? = some (9, 0)) (h : F_X9_readUnit c f = some (r, g)) (hr1 : 2 ≤ Rm.frames) (hr2 : 42 ≤ Rm.locals) (hcat : (st.map fun v => v.category).sum ≤ 8) (hdg : decode cc pc = .ok (.invokevirtual idx, 3)) (k : pr_W (pr_EM l e) Y Rm nL g (pc + 3) lv (.int r :: st)) : pr_W (pr_EM l e) Y Rm nL f pc lv (.ref (pr_ad (pr_EM l e) c) :: st) :=
  pr_callV (As := []) (n := 0) C (m_X9_readUnit hk0 h) hk0 (by decide) rfl w1 pr_w662 pr_w663 pr_w479 pr_w652 rfl rfl ⟨rfl, by decide +kernel, by decide +kernel, by decide +kernel⟩ rfl ⟨hr1, hr2⟩ rfl hcat hdg k

def F_X9_readDisturbance (c : Nat) (p1 : Int32) (f : pr_M) : Option (Unit × pr_M) :=
  pr_b1 (α := Int32) (
    if (f c 7) = 0 then (
      pr_b1 (F_X9_next c f) fun r4 =>
      if r4 = 45 then (
        some 1
      ) else (
        some 0
      )
    ) else (
      some 0
    )
  ) fun v1 =>
  pr_b1 (α := Int32) (
    if v1 = 0 then (
      some 0
    ) else (
      some 1
    )
  ) fun v6 =>
  pr_lt (pr_up f c 6 ((f c 6) + v6)) fun f8 =>
  pr_bd (F_X9_readNumber c 0 3000 f8) fun r11 f12 =>
  pr_b1 (α := Int32) (
    if v1 = 0 then (
      some r11
    ) else (
      some (-r11)
    )
  ) fun v14 =>
  pr_gd (¬ ((p1 + 2) < 0 ∨ 164 ≤ Int32.toNatClampNeg (p1 + 2))) <|
  pr_lt (pr_up f12 (c + 6) (Int32.toNatClampNeg (p1 + 2)) v14) fun f17 =>
  pr_bd (F_X9_need c 47 f17) fun u20 f21 =>
  pr_bd (F_X9_readNumber c 1 50 f21) fun r23 f24 =>
  pr_gd (¬ ((p1 + 3) < 0 ∨ 164 ≤ Int32.toNatClampNeg (p1 + 3))) <|
  pr_lt (pr_up f24 (c + 6) (Int32.toNatClampNeg (p1 + 3)) r23) fun f26 =>
  some ((), f26)
set_option maxHeartbeats 4000000 in
set_option maxRecDepth 100000 in
theorem m_X9_readDisturbance {l : Launch} {e : pr_E0} {c : Nat} {p1 : Int32} {f : pr_M} {r : Unit} {g : pr_M} (hk0 : pr_LM[c]? = some (9, 0)) (h : F_X9_readDisturbance c p1 f = some (r, g)) : pr_Met (pr_EM l e) yX9_readDisturbance cX9_readDisturbance 4 none { frames := 2, cells := 0, slots := 0, locals := 45 } [.ref (pr_ad (pr_EM l e) c), .int p1] f none g := by
  rw [F_X9_readDisturbance] at h
  refine pr_enter (by decide +kernel) (Nat.le_of_ble_eq_true rfl) (fun Y C Z => ?_)
  replace C : pr_C (pr_EM l e) Y { frames := 2, cells := 0, slots := 0, locals := 45 } cX9_readDisturbance RX9 4 _ := C
  show pr_W (pr_EM l e) Y _ 4 f 0 [(0, .ref (pr_ad (pr_EM l e) c)), (1, .int p1)] []
  refine pr_aload_n C dX9_readDisturbance_0 rfl 0 rfl ?_
  refine pr_g_9_7 C hk0 pr_w647 dX9_readDisturbance_1 ?_
  obtain ⟨v1, hv, h⟩ := pr_b1_some h
  have K : pr_W (pr_EM l e) Y { frames := 2, cells := 0, slots := 0, locals := 45 } 4 f 21 [(0, .ref (pr_ad (pr_EM l e) c)), (1, .int p1)] [.int v1] := by
    refine pr_istore_n (lv' := [(2, .int v1), (0, .ref (pr_ad (pr_EM l e) c)), (1, .int p1)]) C dX9_readDisturbance_21 rfl (by decide) rfl ?_
    refine pr_aload_n C dX9_readDisturbance_22 rfl 1 rfl ?_
    refine pr_dup C dX9_readDisturbance_23 rfl ?_
    refine pr_g_9_6 C hk0 pr_w645 dX9_readDisturbance_24 ?_
    refine pr_iload_n C dX9_readDisturbance_27 rfl 0 rfl ?_
    obtain ⟨v6, hv, h⟩ := pr_b1_some h
    have K : pr_W (pr_EM l e) Y { frames := 2, cells := 0, slots := 0, locals := 45 } 4 f 36 [(0, .ref (pr_ad (pr_EM l e) c)), (1, .int p1), (2, .int v1)] [.int v6, .int (f c 6), .ref (pr_ad (pr_EM l e) c)] := by
      refine pr_iadd C dX9_readDisturbance_36 ?_
      refine pr_p_9_6 C hk0 pr_w645 dX9_readDisturbance_37 (fun f8 e9 => ?_)
      have h := pr_lt_at h e9
      refine pr_aload_n C dX9_readDisturbance_40 rfl 0 rfl ?_
      refine pr_iconst (v := 0) C dX9_readDisturbance_41 (by decide) ?_
      refine pr_sipush (v := 3000) C dX9_readDisturbance_42 (by decide) ?_
      obtain ⟨r11, f12, hc10, h⟩ := pr_bd_some h
      refine k_X9_readNumber C pr_w654 hk0 hc10 (Nat.le_of_ble_eq_true rfl) (Nat.le_of_ble_eq_true rfl) (Nat.le_of_ble_eq_true rfl) dX9_readDisturbance_45 ?_
      refine pr_istore_n (lv' := [(3, .int r11), (0, .ref (pr_ad (pr_EM l e) c)), (1, .int p1), (2, .int v1)]) C dX9_readDisturbance_48 rfl (by decide) rfl ?_
      refine pr_aload_n C dX9_readDisturbance_49 rfl 1 rfl ?_
      refine pr_g_9_8 C hk0 pr_w492 dX9_readDisturbance_50 ?_
      have hk13 := pr_kM_9_8 hk0
      refine pr_iload_n C dX9_readDisturbance_53 rfl 2 rfl ?_
      refine pr_iconst (v := 2) C dX9_readDisturbance_54 (by decide) ?_
      refine pr_iadd C dX9_readDisturbance_55 ?_
      refine pr_iload_n C dX9_readDisturbance_56 rfl 3 rfl ?_
      obtain ⟨v14, hv, h⟩ := pr_b1_some h
      have K : pr_W (pr_EM l e) Y { frames := 2, cells := 0, slots := 0, locals := 45 } 4 f12 66 [(0, .ref (pr_ad (pr_EM l e) c)), (1, .int p1)] [.int v14, .int (p1 + 2), .ref (pr_ad (pr_EM l e) (c + 6))] := by
        obtain ⟨hg16, h⟩ := pr_gd_some h
        refine pr_iastore C hk13 hg16 dX9_readDisturbance_66 (fun f17 e18 => ?_)
        have h := pr_lt_at h e18
        refine pr_aload_n C dX9_readDisturbance_67 rfl 0 rfl ?_
        refine pr_bipush (v := 47) C dX9_readDisturbance_68 (by decide) ?_
        obtain ⟨u20, f21, hc19, h⟩ := pr_bd_some h
        refine k_X9_need C pr_w657 hk0 hc19 (Nat.le_of_ble_eq_true rfl) (Nat.le_of_ble_eq_true rfl) (Nat.le_of_ble_eq_true rfl) dX9_readDisturbance_70 ?_
        refine pr_aload_n C dX9_readDisturbance_73 rfl 0 rfl ?_
        refine pr_g_9_8 C hk0 pr_w492 dX9_readDisturbance_74 ?_
        refine pr_iload_n C dX9_readDisturbance_77 rfl 1 rfl ?_
        refine pr_iconst (v := 3) C dX9_readDisturbance_78 (by decide) ?_
        refine pr_iadd C dX9_readDisturbance_79 ?_
        refine pr_aload_n C dX9_readDisturbance_80 rfl 0 rfl ?_
        refine pr_iconst (v := 1) C dX9_readDisturbance_81 (by decide) ?_
        refine pr_bipush (v := 50) C dX9_readDisturbance_82 (by decide) ?_
        obtain ⟨r23, f24, hc22, h⟩ := pr_bd_some h
        refine k_X9_readNumber C pr_w654 hk0 hc22 (Nat.le_of_ble_eq_true rfl) (Nat.le_of_ble_eq_true rfl) (Nat.le_of_ble_eq_true rfl) dX9_readDisturbance_84 ?_
        obtain ⟨hg25, h⟩ := pr_gd_some h
        refine pr_iastore C hk13 hg25 dX9_readDisturbance_87 (fun f26 e27 => ?_)
        have h := pr_lt_at h e27
        obtain ⟨rfl, rfl⟩ := pr_inj h
        exact pr_vret C Z dX9_readDisturbance_88
      clear h
      have h := hv
      clear hv
      refine pr_if_eq (tgt := 65) C dX9_readDisturbance_57 (by decide) (fun c15 => ?_) (fun c15 => ?_)
      · have h := pr_ifT h c15
        refine pr_iload_n C dX9_readDisturbance_65 rfl 0 rfl ?_
        obtain rfl := pr_in1 h
        exact pr_pick [1, 2] rfl K
      · have h := pr_ifF h c15
        refine pr_iload_n C dX9_readDisturbance_60 rfl 0 rfl ?_
        refine pr_ineg C dX9_readDisturbance_61 ?_
        refine pr_goto (tgt := 66) C dX9_readDisturbance_62 (by decide) ?_
        obtain rfl := pr_in1 h
        exact pr_pick [1, 2] rfl K
    clear h
    have h := hv
    clear hv
    refine pr_if_eq (tgt := 35) C dX9_readDisturbance_28 (by decide) (fun c7 => ?_) (fun c7 => ?_)
    · have h := pr_ifT h c7
      refine pr_iconst (v := 0) C dX9_readDisturbance_35 (by decide) ?_
      obtain rfl := pr_in1 h
      exact pr_pick [1, 2, 0] rfl K
    · have h := pr_ifF h c7
      refine pr_iconst (v := 1) C dX9_readDisturbance_31 (by decide) ?_
      refine pr_goto (tgt := 36) C dX9_readDisturbance_32 (by decide) ?_
      obtain rfl := pr_in1 h
      exact pr_pick [1, 2, 0] rfl K
  clear h
  have h := hv
  clear hv
  refine pr_if_ne (tgt := 20) C dX9_readDisturbance_4 (by decide) (fun c2 => ?_) (fun c2 => ?_)
  · have h := pr_ifF h c2
    refine pr_iconst (v := 0) C dX9_readDisturbance_20 (by decide) ?_
    obtain rfl := pr_in1 h
    exact pr_pick [0, 1] rfl K
  · have h := pr_ifT h c2
    refine pr_aload_n C dX9_readDisturbance_7 rfl 0 rfl ?_
    obtain ⟨r4, hc3, h⟩ := pr_b1_some h
    refine k_X9_next C pr_w648 hk0 hc3 (Nat.le_of_ble_eq_true rfl) (Nat.le_of_ble_eq_true rfl) (Nat.le_of_ble_eq_true rfl) dX9_readDisturbance_8 ?_
    refine pr_bipush (v := 45) C dX9_readDisturbance_11 (by decide) ?_
    refine pr_icmp_ne (tgt := 20) C dX9_readDisturbance_13 (by decide) (fun c5 => ?_) (fun c5 => ?_)
    · have h := pr_ifF h c5
      refine pr_iconst (v := 0) C dX9_readDisturbance_20 (by decide) ?_
      obtain rfl := pr_in1 h
      exact pr_pick [0, 1] rfl K
    · have h := pr_ifT h c5
      refine pr_iconst (v := 1) C dX9_readDisturbance_16 (by decide) ?_
      refine pr_goto (tgt := 21) C dX9_readDisturbance_17 (by decide) ?_
      obtain rfl := pr_in1 h
      exact pr_pick [0, 1] rfl K
theorem k_X9_readDisturbance {l : Launch} {e : pr_E0} {Y : pr_Y} {Rm : Room} {cc : ByteArray} {own : String} {nL : Nat} {c0 : Cond} {pc idx : Nat} {lv : List (Nat × Value)} {st : List Value} {c : Nat} {p1 : Int32} {f : pr_M} {r : Unit} {g : pr_M} (C : pr_C (pr_EM l e) Y Rm cc own nL c0) (w1 : Cond.methodLink own idx yX9_readDisturbance ∈ pr_AL) (hk0 : pr_LM[c]? = some (9, 0)) (h : F_X9_readDisturbance c p1 f = some (r, g)) (hr1 : 3 ≤ Rm.frames) (hr2 : 68 ≤ Rm.locals) (hcat : (st.map fun v => v.category).sum ≤ 8) (hdg : decode cc pc = .ok (.invokevirtual idx, 3)) (k : pr_W (pr_EM l e) Y Rm nL g (pc + 3) lv (st)) : pr_W (pr_EM l e) Y Rm nL f pc lv (.int p1 :: .ref (pr_ad (pr_EM l e) c) :: st) :=
  pr_callV (As := [.int p1]) (n := 1) C (m_X9_readDisturbance hk0 h) hk0 (by decide) rfl w1 pr_w665 pr_w666 pr_w479 pr_w653 rfl rfl ⟨rfl, by decide +kernel, by decide +kernel, by decide +kernel⟩ rfl ⟨hr1, hr2⟩ rfl hcat hdg k

def F_X9_readStep (c : Nat) (f : pr_M) : Option (Unit × pr_M) :=
  pr_b1 (F_X9_next c f) fun r2 =>
  if r2 = 110 then (
    pr_lt (pr_up f c 6 ((f c 6) + 1)) fun f4 =>
    pr_gd (¬ ((4 * (f c 9)) < 0 ∨ 164 ≤ Int32.toNatClampNeg (4 * (f c 9)))) <|
    pr_lt (pr_up f4 (c + 6) (Int32.toNatClampNeg (4 * (f c 9))) r2) fun f8 =>
    pr_gd (¬ (((4 * (f c 9)) + 1) < 0 ∨ 164 ≤ Int32.toNatClampNeg ((4 * (f c 9)) + 1))) <|
    pr_lt (pr_up f8 (c + 6) (Int32.toNatClampNeg ((4 * (f c 9)) + 1)) 0) fun f11 =>
    pr_bd (F_X9_readNumber c 1 99 f11) fun r15 f16 =>
    pr_gd (¬ (((4 * (f c 9)) + 2) < 0 ∨ 164 ≤ Int32.toNatClampNeg ((4 * (f c 9)) + 2))) <|
    pr_lt (pr_up f16 (c + 6) (Int32.toNatClampNeg ((4 * (f c 9)) + 2)) r15) fun f18 =>
    pr_lt (pr_up f18 c 9 ((f18 c 9) + 1)) fun f20 =>
    some ((), f20)
  ) else (
    if r2 = 118 then (
      pr_lt (pr_up f c 6 ((f c 6) + 1)) fun f23 =>
      pr_gd (¬ ((4 * (f c 9)) < 0 ∨ 164 ≤ Int32.toNatClampNeg (4 * (f c 9)))) <|
      pr_lt (pr_up f23 (c + 6) (Int32.toNatClampNeg (4 * (f c 9))) r2) fun f27 =>
      pr_gd (¬ (((4 * (f c 9)) + 1) < 0 ∨ 164 ≤ Int32.toNatClampNeg ((4 * (f c 9)) + 1))) <|
      pr_lt (pr_up f27 (c + 6) (Int32.toNatClampNeg ((4 * (f c 9)) + 1)) 0) fun f30 =>
      pr_bd (F_X9_readNumber c 0 1000 f30) fun r35 f36 =>
      pr_gd (¬ (((4 * (f c 9)) + 2) < 0 ∨ 164 ≤ Int32.toNatClampNeg ((4 * (f c 9)) + 2))) <|
      pr_lt (pr_up f36 (c + 6) (Int32.toNatClampNeg ((4 * (f c 9)) + 2)) r35) fun f38 =>
      pr_lt (pr_up f38 c 9 ((f38 c 9) + 1)) fun f40 =>
      some ((), f40)
    ) else (
      if r2 = 100 then (
        pr_lt (pr_up f c 6 ((f c 6) + 1)) fun f43 =>
        pr_gd (¬ ((4 * (f c 9)) < 0 ∨ 164 ≤ Int32.toNatClampNeg (4 * (f c 9)))) <|
        pr_lt (pr_up f43 (c + 6) (Int32.toNatClampNeg (4 * (f c 9))) r2) fun f47 =>
        pr_gd (¬ (((4 * (f c 9)) + 1) < 0 ∨ 164 ≤ Int32.toNatClampNeg ((4 * (f c 9)) + 1))) <|
        pr_lt (pr_up f47 (c + 6) (Int32.toNatClampNeg ((4 * (f c 9)) + 1)) 0) fun f50 =>
        pr_bd (F_X9_readUnit c f50) fun r56 f57 =>
        pr_lt (pr_up f57 (c + 6) (Int32.toNatClampNeg ((4 * (f c 9)) + 1)) r56) fun f58 =>
        pr_bd (F_X9_need c 58 f58) fun u61 f62 =>
        pr_bd (F_X9_readDisturbance c (4 * (f c 9)) f62) fun u64 f65 =>
        pr_lt (pr_up f65 c 9 ((f65 c 9) + 1)) fun f66 =>
        some ((), f66)
      ) else (
        if r2 = 112 then (
          pr_lt (pr_up f c 6 ((f c 6) + 1)) fun f69 =>
          pr_gd (¬ ((4 * (f c 9)) < 0 ∨ 164 ≤ Int32.toNatClampNeg (4 * (f c 9)))) <|
          pr_lt (pr_up f69 (c + 6) (Int32.toNatClampNeg (4 * (f c 9))) r2) fun f73 =>
          pr_gd (¬ (((4 * (f c 9)) + 1) < 0 ∨ 164 ≤ Int32.toNatClampNeg ((4 * (f c 9)) + 1))) <|
          pr_lt (pr_up f73 (c + 6) (Int32.toNatClampNeg ((4 * (f c 9)) + 1)) 0) fun f76 =>
          pr_bd (F_X9_readDisturbance c (4 * (f c 9)) f76) fun u82 f83 =>
          pr_lt (pr_up f83 c 9 ((f83 c 9) + 1)) fun f84 =>
          some ((), f84)
        ) else (
          pr_lt (pr_up f c 7 1) fun f86 =>
          some ((), f86)
        )
      )
    )
  )
set_option maxHeartbeats 4000000 in
set_option maxRecDepth 100000 in
theorem m_X9_readStep {l : Launch} {e : pr_E0} {c : Nat} {f : pr_M} {r : Unit} {g : pr_M} (hk0 : pr_LM[c]? = some (9, 0)) (h : F_X9_readStep c f = some (r, g)) : pr_Met (pr_EM l e) yX9_readStep cX9_readStep 3 none { frames := 3, cells := 0, slots := 0, locals := 68 } [.ref (pr_ad (pr_EM l e) c)] f none g := by
  rw [F_X9_readStep] at h
  refine pr_enter (by decide +kernel) (Nat.le_of_ble_eq_true rfl) (fun Y C Z => ?_)
  replace C : pr_C (pr_EM l e) Y { frames := 3, cells := 0, slots := 0, locals := 68 } cX9_readStep RX9 3 _ := C
  show pr_W (pr_EM l e) Y _ 3 f 0 [(0, .ref (pr_ad (pr_EM l e) c))] []
  refine pr_aload_n C dX9_readStep_0 rfl 0 rfl ?_
  obtain ⟨r2, hc1, h⟩ := pr_b1_some h
  refine k_X9_next C pr_w648 hk0 hc1 (Nat.le_of_ble_eq_true rfl) (Nat.le_of_ble_eq_true rfl) (Nat.le_of_ble_eq_true rfl) dX9_readStep_1 ?_
  refine pr_istore_n (lv' := [(1, .int r2), (0, .ref (pr_ad (pr_EM l e) c))]) C dX9_readStep_4 rfl (by decide) rfl ?_
  refine pr_iconst (v := 4) C dX9_readStep_5 (by decide) ?_
  refine pr_aload_n C dX9_readStep_6 rfl 1 rfl ?_
  refine pr_g_9_9 C hk0 pr_w660 dX9_readStep_7 ?_
  refine pr_imul C dX9_readStep_10 ?_
  refine pr_istore_n (lv' := [(2, .int (4 * (f c 9))), (1, .int r2), (0, .ref (pr_ad (pr_EM l e) c))]) C dX9_readStep_11 rfl (by decide) rfl ?_
  refine pr_iload_n C dX9_readStep_12 rfl 1 rfl ?_
  refine pr_bipush (v := 110) C dX9_readStep_13 (by decide) ?_
  refine pr_icmp_eq (tgt := 42) C dX9_readStep_15 (by decide) (fun c3 => ?_) (fun c3 => ?_)
  · have h := pr_ifT h c3
    refine pr_aload_n C dX9_readStep_42 rfl 2 rfl ?_
    refine pr_dup C dX9_readStep_43 rfl ?_
    refine pr_g_9_6 C hk0 pr_w645 dX9_readStep_44 ?_
    refine pr_iconst (v := 1) C dX9_readStep_47 (by decide) ?_
    refine pr_iadd C dX9_readStep_48 ?_
    refine pr_p_9_6 C hk0 pr_w645 dX9_readStep_49 (fun f4 e5 => ?_)
    have h := pr_lt_at h e5
    refine pr_aload_n C dX9_readStep_52 rfl 2 rfl ?_
    refine pr_g_9_8 C hk0 pr_w492 dX9_readStep_53 ?_
    have hk6 := pr_kM_9_8 hk0
    refine pr_iload_n C dX9_readStep_56 rfl 0 rfl ?_
    refine pr_iload_n C dX9_readStep_57 rfl 1 rfl ?_
    obtain ⟨hg7, h⟩ := pr_gd_some h
    refine pr_iastore C hk6 hg7 dX9_readStep_58 (fun f8 e9 => ?_)
    have h := pr_lt_at h e9
    refine pr_aload_n C dX9_readStep_59 rfl 2 rfl ?_
    refine pr_g_9_8 C hk0 pr_w492 dX9_readStep_60 ?_
    refine pr_iload_n C dX9_readStep_63 rfl 0 rfl ?_
    refine pr_iconst (v := 1) C dX9_readStep_64 (by decide) ?_
    refine pr_iadd C dX9_readStep_65 ?_
    refine pr_iconst (v := 0) C dX9_readStep_66 (by decide) ?_
    obtain ⟨hg10, h⟩ := pr_gd_some h
    refine pr_iastore C hk6 hg10 dX9_readStep_67 (fun f11 e12 => ?_)
    have h := pr_lt_at h e12
    refine pr_iload_n C dX9_readStep_68 rfl 1 rfl ?_
    refine pr_bipush (v := 110) C dX9_readStep_69 (by decide) ?_
    refine pr_icmp_ne (tgt := 92) C dX9_readStep_71 (by decide) (fun c13 => absurd c3 c13) (fun _ => ?_)
    refine pr_aload_n C dX9_readStep_74 rfl 2 rfl ?_
    refine pr_g_9_8 C hk0 pr_w492 dX9_readStep_75 ?_
    refine pr_iload_n C dX9_readStep_78 rfl 0 rfl ?_
    refine pr_iconst (v := 2) C dX9_readStep_79 (by decide) ?_
    refine pr_iadd C dX9_readStep_80 ?_
    refine pr_aload_n C dX9_readStep_81 rfl 2 rfl ?_
    refine pr_iconst (v := 1) C dX9_readStep_82 (by decide) ?_
    refine pr_bipush (v := 99) C dX9_readStep_83 (by decide) ?_
    obtain ⟨r15, f16, hc14, h⟩ := pr_bd_some h
    refine k_X9_readNumber C pr_w654 hk0 hc14 (Nat.le_of_ble_eq_true rfl) (Nat.le_of_ble_eq_true rfl) (Nat.le_of_ble_eq_true rfl) dX9_readStep_85 ?_
    obtain ⟨hg17, h⟩ := pr_gd_some h
    refine pr_iastore C hk6 hg17 dX9_readStep_88 (fun f18 e19 => ?_)
    have h := pr_lt_at h e19
    refine pr_goto (tgt := 146) C dX9_readStep_89 (by decide) ?_
    refine pr_aload_n C dX9_readStep_146 rfl 2 rfl ?_
    refine pr_dup C dX9_readStep_147 rfl ?_
    refine pr_g_9_9 C hk0 pr_w660 dX9_readStep_148 ?_
    refine pr_iconst (v := 1) C dX9_readStep_151 (by decide) ?_
    refine pr_iadd C dX9_readStep_152 ?_
    refine pr_p_9_9 C hk0 pr_w660 dX9_readStep_153 (fun f20 e21 => ?_)
    have h := pr_lt_at h e21
    obtain ⟨rfl, rfl⟩ := pr_inj h
    exact pr_vret C Z dX9_readStep_156
  · have h := pr_ifF h c3
    refine pr_iload_n C dX9_readStep_18 rfl 1 rfl ?_
    refine pr_bipush (v := 118) C dX9_readStep_19 (by decide) ?_
    refine pr_icmp_eq (tgt := 42) C dX9_readStep_21 (by decide) (fun c22 => ?_) (fun c22 => ?_)
    · have h := pr_ifT h c22
      refine pr_aload_n C dX9_readStep_42 rfl 2 rfl ?_
      refine pr_dup C dX9_readStep_43 rfl ?_
      refine pr_g_9_6 C hk0 pr_w645 dX9_readStep_44 ?_
      refine pr_iconst (v := 1) C dX9_readStep_47 (by decide) ?_
      refine pr_iadd C dX9_readStep_48 ?_
      refine pr_p_9_6 C hk0 pr_w645 dX9_readStep_49 (fun f23 e24 => ?_)
      have h := pr_lt_at h e24
      refine pr_aload_n C dX9_readStep_52 rfl 2 rfl ?_
      refine pr_g_9_8 C hk0 pr_w492 dX9_readStep_53 ?_
      have hk25 := pr_kM_9_8 hk0
      refine pr_iload_n C dX9_readStep_56 rfl 0 rfl ?_
      refine pr_iload_n C dX9_readStep_57 rfl 1 rfl ?_
      obtain ⟨hg26, h⟩ := pr_gd_some h
      refine pr_iastore C hk25 hg26 dX9_readStep_58 (fun f27 e28 => ?_)
      have h := pr_lt_at h e28
      refine pr_aload_n C dX9_readStep_59 rfl 2 rfl ?_
      refine pr_g_9_8 C hk0 pr_w492 dX9_readStep_60 ?_
      refine pr_iload_n C dX9_readStep_63 rfl 0 rfl ?_
      refine pr_iconst (v := 1) C dX9_readStep_64 (by decide) ?_
      refine pr_iadd C dX9_readStep_65 ?_
      refine pr_iconst (v := 0) C dX9_readStep_66 (by decide) ?_
      obtain ⟨hg29, h⟩ := pr_gd_some h
      refine pr_iastore C hk25 hg29 dX9_readStep_67 (fun f30 e31 => ?_)
      have h := pr_lt_at h e31
      refine pr_iload_n C dX9_readStep_68 rfl 1 rfl ?_
      refine pr_bipush (v := 110) C dX9_readStep_69 (by decide) ?_
      refine pr_icmp_ne (tgt := 92) C dX9_readStep_71 (by decide) (fun _ => ?_) (fun c32 => absurd c32 c3)
      refine pr_iload_n C dX9_readStep_92 rfl 1 rfl ?_
      refine pr_bipush (v := 118) C dX9_readStep_93 (by decide) ?_
      refine pr_icmp_ne (tgt := 117) C dX9_readStep_95 (by decide) (fun c33 => absurd c22 c33) (fun _ => ?_)
      refine pr_aload_n C dX9_readStep_98 rfl 2 rfl ?_
      refine pr_g_9_8 C hk0 pr_w492 dX9_readStep_99 ?_
      refine pr_iload_n C dX9_readStep_102 rfl 0 rfl ?_
      refine pr_iconst (v := 2) C dX9_readStep_103 (by decide) ?_
      refine pr_iadd C dX9_readStep_104 ?_
      refine pr_aload_n C dX9_readStep_105 rfl 2 rfl ?_
      refine pr_iconst (v := 0) C dX9_readStep_106 (by decide) ?_
      refine pr_sipush (v := 1000) C dX9_readStep_107 (by decide) ?_
      obtain ⟨r35, f36, hc34, h⟩ := pr_bd_some h
      refine k_X9_readNumber C pr_w654 hk0 hc34 (Nat.le_of_ble_eq_true rfl) (Nat.le_of_ble_eq_true rfl) (Nat.le_of_ble_eq_true rfl) dX9_readStep_110 ?_
      obtain ⟨hg37, h⟩ := pr_gd_some h
      refine pr_iastore C hk25 hg37 dX9_readStep_113 (fun f38 e39 => ?_)
      have h := pr_lt_at h e39
      refine pr_goto (tgt := 146) C dX9_readStep_114 (by decide) ?_
      refine pr_aload_n C dX9_readStep_146 rfl 2 rfl ?_
      refine pr_dup C dX9_readStep_147 rfl ?_
      refine pr_g_9_9 C hk0 pr_w660 dX9_readStep_148 ?_
      refine pr_iconst (v := 1) C dX9_readStep_151 (by decide) ?_
      refine pr_iadd C dX9_readStep_152 ?_
      refine pr_p_9_9 C hk0 pr_w660 dX9_readStep_153 (fun f40 e41 => ?_)
      have h := pr_lt_at h e41
      obtain ⟨rfl, rfl⟩ := pr_inj h
      exact pr_vret C Z dX9_readStep_156
    · have h := pr_ifF h c22
      refine pr_iload_n C dX9_readStep_24 rfl 1 rfl ?_
      refine pr_bipush (v := 100) C dX9_readStep_25 (by decide) ?_
      refine pr_icmp_eq (tgt := 42) C dX9_readStep_27 (by decide) (fun c42 => ?_) (fun c42 => ?_)
      · have h := pr_ifT h c42
        refine pr_aload_n C dX9_readStep_42 rfl 2 rfl ?_
        refine pr_dup C dX9_readStep_43 rfl ?_
        refine pr_g_9_6 C hk0 pr_w645 dX9_readStep_44 ?_
        refine pr_iconst (v := 1) C dX9_readStep_47 (by decide) ?_
        refine pr_iadd C dX9_readStep_48 ?_
        refine pr_p_9_6 C hk0 pr_w645 dX9_readStep_49 (fun f43 e44 => ?_)
        have h := pr_lt_at h e44
        refine pr_aload_n C dX9_readStep_52 rfl 2 rfl ?_
        refine pr_g_9_8 C hk0 pr_w492 dX9_readStep_53 ?_
        have hk45 := pr_kM_9_8 hk0
        refine pr_iload_n C dX9_readStep_56 rfl 0 rfl ?_
        refine pr_iload_n C dX9_readStep_57 rfl 1 rfl ?_
        obtain ⟨hg46, h⟩ := pr_gd_some h
        refine pr_iastore C hk45 hg46 dX9_readStep_58 (fun f47 e48 => ?_)
        have h := pr_lt_at h e48
        refine pr_aload_n C dX9_readStep_59 rfl 2 rfl ?_
        refine pr_g_9_8 C hk0 pr_w492 dX9_readStep_60 ?_
        refine pr_iload_n C dX9_readStep_63 rfl 0 rfl ?_
        refine pr_iconst (v := 1) C dX9_readStep_64 (by decide) ?_
        refine pr_iadd C dX9_readStep_65 ?_
        refine pr_iconst (v := 0) C dX9_readStep_66 (by decide) ?_
        obtain ⟨hg49, h⟩ := pr_gd_some h
        refine pr_iastore C hk45 hg49 dX9_readStep_67 (fun f50 e51 => ?_)
        have h := pr_lt_at h e51
        refine pr_iload_n C dX9_readStep_68 rfl 1 rfl ?_
        refine pr_bipush (v := 110) C dX9_readStep_69 (by decide) ?_
        refine pr_icmp_ne (tgt := 92) C dX9_readStep_71 (by decide) (fun _ => ?_) (fun c52 => absurd c52 c3)
        refine pr_iload_n C dX9_readStep_92 rfl 1 rfl ?_
        refine pr_bipush (v := 118) C dX9_readStep_93 (by decide) ?_
        refine pr_icmp_ne (tgt := 117) C dX9_readStep_95 (by decide) (fun _ => ?_) (fun c53 => absurd c53 c22)
        refine pr_iload_n C dX9_readStep_117 rfl 1 rfl ?_
        refine pr_bipush (v := 100) C dX9_readStep_118 (by decide) ?_
        refine pr_icmp_ne (tgt := 141) C dX9_readStep_120 (by decide) (fun c54 => absurd c42 c54) (fun _ => ?_)
        refine pr_aload_n C dX9_readStep_123 rfl 2 rfl ?_
        refine pr_g_9_8 C hk0 pr_w492 dX9_readStep_124 ?_
        refine pr_iload_n C dX9_readStep_127 rfl 0 rfl ?_
        refine pr_iconst (v := 1) C dX9_readStep_128 (by decide) ?_
        refine pr_iadd C dX9_readStep_129 ?_
        refine pr_aload_n C dX9_readStep_130 rfl 2 rfl ?_
        obtain ⟨r56, f57, hc55, h⟩ := pr_bd_some h
        refine k_X9_readUnit C pr_w661 hk0 hc55 (Nat.le_of_ble_eq_true rfl) (Nat.le_of_ble_eq_true rfl) (Nat.le_of_ble_eq_true rfl) dX9_readStep_131 ?_
        refine pr_iastore C hk45 hg49 dX9_readStep_134 (fun f58 e59 => ?_)
        have h := pr_lt_at h e59
        refine pr_aload_n C dX9_readStep_135 rfl 2 rfl ?_
        refine pr_bipush (v := 58) C dX9_readStep_136 (by decide) ?_
        obtain ⟨u61, f62, hc60, h⟩ := pr_bd_some h
        refine k_X9_need C pr_w657 hk0 hc60 (Nat.le_of_ble_eq_true rfl) (Nat.le_of_ble_eq_true rfl) (Nat.le_of_ble_eq_true rfl) dX9_readStep_138 ?_
        refine pr_aload_n C dX9_readStep_141 rfl 2 rfl ?_
        refine pr_iload_n C dX9_readStep_142 rfl 0 rfl ?_
        obtain ⟨u64, f65, hc63, h⟩ := pr_bd_some h
        refine k_X9_readDisturbance C pr_w664 hk0 hc63 (Nat.le_of_ble_eq_true rfl) (Nat.le_of_ble_eq_true rfl) (Nat.le_of_ble_eq_true rfl) dX9_readStep_143 ?_
        refine pr_aload_n C dX9_readStep_146 rfl 2 rfl ?_
        refine pr_dup C dX9_readStep_147 rfl ?_
        refine pr_g_9_9 C hk0 pr_w660 dX9_readStep_148 ?_
        refine pr_iconst (v := 1) C dX9_readStep_151 (by decide) ?_
        refine pr_iadd C dX9_readStep_152 ?_
        refine pr_p_9_9 C hk0 pr_w660 dX9_readStep_153 (fun f66 e67 => ?_)
        have h := pr_lt_at h e67
        obtain ⟨rfl, rfl⟩ := pr_inj h
        exact pr_vret C Z dX9_readStep_156
      · have h := pr_ifF h c42
        refine pr_iload_n C dX9_readStep_30 rfl 1 rfl ?_
        refine pr_bipush (v := 112) C dX9_readStep_31 (by decide) ?_
        refine pr_icmp_eq (tgt := 42) C dX9_readStep_33 (by decide) (fun c68 => ?_) (fun c68 => ?_)
        · have h := pr_ifT h c68
          refine pr_aload_n C dX9_readStep_42 rfl 2 rfl ?_
          refine pr_dup C dX9_readStep_43 rfl ?_
          refine pr_g_9_6 C hk0 pr_w645 dX9_readStep_44 ?_
          refine pr_iconst (v := 1) C dX9_readStep_47 (by decide) ?_
          refine pr_iadd C dX9_readStep_48 ?_
          refine pr_p_9_6 C hk0 pr_w645 dX9_readStep_49 (fun f69 e70 => ?_)
          have h := pr_lt_at h e70
          refine pr_aload_n C dX9_readStep_52 rfl 2 rfl ?_
          refine pr_g_9_8 C hk0 pr_w492 dX9_readStep_53 ?_
          have hk71 := pr_kM_9_8 hk0
          refine pr_iload_n C dX9_readStep_56 rfl 0 rfl ?_
          refine pr_iload_n C dX9_readStep_57 rfl 1 rfl ?_
          obtain ⟨hg72, h⟩ := pr_gd_some h
          refine pr_iastore C hk71 hg72 dX9_readStep_58 (fun f73 e74 => ?_)
          have h := pr_lt_at h e74
          refine pr_aload_n C dX9_readStep_59 rfl 2 rfl ?_
          refine pr_g_9_8 C hk0 pr_w492 dX9_readStep_60 ?_
          refine pr_iload_n C dX9_readStep_63 rfl 0 rfl ?_
          refine pr_iconst (v := 1) C dX9_readStep_64 (by decide) ?_
          refine pr_iadd C dX9_readStep_65 ?_
          refine pr_iconst (v := 0) C dX9_readStep_66 (by decide) ?_
          obtain ⟨hg75, h⟩ := pr_gd_some h
          refine pr_iastore C hk71 hg75 dX9_readStep_67 (fun f76 e77 => ?_)
          have h := pr_lt_at h e77
          refine pr_iload_n C dX9_readStep_68 rfl 1 rfl ?_
          refine pr_bipush (v := 110) C dX9_readStep_69 (by decide) ?_
          refine pr_icmp_ne (tgt := 92) C dX9_readStep_71 (by decide) (fun _ => ?_) (fun c78 => absurd c78 c3)
          refine pr_iload_n C dX9_readStep_92 rfl 1 rfl ?_
          refine pr_bipush (v := 118) C dX9_readStep_93 (by decide) ?_
          refine pr_icmp_ne (tgt := 117) C dX9_readStep_95 (by decide) (fun _ => ?_) (fun c79 => absurd c79 c22)
          refine pr_iload_n C dX9_readStep_117 rfl 1 rfl ?_
          refine pr_bipush (v := 100) C dX9_readStep_118 (by decide) ?_
          refine pr_icmp_ne (tgt := 141) C dX9_readStep_120 (by decide) (fun _ => ?_) (fun c80 => absurd c80 c42)
          refine pr_aload_n C dX9_readStep_141 rfl 2 rfl ?_
          refine pr_iload_n C dX9_readStep_142 rfl 0 rfl ?_
          obtain ⟨u82, f83, hc81, h⟩ := pr_bd_some h
          refine k_X9_readDisturbance C pr_w664 hk0 hc81 (Nat.le_of_ble_eq_true rfl) (Nat.le_of_ble_eq_true rfl) (Nat.le_of_ble_eq_true rfl) dX9_readStep_143 ?_
          refine pr_aload_n C dX9_readStep_146 rfl 2 rfl ?_
          refine pr_dup C dX9_readStep_147 rfl ?_
          refine pr_g_9_9 C hk0 pr_w660 dX9_readStep_148 ?_
          refine pr_iconst (v := 1) C dX9_readStep_151 (by decide) ?_
          refine pr_iadd C dX9_readStep_152 ?_
          refine pr_p_9_9 C hk0 pr_w660 dX9_readStep_153 (fun f84 e85 => ?_)
          have h := pr_lt_at h e85
          obtain ⟨rfl, rfl⟩ := pr_inj h
          exact pr_vret C Z dX9_readStep_156
        · have h := pr_ifF h c68
          refine pr_aload_n C dX9_readStep_36 rfl 2 rfl ?_
          refine pr_iconst (v := 1) C dX9_readStep_37 (by decide) ?_
          refine pr_p_9_7 C hk0 pr_w647 (by decide) dX9_readStep_38 (fun f86 e87 => ?_)
          have h := pr_lt_at h e87
          obtain ⟨rfl, rfl⟩ := pr_inj h
          exact pr_vret C Z dX9_readStep_41
theorem k_X9_readStep {l : Launch} {e : pr_E0} {Y : pr_Y} {Rm : Room} {cc : ByteArray} {own : String} {nL : Nat} {c0 : Cond} {pc idx : Nat} {lv : List (Nat × Value)} {st : List Value} {c : Nat} {f : pr_M} {r : Unit} {g : pr_M} (C : pr_C (pr_EM l e) Y Rm cc own nL c0) (w1 : Cond.methodLink own idx yX9_readStep ∈ pr_AL) (hk0 : pr_LM[c]? = some (9, 0)) (h : F_X9_readStep c f = some (r, g)) (hr1 : 4 ≤ Rm.frames) (hr2 : 90 ≤ Rm.locals) (hcat : (st.map fun v => v.category).sum ≤ 8) (hdg : decode cc pc = .ok (.invokevirtual idx, 3)) (k : pr_W (pr_EM l e) Y Rm nL g (pc + 3) lv (st)) : pr_W (pr_EM l e) Y Rm nL f pc lv (.ref (pr_ad (pr_EM l e) c) :: st) :=
  pr_callV (As := []) (n := 0) C (m_X9_readStep hk0 h) hk0 (by decide) rfl w1 pr_w669 pr_w670 pr_w479 pr_w667 rfl rfl ⟨rfl, by decide +kernel, by decide +kernel, by decide +kernel⟩ rfl ⟨hr1, hr2⟩ rfl hcat hdg k

def L_X9_fault_19 (q0 : Nat) : Nat → pr_M → Option ((Unit) × pr_M)
  | 0, _ => none
  | n + 1, f =>
    if (f q0 7) = 0 then (
      pr_b1 (F_X9_next q0 f) fun r20003 =>
      if r20003 = 44 then (
        pr_lt (pr_up f q0 6 ((f q0 6) + 1)) fun f20005 =>
        pr_bd (F_X9_readStep q0 f20005) fun u20008 f20009 =>
        L_X9_fault_19 q0 n  f20009
      ) else (
        some ((), f)
      )
    ) else (
      some ((), f)
    )
set_option maxHeartbeats 4000000 in
set_option maxRecDepth 100000 in
theorem l_X9_fault_19 {l : Launch} {e : pr_E0} {Y : pr_Y} {c0 : Cond} {q0 : Nat} {z : Unit} {g : pr_M} (C : pr_C (pr_EM l e) Y { frames := 4, cells := 0, slots := 0, locals := 90 } cX9_fault RX9 1 c0) (hq0 : pr_LM[q0]? = some (9, 0)) : ∀ (n : Nat)  (f : pr_M), L_X9_fault_19 q0 n  f = some (z, g) → pr_W (pr_EM l e) Y { frames := 4, cells := 0, slots := 0, locals := 90 } 1 g 52 [(0, .ref (pr_ad (pr_EM l e) q0))] [] → pr_W (pr_EM l e) Y { frames := 4, cells := 0, slots := 0, locals := 90 } 1 f 19 [(0, .ref (pr_ad (pr_EM l e) q0))] [] := by
  intro n
  induction n with
  | zero =>
    intro  f h
    exact absurd h (by simp [L_X9_fault_19])
  | succ n ih =>
    intro  f h K
    rw [L_X9_fault_19] at h
    refine pr_aload_n C dX9_fault_19 rfl 0 rfl ?_
    refine pr_g_9_7 C hq0 pr_w647 dX9_fault_20 ?_
    refine pr_if_ne (tgt := 52) C dX9_fault_23 (by decide) (fun c20001 => ?_) (fun c20001 => ?_)
    · have h := pr_ifF h c20001
      obtain ⟨rfl, rfl⟩ := pr_inj h
      exact pr_pick [0] rfl K
    · have h := pr_ifT h c20001
      refine pr_aload_n C dX9_fault_26 rfl 0 rfl ?_
      obtain ⟨r20003, hc20002, h⟩ := pr_b1_some h
      refine k_X9_next C pr_w648 hq0 hc20002 (Nat.le_of_ble_eq_true rfl) (Nat.le_of_ble_eq_true rfl) (Nat.le_of_ble_eq_true rfl) dX9_fault_27 ?_
      refine pr_bipush (v := 44) C dX9_fault_30 (by decide) ?_
      refine pr_icmp_ne (tgt := 52) C dX9_fault_32 (by decide) (fun c20004 => ?_) (fun c20004 => ?_)
      · have h := pr_ifF h c20004
        obtain ⟨rfl, rfl⟩ := pr_inj h
        exact pr_pick [0] rfl K
      · have h := pr_ifT h c20004
        refine pr_aload_n C dX9_fault_35 rfl 0 rfl ?_
        refine pr_dup C dX9_fault_36 rfl ?_
        refine pr_g_9_6 C hq0 pr_w645 dX9_fault_37 ?_
        refine pr_iconst (v := 1) C dX9_fault_40 (by decide) ?_
        refine pr_iadd C dX9_fault_41 ?_
        refine pr_p_9_6 C hq0 pr_w645 dX9_fault_42 (fun f20005 e20006 => ?_)
        have h := pr_lt_at h e20006
        refine pr_aload_n C dX9_fault_45 rfl 0 rfl ?_
        obtain ⟨u20008, f20009, hc20007, h⟩ := pr_bd_some h
        refine k_X9_readStep C pr_w668 hq0 hc20007 (Nat.le_of_ble_eq_true rfl) (Nat.le_of_ble_eq_true rfl) (Nat.le_of_ble_eq_true rfl) dX9_fault_46 ?_
        refine pr_goto (tgt := 19) C dX9_fault_49 (by decide) ?_
        exact pr_pick [0] rfl (ih  _ h K)
def F_X9_fault (c : Nat) (f : pr_M) : Option (Int32 × pr_M) :=
  pr_lt (pr_up f c 6 0) fun f1 =>
  pr_lt (pr_up f1 c 7 0) fun f3 =>
  pr_lt (pr_up f3 c 9 0) fun f5 =>
  pr_bd (F_X9_readStep c f5) fun u8 f9 =>
  pr_bd (L_X9_fault_19 c pr_fuel  f9) fun v10 f11 =>
  if (f11 c 7) = 0 then (
    if (f11 c 5) ≤ (f11 c 6) then (
      some ((-1000000006), f11)
    ) else (
      some ((f11 c 6), f11)
    )
  ) else (
    some ((f11 c 6), f11)
  )
set_option maxHeartbeats 4000000 in
set_option maxRecDepth 100000 in
theorem m_X9_fault {l : Launch} {e : pr_E0} {c : Nat} {f : pr_M} {r : Int32} {g : pr_M} (hk0 : pr_LM[c]? = some (9, 0)) (h : F_X9_fault c f = some (r, g)) : pr_Met (pr_EM l e) yX9_fault cX9_fault 1 (some .int) { frames := 4, cells := 0, slots := 0, locals := 90 } [.ref (pr_ad (pr_EM l e) c)] f (some (.int r)) g := by
  rw [F_X9_fault] at h
  refine pr_enter (by decide +kernel) (Nat.le_of_ble_eq_true rfl) (fun Y C Z => ?_)
  replace C : pr_C (pr_EM l e) Y { frames := 4, cells := 0, slots := 0, locals := 90 } cX9_fault RX9 1 _ := C
  show pr_W (pr_EM l e) Y _ 1 f 0 [(0, .ref (pr_ad (pr_EM l e) c))] []
  refine pr_aload_n C dX9_fault_0 rfl 0 rfl ?_
  refine pr_iconst (v := 0) C dX9_fault_1 (by decide) ?_
  refine pr_p_9_6 C hk0 pr_w645 dX9_fault_2 (fun f1 e2 => ?_)
  have h := pr_lt_at h e2
  refine pr_aload_n C dX9_fault_5 rfl 0 rfl ?_
  refine pr_iconst (v := 0) C dX9_fault_6 (by decide) ?_
  refine pr_p_9_7 C hk0 pr_w647 (by decide) dX9_fault_7 (fun f3 e4 => ?_)
  have h := pr_lt_at h e4
  refine pr_aload_n C dX9_fault_10 rfl 0 rfl ?_
  refine pr_iconst (v := 0) C dX9_fault_11 (by decide) ?_
  refine pr_p_9_9 C hk0 pr_w660 dX9_fault_12 (fun f5 e6 => ?_)
  have h := pr_lt_at h e6
  refine pr_aload_n C dX9_fault_15 rfl 0 rfl ?_
  obtain ⟨u8, f9, hc7, h⟩ := pr_bd_some h
  refine k_X9_readStep C pr_w668 hk0 hc7 (Nat.le_of_ble_eq_true rfl) (Nat.le_of_ble_eq_true rfl) (Nat.le_of_ble_eq_true rfl) dX9_fault_16 ?_
  obtain ⟨v10, f11, hv, h⟩ := pr_bd_some h
  refine pr_pick [0] rfl (l_X9_fault_19 C hk0 pr_fuel  _ hv ?_)
  clear hv
  refine pr_aload_n C dX9_fault_52 rfl 0 rfl ?_
  refine pr_g_9_7 C hk0 pr_w647 dX9_fault_53 ?_
  refine pr_if_ne (tgt := 70) C dX9_fault_56 (by decide) (fun c12 => ?_) (fun c12 => ?_)
  · have h := pr_ifF h c12
    refine pr_aload_n C dX9_fault_70 rfl 0 rfl ?_
    refine pr_g_9_6 C hk0 pr_w645 dX9_fault_71 ?_
    refine pr_goto (tgt := 79) C dX9_fault_74 (by decide) ?_
    obtain ⟨rfl, rfl⟩ := pr_inj h
    exact pr_iret C Z dX9_fault_79
  · have h := pr_ifT h c12
    refine pr_aload_n C dX9_fault_59 rfl 0 rfl ?_
    refine pr_g_9_6 C hk0 pr_w645 dX9_fault_60 ?_
    refine pr_aload_n C dX9_fault_63 rfl 0 rfl ?_
    refine pr_g_9_5 C hk0 pr_w641 dX9_fault_64 ?_
    refine pr_icmp_ge (tgt := 77) C dX9_fault_67 (by decide) (fun c13 => ?_) (fun c13 => ?_)
    · have h := pr_ifT h c13
      refine pr_ldc (v := (-1000000006)) C dX9_fault_77 pr_w546 ?_
      obtain ⟨rfl, rfl⟩ := pr_inj h
      exact pr_iret C Z dX9_fault_79
    · have h := pr_ifF h c13
      refine pr_aload_n C dX9_fault_70 rfl 0 rfl ?_
      refine pr_g_9_6 C hk0 pr_w645 dX9_fault_71 ?_
      refine pr_goto (tgt := 79) C dX9_fault_74 (by decide) ?_
      obtain ⟨rfl, rfl⟩ := pr_inj h
      exact pr_iret C Z dX9_fault_79
theorem k_X9_fault {l : Launch} {e : pr_E0} {Y : pr_Y} {Rm : Room} {cc : ByteArray} {own : String} {nL : Nat} {c0 : Cond} {pc idx : Nat} {lv : List (Nat × Value)} {st : List Value} {c : Nat} {f : pr_M} {r : Int32} {g : pr_M} (C : pr_C (pr_EM l e) Y Rm cc own nL c0) (w1 : Cond.methodLink own idx yX9_fault ∈ pr_AL) (hk0 : pr_LM[c]? = some (9, 0)) (h : F_X9_fault c f = some (r, g)) (hr1 : 5 ≤ Rm.frames) (hr2 : 110 ≤ Rm.locals) (hcat : (st.map fun v => v.category).sum ≤ 8) (hdg : decode cc pc = .ok (.invokevirtual idx, 3)) (k : pr_W (pr_EM l e) Y Rm nL g (pc + 3) lv (.int r :: st)) : pr_W (pr_EM l e) Y Rm nL f pc lv (.ref (pr_ad (pr_EM l e) c) :: st) :=
  pr_callV (As := []) (n := 0) C (m_X9_fault hk0 h) hk0 (by decide) rfl w1 pr_w675 pr_w676 pr_w479 pr_w671 rfl rfl ⟨rfl, by decide +kernel, by decide +kernel, by decide +kernel⟩ rfl ⟨hr1, hr2⟩ rfl hcat hdg k

def F_X9_carryOutStep (c : Nat) (p1 : Int32) (f : pr_M) : Option (Unit × pr_M) :=
  pr_gd (¬ (p1 < 0 ∨ 164 ≤ Int32.toNatClampNeg p1)) <|
  if (f (c + 6) (Int32.toNatClampNeg p1)) = 100 then (
    pr_gd (¬ ((p1 + 1) < 0 ∨ 164 ≤ Int32.toNatClampNeg (p1 + 1))) <|
    pr_gd (¬ ((p1 + 2) < 0 ∨ 164 ≤ Int32.toNatClampNeg (p1 + 2))) <|
    pr_gd (¬ ((p1 + 3) < 0 ∨ 164 ≤ Int32.toNatClampNeg (p1 + 3))) <|
    pr_bd (F_X9_giveDisturbance c (f (c + 6) (Int32.toNatClampNeg (p1 + 1))) (f (c + 6) (Int32.toNatClampNeg (p1 + 2))) (f (c + 6) (Int32.toNatClampNeg (p1 + 3))) f) fun u8 f9 =>
    some ((), f9)
  ) else (
    if (f (c + 6) (Int32.toNatClampNeg p1)) = 110 then (
      pr_gd (¬ ((p1 + 2) < 0 ∨ 164 ≤ Int32.toNatClampNeg (p1 + 2))) <|
      pr_bd (F_X9_makeRepeats c (f (c + 6) (Int32.toNatClampNeg (p1 + 2))) f) fun u13 f14 =>
      some ((), f14)
    ) else (
      if (f (c + 6) (Int32.toNatClampNeg p1)) = 118 then (
        pr_gd (¬ ((p1 + 2) < 0 ∨ 164 ≤ Int32.toNatClampNeg (p1 + 2))) <|
        pr_lt (pr_up f (c + 1) (Int32.toNatClampNeg 1767) (f (c + 6) (Int32.toNatClampNeg (p1 + 2)))) fun f18 =>
        some ((), f18)
      ) else (
        pr_gd (¬ ((p1 + 2) < 0 ∨ 164 ≤ Int32.toNatClampNeg (p1 + 2))) <|
        pr_gd (¬ ((p1 + 3) < 0 ∨ 164 ≤ Int32.toNatClampNeg (p1 + 3))) <|
        pr_bd (F_X9_startSplice c (f (c + 6) (Int32.toNatClampNeg (p1 + 2))) (f (c + 6) (Int32.toNatClampNeg (p1 + 3))) f) fun r23 f24 =>
        some ((), f24)
        )
        )
        )
set_option maxHeartbeats 4000000 in
set_option maxRecDepth 100000 in
theorem m_X9_carryOutStep {l : Launch} {e : pr_E0} {c : Nat} {p1 : Int32} {f : pr_M} {r : Unit} {g : pr_M} (hk0 : pr_LM[c]? = some (9, 0)) (h : F_X9_carryOutStep c p1 f = some (r, g)) : pr_Met (pr_EM l e) yX9_carryOutStep cX9_carryOutStep 2 none { frames := 7, cells := 0, slots := 0, locals := 151 } [.ref (pr_ad (pr_EM l e) c), .int p1] f none g := by
  rw [F_X9_carryOutStep] at h
  refine pr_enter (by decide +kernel) (Nat.le_of_ble_eq_true rfl) (fun Y C Z => ?_)
  replace C : pr_C (pr_EM l e) Y { frames := 7, cells := 0, slots := 0, locals := 151 } cX9_carryOutStep RX9 2 _ := C
  show pr_W (pr_EM l e) Y _ 2 f 0 [(0, .ref (pr_ad (pr_EM l e) c)), (1, .int p1)] []
  refine pr_aload_n C dX9_carryOutStep_0 rfl 0 rfl ?_
  refine pr_g_9_8 C hk0 pr_w492 dX9_carryOutStep_1 ?_
  have hk1 := pr_kM_9_8 hk0
  refine pr_iload_n C dX9_carryOutStep_4 rfl 1 rfl ?_
  obtain ⟨hg2, h⟩ := pr_gd_some h
  refine pr_iaload C hk1 hg2 dX9_carryOutStep_5 ?_
  by_cases c3 : (f (c + 6) (Int32.toNatClampNeg p1)) = 100
  · have h := pr_ifT h c3
    refine pr_lookup (tgt := 74) (off := 68) C dX9_carryOutStep_6 c3 (by decide) (by decide) (by decide) ?_
    refine pr_aload_n C dX9_carryOutStep_74 rfl 0 rfl ?_
    refine pr_aload_n C dX9_carryOutStep_75 rfl 0 rfl ?_
    refine pr_g_9_8 C hk0 pr_w492 dX9_carryOutStep_76 ?_
    refine pr_iload_n C dX9_carryOutStep_79 rfl 1 rfl ?_
    refine pr_iconst (v := 1) C dX9_carryOutStep_80 (by decide) ?_
    refine pr_iadd C dX9_carryOutStep_81 ?_
    obtain ⟨hg4, h⟩ := pr_gd_some h
    refine pr_iaload C hk1 hg4 dX9_carryOutStep_82 ?_
    refine pr_aload_n C dX9_carryOutStep_83 rfl 0 rfl ?_
    refine pr_g_9_8 C hk0 pr_w492 dX9_carryOutStep_84 ?_
    refine pr_iload_n C dX9_carryOutStep_87 rfl 1 rfl ?_
    refine pr_iconst (v := 2) C dX9_carryOutStep_88 (by decide) ?_
    refine pr_iadd C dX9_carryOutStep_89 ?_
    obtain ⟨hg5, h⟩ := pr_gd_some h
    refine pr_iaload C hk1 hg5 dX9_carryOutStep_90 ?_
    refine pr_aload_n C dX9_carryOutStep_91 rfl 0 rfl ?_
    refine pr_g_9_8 C hk0 pr_w492 dX9_carryOutStep_92 ?_
    refine pr_iload_n C dX9_carryOutStep_95 rfl 1 rfl ?_
    refine pr_iconst (v := 3) C dX9_carryOutStep_96 (by decide) ?_
    refine pr_iadd C dX9_carryOutStep_97 ?_
    obtain ⟨hg6, h⟩ := pr_gd_some h
    refine pr_iaload C hk1 hg6 dX9_carryOutStep_98 ?_
    obtain ⟨u8, f9, hc7, h⟩ := pr_bd_some h
    refine k_X9_giveDisturbance C pr_w529 hk0 hc7 (Nat.le_of_ble_eq_true rfl) (Nat.le_of_ble_eq_true rfl) (Nat.le_of_ble_eq_true rfl) dX9_carryOutStep_99 ?_
    refine pr_goto (tgt := 126) C dX9_carryOutStep_102 (by decide) ?_
    obtain ⟨rfl, rfl⟩ := pr_inj h
    exact pr_vret C Z dX9_carryOutStep_126
  · have h := pr_ifF h c3
    by_cases c10 : (f (c + 6) (Int32.toNatClampNeg p1)) = 110
    · have h := pr_ifT h c10
      refine pr_lookup (tgt := 40) (off := 34) C dX9_carryOutStep_6 c10 (by decide) (by decide) (by decide) ?_
      refine pr_aload_n C dX9_carryOutStep_40 rfl 0 rfl ?_
      refine pr_aload_n C dX9_carryOutStep_41 rfl 0 rfl ?_
      refine pr_g_9_8 C hk0 pr_w492 dX9_carryOutStep_42 ?_
      refine pr_iload_n C dX9_carryOutStep_45 rfl 1 rfl ?_
      refine pr_iconst (v := 2) C dX9_carryOutStep_46 (by decide) ?_
      refine pr_iadd C dX9_carryOutStep_47 ?_
      obtain ⟨hg11, h⟩ := pr_gd_some h
      refine pr_iaload C hk1 hg11 dX9_carryOutStep_48 ?_
      obtain ⟨u13, f14, hc12, h⟩ := pr_bd_some h
      refine k_X9_makeRepeats C pr_w610 hk0 hc12 (Nat.le_of_ble_eq_true rfl) (Nat.le_of_ble_eq_true rfl) (Nat.le_of_ble_eq_true rfl) dX9_carryOutStep_49 ?_
      refine pr_goto (tgt := 126) C dX9_carryOutStep_52 (by decide) ?_
      obtain ⟨rfl, rfl⟩ := pr_inj h
      exact pr_vret C Z dX9_carryOutStep_126
    · have h := pr_ifF h c10
      by_cases c15 : (f (c + 6) (Int32.toNatClampNeg p1)) = 118
      · have h := pr_ifT h c15
        refine pr_lookup (tgt := 55) (off := 49) C dX9_carryOutStep_6 c15 (by decide) (by decide) (by decide) ?_
        refine pr_aload_n C dX9_carryOutStep_55 rfl 0 rfl ?_
        refine pr_g_9_0 C hk0 pr_w476 dX9_carryOutStep_56 ?_
        have hk16 := pr_kM_9_0 hk0
        refine pr_sipush (v := 1767) C dX9_carryOutStep_59 (by decide) ?_
        refine pr_aload_n C dX9_carryOutStep_62 rfl 0 rfl ?_
        refine pr_g_9_8 C hk0 pr_w492 dX9_carryOutStep_63 ?_
        refine pr_iload_n C dX9_carryOutStep_66 rfl 1 rfl ?_
        refine pr_iconst (v := 2) C dX9_carryOutStep_67 (by decide) ?_
        refine pr_iadd C dX9_carryOutStep_68 ?_
        obtain ⟨hg17, h⟩ := pr_gd_some h
        refine pr_iaload C hk1 hg17 dX9_carryOutStep_69 ?_
        refine pr_iastore C hk16 (pr_inlit (by decide +kernel)) dX9_carryOutStep_70 (fun f18 e19 => ?_)
        have h := pr_lt_at h e19
        refine pr_goto (tgt := 126) C dX9_carryOutStep_71 (by decide) ?_
        obtain ⟨rfl, rfl⟩ := pr_inj h
        exact pr_vret C Z dX9_carryOutStep_126
      · have h := pr_ifF h c15
        refine pr_lookup (tgt := 105) (off := 99) (v := (f (c + 6) (Int32.toNatClampNeg p1))) C dX9_carryOutStep_6 rfl (by decide) (by rw [lv_osw c3 (by decide), lv_osw c10 (by decide), lv_osw c15 (by decide)] <;> rfl) (by decide) ?_
        refine pr_aload_n C dX9_carryOutStep_105 rfl 0 rfl ?_
        refine pr_aload_n C dX9_carryOutStep_106 rfl 0 rfl ?_
        refine pr_g_9_8 C hk0 pr_w492 dX9_carryOutStep_107 ?_
        refine pr_iload_n C dX9_carryOutStep_110 rfl 1 rfl ?_
        refine pr_iconst (v := 2) C dX9_carryOutStep_111 (by decide) ?_
        refine pr_iadd C dX9_carryOutStep_112 ?_
        obtain ⟨hg20, h⟩ := pr_gd_some h
        refine pr_iaload C hk1 hg20 dX9_carryOutStep_113 ?_
        refine pr_aload_n C dX9_carryOutStep_114 rfl 0 rfl ?_
        refine pr_g_9_8 C hk0 pr_w492 dX9_carryOutStep_115 ?_
        refine pr_iload_n C dX9_carryOutStep_118 rfl 1 rfl ?_
        refine pr_iconst (v := 3) C dX9_carryOutStep_119 (by decide) ?_
        refine pr_iadd C dX9_carryOutStep_120 ?_
        obtain ⟨hg21, h⟩ := pr_gd_some h
        refine pr_iaload C hk1 hg21 dX9_carryOutStep_121 ?_
        obtain ⟨r23, f24, hc22, h⟩ := pr_bd_some h
        refine k_X9_startSplice C pr_w540 hk0 hc22 (Nat.le_of_ble_eq_true rfl) (Nat.le_of_ble_eq_true rfl) (Nat.le_of_ble_eq_true rfl) dX9_carryOutStep_122 ?_
        refine pr_pop C dX9_carryOutStep_125 rfl ?_
        obtain ⟨rfl, rfl⟩ := pr_inj h
        exact pr_vret C Z dX9_carryOutStep_126
theorem k_X9_carryOutStep {l : Launch} {e : pr_E0} {Y : pr_Y} {Rm : Room} {cc : ByteArray} {own : String} {nL : Nat} {c0 : Cond} {pc idx : Nat} {lv : List (Nat × Value)} {st : List Value} {c : Nat} {p1 : Int32} {f : pr_M} {r : Unit} {g : pr_M} (C : pr_C (pr_EM l e) Y Rm cc own nL c0) (w1 : Cond.methodLink own idx yX9_carryOutStep ∈ pr_AL) (hk0 : pr_LM[c]? = some (9, 0)) (h : F_X9_carryOutStep c p1 f = some (r, g)) (hr1 : 8 ≤ Rm.frames) (hr2 : 172 ≤ Rm.locals) (hcat : (st.map fun v => v.category).sum ≤ 8) (hdg : decode cc pc = .ok (.invokevirtual idx, 3)) (k : pr_W (pr_EM l e) Y Rm nL g (pc + 3) lv (st)) : pr_W (pr_EM l e) Y Rm nL f pc lv (.int p1 :: .ref (pr_ad (pr_EM l e) c) :: st) :=
  pr_callV (As := [.int p1]) (n := 1) C (m_X9_carryOutStep hk0 h) hk0 (by decide) rfl w1 pr_w678 pr_w679 pr_w479 pr_w672 rfl rfl ⟨rfl, by decide +kernel, by decide +kernel, by decide +kernel⟩ rfl ⟨hr1, hr2⟩ rfl hcat hdg k

def L_X9_carryOut_18 (q0 : Nat) : Nat → Int32 → Int32 → Int32 → pr_M → Option (Int32 × Int32)
  | 0, _, _, _, _ => none
  | n + 1, x1, x2, x3, f =>
    if (f q0 9) ≤ x3 then (
      some (x1, x2)
    ) else (
      pr_b1 (α := Int32) (
        if x2 = 0 then (
          some 0
        ) else (
          pr_gd (¬ (((4 * x3) + 1) < 0 ∨ 164 ≤ Int32.toNatClampNeg ((4 * x3) + 1))) <|
          pr_b1 (F_X9_isUnit q0 (f (q0 + 6) (Int32.toNatClampNeg ((4 * x3) + 1))) f) fun r19007 =>
          if r19007 = 0 then (
            some 0
          ) else (
            some 1
          )
        )
      ) fun v19002 =>
      pr_gd (¬ ((4 * x3) < 0 ∨ 164 ≤ Int32.toNatClampNeg (4 * x3))) <|
      pr_b1 (α := Int32) (
        if (f (q0 + 6) (Int32.toNatClampNeg (4 * x3))) = 110 then (
          pr_gd (¬ (((4 * x3) + 2) < 0 ∨ 164 ≤ Int32.toNatClampNeg ((4 * x3) + 2))) <|
          some (f (q0 + 6) (Int32.toNatClampNeg ((4 * x3) + 2)))
        ) else (
          some 0
        )
      ) fun v19011 =>
      L_X9_carryOut_18 q0 n (x1 + v19011) v19002 (x3 + 1) f
    )
set_option maxHeartbeats 4000000 in
set_option maxRecDepth 100000 in
theorem l_X9_carryOut_18 {l : Launch} {e : pr_E0} {Y : pr_Y} {c0 : Cond} {q0 : Nat} {z : Int32 × Int32} (C : pr_C (pr_EM l e) Y { frames := 8, cells := 0, slots := 0, locals := 172 } cX9_carryOut RX9 4 c0) (hq0 : pr_LM[q0]? = some (9, 0)) : ∀ (n : Nat) (x1 : Int32) (x2 : Int32) (x3 : Int32) (f : pr_M), L_X9_carryOut_18 q0 n x1 x2 x3 f = some z → pr_W (pr_EM l e) Y { frames := 8, cells := 0, slots := 0, locals := 172 } 4 f 89 [(0, .ref (pr_ad (pr_EM l e) q0)), (1, .int z.1), (2, .int z.2)] [] → pr_W (pr_EM l e) Y { frames := 8, cells := 0, slots := 0, locals := 172 } 4 f 18 [(0, .ref (pr_ad (pr_EM l e) q0)), (1, .int x1), (2, .int x2), (3, .int x3)] [] := by
  intro n
  induction n with
  | zero =>
    intro x1 x2 x3 f h
    exact absurd h (by simp [L_X9_carryOut_18])
  | succ n ih =>
    intro x1 x2 x3 f h K
    rw [L_X9_carryOut_18] at h
    refine pr_iload_n C dX9_carryOut_18 rfl 3 rfl ?_
    refine pr_aload_n C dX9_carryOut_19 rfl 0 rfl ?_
    refine pr_g_9_9 C hq0 pr_w660 dX9_carryOut_20 ?_
    refine pr_icmp_ge (tgt := 89) C dX9_carryOut_23 (by decide) (fun c19001 => ?_) (fun c19001 => ?_)
    · have h := pr_ifT h c19001
      obtain rfl := pr_in1 h
      exact pr_pick [0, 1, 2] rfl K
    · have h := pr_ifF h c19001
      refine pr_iload_n C dX9_carryOut_26 rfl 2 rfl ?_
      obtain ⟨v19002, hv, h⟩ := pr_b1_some h
      have K : pr_W (pr_EM l e) Y { frames := 8, cells := 0, slots := 0, locals := 172 } 4 f 52 [(0, .ref (pr_ad (pr_EM l e) q0)), (1, .int x1), (3, .int x3)] [.int v19002] := by
        refine pr_istore_n (lv' := [(2, .int v19002), (0, .ref (pr_ad (pr_EM l e) q0)), (1, .int x1), (3, .int x3)]) C dX9_carryOut_52 rfl (by decide) rfl ?_
        refine pr_iload_n C dX9_carryOut_53 rfl 2 rfl ?_
        refine pr_aload_n C dX9_carryOut_54 rfl 1 rfl ?_
        refine pr_g_9_8 C hq0 pr_w492 dX9_carryOut_55 ?_
        have hk19009 := pr_kM_9_8 hq0
        refine pr_iconst (v := 4) C dX9_carryOut_58 (by decide) ?_
        refine pr_iload_n C dX9_carryOut_59 rfl 3 rfl ?_
        refine pr_imul C dX9_carryOut_60 ?_
        obtain ⟨hg19010, h⟩ := pr_gd_some h
        refine pr_iaload C hk19009 hg19010 dX9_carryOut_61 ?_
        refine pr_bipush (v := 110) C dX9_carryOut_62 (by decide) ?_
        obtain ⟨v19011, hv, h⟩ := pr_b1_some h
        have K : pr_W (pr_EM l e) Y { frames := 8, cells := 0, slots := 0, locals := 172 } 4 f 81 [(0, .ref (pr_ad (pr_EM l e) q0)), (2, .int v19002), (3, .int x3)] [.int v19011, .int x1] := by
          refine pr_iadd C dX9_carryOut_81 ?_
          refine pr_istore_n (lv' := [(1, .int (x1 + v19011)), (0, .ref (pr_ad (pr_EM l e) q0)), (2, .int v19002), (3, .int x3)]) C dX9_carryOut_82 rfl (by decide) rfl ?_
          refine pr_iinc (v := (x3 + 1)) (lv' := [(3, .int (x3 + 1)), (1, .int (x1 + v19011)), (0, .ref (pr_ad (pr_EM l e) q0)), (2, .int v19002)]) C dX9_carryOut_83 3 rfl rfl (by decide) rfl ?_
          refine pr_goto (tgt := 18) C dX9_carryOut_86 (by decide) ?_
          exact pr_pick [2, 1, 3, 0] rfl (ih _ _ _ _ h K)
        clear h
        have h := hv
        clear hv
        refine pr_icmp_ne (tgt := 80) C dX9_carryOut_64 (by decide) (fun c19012 => ?_) (fun c19012 => ?_)
        · have h := pr_ifF h c19012
          refine pr_iconst (v := 0) C dX9_carryOut_80 (by decide) ?_
          obtain rfl := pr_in1 h
          exact pr_pick [1, 0, 3] rfl K
        · have h := pr_ifT h c19012
          refine pr_aload_n C dX9_carryOut_67 rfl 1 rfl ?_
          refine pr_g_9_8 C hq0 pr_w492 dX9_carryOut_68 ?_
          refine pr_iconst (v := 4) C dX9_carryOut_71 (by decide) ?_
          refine pr_iload_n C dX9_carryOut_72 rfl 3 rfl ?_
          refine pr_imul C dX9_carryOut_73 ?_
          refine pr_iconst (v := 2) C dX9_carryOut_74 (by decide) ?_
          refine pr_iadd C dX9_carryOut_75 ?_
          obtain ⟨hg19013, h⟩ := pr_gd_some h
          refine pr_iaload C hk19009 hg19013 dX9_carryOut_76 ?_
          refine pr_goto (tgt := 81) C dX9_carryOut_77 (by decide) ?_
          obtain rfl := pr_in1 h
          exact pr_pick [1, 0, 3] rfl K
      clear h
      have h := hv
      clear hv
      refine pr_if_eq (tgt := 51) C dX9_carryOut_27 (by decide) (fun c19003 => ?_) (fun c19003 => ?_)
      · have h := pr_ifT h c19003
        refine pr_iconst (v := 0) C dX9_carryOut_51 (by decide) ?_
        obtain rfl := pr_in1 h
        exact pr_pick [0, 1, 3] rfl K
      · have h := pr_ifF h c19003
        refine pr_aload_n C dX9_carryOut_30 rfl 0 rfl ?_
        refine pr_aload_n C dX9_carryOut_31 rfl 0 rfl ?_
        refine pr_g_9_8 C hq0 pr_w492 dX9_carryOut_32 ?_
        have hk19004 := pr_kM_9_8 hq0
        refine pr_iconst (v := 4) C dX9_carryOut_35 (by decide) ?_
        refine pr_iload_n C dX9_carryOut_36 rfl 3 rfl ?_
        refine pr_imul C dX9_carryOut_37 ?_
        refine pr_iconst (v := 1) C dX9_carryOut_38 (by decide) ?_
        refine pr_iadd C dX9_carryOut_39 ?_
        obtain ⟨hg19005, h⟩ := pr_gd_some h
        refine pr_iaload C hk19004 hg19005 dX9_carryOut_40 ?_
        obtain ⟨r19007, hc19006, h⟩ := pr_b1_some h
        refine k_X9_isUnit C pr_w515 hq0 hc19006 (Nat.le_of_ble_eq_true rfl) (Nat.le_of_ble_eq_true rfl) (Nat.le_of_ble_eq_true rfl) dX9_carryOut_41 ?_
        refine pr_if_eq (tgt := 51) C dX9_carryOut_44 (by decide) (fun c19008 => ?_) (fun c19008 => ?_)
        · have h := pr_ifT h c19008
          refine pr_iconst (v := 0) C dX9_carryOut_51 (by decide) ?_
          obtain rfl := pr_in1 h
          exact pr_pick [0, 1, 3] rfl K
        · have h := pr_ifF h c19008
          refine pr_iconst (v := 1) C dX9_carryOut_47 (by decide) ?_
          refine pr_goto (tgt := 52) C dX9_carryOut_48 (by decide) ?_
          obtain rfl := pr_in1 h
          exact pr_pick [0, 1, 3] rfl K
def L_X9_carryOut_116 (q0 : Nat) (x1 : Int32) : Nat → Int32 → pr_M → Option ((Unit) × pr_M)
  | 0, _, _ => none
  | n + 1, x3, f =>
    if (f q0 9) ≤ x3 then (
      some ((), f)
    ) else (
      pr_bd (F_X9_carryOutStep q0 (4 * x3) f) fun u117003 f117004 =>
      L_X9_carryOut_116 q0 x1 n (x3 + 1) f117004
    )
set_option maxHeartbeats 4000000 in
set_option maxRecDepth 100000 in
theorem l_X9_carryOut_116 {l : Launch} {e : pr_E0} {Y : pr_Y} {c0 : Cond} {q0 : Nat} {x1 : Int32} {z : Unit} {g : pr_M} (C : pr_C (pr_EM l e) Y { frames := 8, cells := 0, slots := 0, locals := 172 } cX9_carryOut RX9 4 c0) (hq0 : pr_LM[q0]? = some (9, 0)) : ∀ (n : Nat) (x3 : Int32) (f : pr_M), L_X9_carryOut_116 q0 x1 n x3 f = some (z, g) → pr_W (pr_EM l e) Y { frames := 8, cells := 0, slots := 0, locals := 172 } 4 g 137 [(0, .ref (pr_ad (pr_EM l e) q0)), (1, .int x1)] [] → pr_W (pr_EM l e) Y { frames := 8, cells := 0, slots := 0, locals := 172 } 4 f 116 [(0, .ref (pr_ad (pr_EM l e) q0)), (1, .int x1), (3, .int x3)] [] := by
  intro n
  induction n with
  | zero =>
    intro x3 f h
    exact absurd h (by simp [L_X9_carryOut_116])
  | succ n ih =>
    intro x3 f h K
    rw [L_X9_carryOut_116] at h
    refine pr_iload_n C dX9_carryOut_116 rfl 2 rfl ?_
    refine pr_aload_n C dX9_carryOut_117 rfl 0 rfl ?_
    refine pr_g_9_9 C hq0 pr_w660 dX9_carryOut_118 ?_
    refine pr_icmp_ge (tgt := 137) C dX9_carryOut_121 (by decide) (fun c117001 => ?_) (fun c117001 => ?_)
    · have h := pr_ifT h c117001
      obtain ⟨rfl, rfl⟩ := pr_inj h
      exact pr_pick [0, 1] rfl K
    · have h := pr_ifF h c117001
      refine pr_aload_n C dX9_carryOut_124 rfl 0 rfl ?_
      refine pr_iconst (v := 4) C dX9_carryOut_125 (by decide) ?_
      refine pr_iload_n C dX9_carryOut_126 rfl 2 rfl ?_
      refine pr_imul C dX9_carryOut_127 ?_
      obtain ⟨u117003, f117004, hc117002, h⟩ := pr_bd_some h
      refine k_X9_carryOutStep C pr_w677 hq0 hc117002 (Nat.le_of_ble_eq_true rfl) (Nat.le_of_ble_eq_true rfl) (Nat.le_of_ble_eq_true rfl) dX9_carryOut_128 ?_
      refine pr_iinc (v := (x3 + 1)) (lv' := [(3, .int (x3 + 1)), (0, .ref (pr_ad (pr_EM l e) q0)), (1, .int x1)]) C dX9_carryOut_131 2 rfl rfl (by decide) rfl ?_
      refine pr_goto (tgt := 116) C dX9_carryOut_134 (by decide) ?_
      exact pr_pick [1, 2, 0] rfl (ih _ _ h K)
def F_X9_carryOut (c : Nat) (f : pr_M) : Option (Int32 × pr_M) :=
  pr_bd (F_X9_fault c f) fun r2 f3 =>
  if r2 = (-1000000006) then (
    pr_b1 (L_X9_carryOut_18 c pr_fuel 0 1 0 f3) fun v5 =>
    if v5.2 = 0 then (
      some ((-1000000001), f3)
    ) else (
      if ((f3 (c + 1) (Int32.toNatClampNeg 1765)) + v5.1) ≤ 100000 then (
        pr_bd (L_X9_carryOut_116 c v5.1 pr_fuel 0 f3) fun v9 f10 =>
        pr_lt (pr_up f10 c 5 0) fun f11 =>
        some (v5.1, f11)
      ) else (
        some ((-1000000005), f3)
      )
    )
  ) else (
    some ((-1000000003), f3)
  )
set_option maxHeartbeats 4000000 in
set_option maxRecDepth 100000 in
theorem m_X9_carryOut {l : Launch} {e : pr_E0} {c : Nat} {f : pr_M} {r : Int32} {g : pr_M} (hk0 : pr_LM[c]? = some (9, 0)) (h : F_X9_carryOut c f = some (r, g)) : pr_Met (pr_EM l e) yX9_carryOut cX9_carryOut 4 (some .int) { frames := 8, cells := 0, slots := 0, locals := 172 } [.ref (pr_ad (pr_EM l e) c)] f (some (.int r)) g := by
  rw [F_X9_carryOut] at h
  refine pr_enter (by decide +kernel) (Nat.le_of_ble_eq_true rfl) (fun Y C Z => ?_)
  replace C : pr_C (pr_EM l e) Y { frames := 8, cells := 0, slots := 0, locals := 172 } cX9_carryOut RX9 4 _ := C
  show pr_W (pr_EM l e) Y _ 4 f 0 [(0, .ref (pr_ad (pr_EM l e) c))] []
  refine pr_aload_n C dX9_carryOut_0 rfl 0 rfl ?_
  obtain ⟨r2, f3, hc1, h⟩ := pr_bd_some h
  refine k_X9_fault C pr_w674 hk0 hc1 (Nat.le_of_ble_eq_true rfl) (Nat.le_of_ble_eq_true rfl) (Nat.le_of_ble_eq_true rfl) dX9_carryOut_1 ?_
  refine pr_ldc (v := (-1000000006)) C dX9_carryOut_4 pr_w546 ?_
  refine pr_icmp_eq (tgt := 12) C dX9_carryOut_6 (by decide) (fun c4 => ?_) (fun c4 => ?_)
  · have h := pr_ifT h c4
    refine pr_iconst (v := 0) C dX9_carryOut_12 (by decide) ?_
    refine pr_istore_n (lv' := [(1, .int 0), (0, .ref (pr_ad (pr_EM l e) c))]) C dX9_carryOut_13 rfl (by decide) rfl ?_
    refine pr_iconst (v := 1) C dX9_carryOut_14 (by decide) ?_
    refine pr_istore_n (lv' := [(2, .int 1), (1, .int 0), (0, .ref (pr_ad (pr_EM l e) c))]) C dX9_carryOut_15 rfl (by decide) rfl ?_
    refine pr_iconst (v := 0) C dX9_carryOut_16 (by decide) ?_
    refine pr_istore_n (lv' := [(3, .int 0), (2, .int 1), (1, .int 0), (0, .ref (pr_ad (pr_EM l e) c))]) C dX9_carryOut_17 rfl (by decide) rfl ?_
    obtain ⟨v5, hv, h⟩ := pr_b1_some h
    refine pr_pick [3, 2, 1, 0] rfl (l_X9_carryOut_18 C hk0 pr_fuel _ _ _ _ hv ?_)
    clear hv
    refine pr_iload_n C dX9_carryOut_89 rfl 2 rfl ?_
    refine pr_if_ne (tgt := 96) C dX9_carryOut_90 (by decide) (fun c6 => ?_) (fun c6 => ?_)
    · have h := pr_ifF h c6
      refine pr_aload_n C dX9_carryOut_96 rfl 0 rfl ?_
      refine pr_g_9_0 C hk0 pr_w476 dX9_carryOut_97 ?_
      have hk7 := pr_kM_9_0 hk0
      refine pr_sipush (v := 1765) C dX9_carryOut_100 (by decide) ?_
      refine pr_iaload C hk7 (pr_inlit (by decide +kernel)) dX9_carryOut_103 ?_
      refine pr_iload_n C dX9_carryOut_104 rfl 1 rfl ?_
      refine pr_iadd C dX9_carryOut_105 ?_
      refine pr_ldc (v := 100000) C dX9_carryOut_106 pr_w609 ?_
      refine pr_icmp_le (tgt := 114) C dX9_carryOut_108 (by decide) (fun c8 => ?_) (fun c8 => ?_)
      · have h := pr_ifT h c8
        refine pr_iconst (v := 0) C dX9_carryOut_114 (by decide) ?_
        refine pr_istore_n (lv' := [(3, .int 0), (0, .ref (pr_ad (pr_EM l e) c)), (1, .int v5.1), (2, .int v5.2)]) C dX9_carryOut_115 rfl (by decide) rfl ?_
        obtain ⟨v9, f10, hv, h⟩ := pr_bd_some h
        refine pr_pick [1, 2, 0] rfl (l_X9_carryOut_116 C hk0 pr_fuel _ _ hv ?_)
        clear hv
        refine pr_aload_n C dX9_carryOut_137 rfl 0 rfl ?_
        refine pr_iconst (v := 0) C dX9_carryOut_138 (by decide) ?_
        refine pr_p_9_5 C hk0 pr_w641 dX9_carryOut_139 (fun f11 e12 => ?_)
        have h := pr_lt_at h e12
        refine pr_iload_n C dX9_carryOut_142 rfl 1 rfl ?_
        obtain ⟨rfl, rfl⟩ := pr_inj h
        exact pr_iret C Z dX9_carryOut_143
      · have h := pr_ifF h c8
        refine pr_ldc (v := (-1000000005)) C dX9_carryOut_111 pr_w514 ?_
        obtain ⟨rfl, rfl⟩ := pr_inj h
        exact pr_iret C Z dX9_carryOut_113
    · have h := pr_ifT h c6
      refine pr_ldc (v := (-1000000001)) C dX9_carryOut_93 pr_w513 ?_
      obtain ⟨rfl, rfl⟩ := pr_inj h
      exact pr_iret C Z dX9_carryOut_95
  · have h := pr_ifF h c4
    refine pr_ldc (v := (-1000000003)) C dX9_carryOut_9 pr_w673 ?_
    obtain ⟨rfl, rfl⟩ := pr_inj h
    exact pr_iret C Z dX9_carryOut_11

def F_X9_count (c : Nat) (p1 : Int32) (f : pr_M) : Option (Int32) :=
  if p1 = 0 then (
    some (f (c + 1) (Int32.toNatClampNeg 1765))
  ) else (
    if p1 = 1 then (
      some (f (c + 1) (Int32.toNatClampNeg 1766))
    ) else (
      if p1 = 2 then (
        some (f (c + 1) (Int32.toNatClampNeg 1767))
      ) else (
        if p1 = 3 then (
          if (f (c + 1) (Int32.toNatClampNeg 1771)) = 0 then (
            some 0
          ) else (
            pr_b1 (F_X9_way c ((f (c + 1) (Int32.toNatClampNeg 1766)) - 1) f) fun r11 =>
            some ((r11 + 2) - (f (c + 1) (Int32.toNatClampNeg 1771)))
          )
        ) else (
          if p1 = 4 then (
            some (f c 5)
          ) else (
            some (-1000000002)
            )
            )
            )
            )
            )
set_option maxHeartbeats 4000000 in
set_option maxRecDepth 100000 in
theorem m_X9_count {l : Launch} {e : pr_E0} {c : Nat} {p1 : Int32} {f : pr_M} {r : Int32} (hk0 : pr_LM[c]? = some (9, 0)) (h : F_X9_count c p1 f = some r) : pr_Met (pr_EM l e) yX9_count cX9_count 2 (some .int) { frames := 3, cells := 0, slots := 0, locals := 66 } [.ref (pr_ad (pr_EM l e) c), .int p1] f (some (.int r)) f := by
  rw [F_X9_count] at h
  refine pr_enter (by decide +kernel) (Nat.le_of_ble_eq_true rfl) (fun Y C Z => ?_)
  replace C : pr_C (pr_EM l e) Y { frames := 3, cells := 0, slots := 0, locals := 66 } cX9_count RX9 2 _ := C
  show pr_W (pr_EM l e) Y _ 2 f 0 [(0, .ref (pr_ad (pr_EM l e) c)), (1, .int p1)] []
  refine pr_iload_n C dX9_count_0 rfl 1 rfl ?_
  by_cases c1 : p1 = 0
  · have h := pr_ifT h c1
    refine pr_tableIn (tgt := 36) (off := 35) C dX9_count_1 c1 (by decide) (by decide) (by decide) (by decide) ?_
    refine pr_aload_n C dX9_count_36 rfl 0 rfl ?_
    refine pr_g_9_0 C hk0 pr_w476 dX9_count_37 ?_
    have hk2 := pr_kM_9_0 hk0
    refine pr_sipush (v := 1765) C dX9_count_40 (by decide) ?_
    refine pr_iaload C hk2 (pr_inlit (by decide +kernel)) dX9_count_43 ?_
    obtain rfl := pr_in1 h
    exact pr_iret C Z dX9_count_44
  · have h := pr_ifF h c1
    by_cases c3 : p1 = 1
    · have h := pr_ifT h c3
      refine pr_tableIn (tgt := 45) (off := 44) C dX9_count_1 c3 (by decide) (by decide) (by decide) (by decide) ?_
      refine pr_aload_n C dX9_count_45 rfl 0 rfl ?_
      refine pr_g_9_0 C hk0 pr_w476 dX9_count_46 ?_
      have hk4 := pr_kM_9_0 hk0
      refine pr_sipush (v := 1766) C dX9_count_49 (by decide) ?_
      refine pr_iaload C hk4 (pr_inlit (by decide +kernel)) dX9_count_52 ?_
      obtain rfl := pr_in1 h
      exact pr_iret C Z dX9_count_53
    · have h := pr_ifF h c3
      by_cases c5 : p1 = 2
      · have h := pr_ifT h c5
        refine pr_tableIn (tgt := 54) (off := 53) C dX9_count_1 c5 (by decide) (by decide) (by decide) (by decide) ?_
        refine pr_aload_n C dX9_count_54 rfl 0 rfl ?_
        refine pr_g_9_0 C hk0 pr_w476 dX9_count_55 ?_
        have hk6 := pr_kM_9_0 hk0
        refine pr_sipush (v := 1767) C dX9_count_58 (by decide) ?_
        refine pr_iaload C hk6 (pr_inlit (by decide +kernel)) dX9_count_61 ?_
        obtain rfl := pr_in1 h
        exact pr_iret C Z dX9_count_62
      · have h := pr_ifF h c5
        by_cases c7 : p1 = 3
        · have h := pr_ifT h c7
          refine pr_tableIn (tgt := 63) (off := 62) C dX9_count_1 c7 (by decide) (by decide) (by decide) (by decide) ?_
          refine pr_aload_n C dX9_count_63 rfl 0 rfl ?_
          refine pr_g_9_0 C hk0 pr_w476 dX9_count_64 ?_
          have hk8 := pr_kM_9_0 hk0
          refine pr_sipush (v := 1771) C dX9_count_67 (by decide) ?_
          refine pr_iaload C hk8 (pr_inlit (by decide +kernel)) dX9_count_70 ?_
          refine pr_if_ne (tgt := 78) C dX9_count_71 (by decide) (fun c9 => ?_) (fun c9 => ?_)
          · have h := pr_ifF h c9
            refine pr_aload_n C dX9_count_78 rfl 0 rfl ?_
            refine pr_aload_n C dX9_count_79 rfl 0 rfl ?_
            refine pr_g_9_0 C hk0 pr_w476 dX9_count_80 ?_
            refine pr_sipush (v := 1766) C dX9_count_83 (by decide) ?_
            refine pr_iaload C hk8 (pr_inlit (by decide +kernel)) dX9_count_86 ?_
            refine pr_iconst (v := 1) C dX9_count_87 (by decide) ?_
            refine pr_isub C dX9_count_88 ?_
            obtain ⟨r11, hc10, h⟩ := pr_b1_some h
            refine k_X9_way C pr_w536 hk0 hc10 (Nat.le_of_ble_eq_true rfl) (Nat.le_of_ble_eq_true rfl) (Nat.le_of_ble_eq_true rfl) dX9_count_89 ?_
            refine pr_iconst (v := 2) C dX9_count_92 (by decide) ?_
            refine pr_iadd C dX9_count_93 ?_
            refine pr_aload_n C dX9_count_94 rfl 0 rfl ?_
            refine pr_g_9_0 C hk0 pr_w476 dX9_count_95 ?_
            refine pr_sipush (v := 1771) C dX9_count_98 (by decide) ?_
            refine pr_iaload C hk8 (pr_inlit (by decide +kernel)) dX9_count_101 ?_
            refine pr_isub C dX9_count_102 ?_
            obtain rfl := pr_in1 h
            exact pr_iret C Z dX9_count_103
          · have h := pr_ifT h c9
            refine pr_iconst (v := 0) C dX9_count_74 (by decide) ?_
            refine pr_goto (tgt := 103) C dX9_count_75 (by decide) ?_
            obtain rfl := pr_in1 h
            exact pr_iret C Z dX9_count_103
        · have h := pr_ifF h c7
          by_cases c12 : p1 = 4
          · have h := pr_ifT h c12
            refine pr_tableIn (tgt := 104) (off := 103) C dX9_count_1 c12 (by decide) (by decide) (by decide) (by decide) ?_
            refine pr_aload_n C dX9_count_104 rfl 0 rfl ?_
            refine pr_g_9_5 C hk0 pr_w641 dX9_count_105 ?_
            obtain rfl := pr_in1 h
            exact pr_iret C Z dX9_count_108
          · have h := pr_ifF h c12
            refine pr_tableOut (tgt := 109) C dX9_count_1 (by have n0 := lv_neT (a := 0) c1 (by decide); have n1 := lv_neT (a := 1) c3 (by decide); have n2 := lv_neT (a := 2) c5 (by decide); have n3 := lv_neT (a := 3) c7 (by decide); have n4 := lv_neT (a := 4) c12 (by decide); omega) (by decide) ?_
            refine pr_ldc (v := (-1000000002)) C dX9_count_109 pr_w511 ?_
            obtain rfl := pr_in1 h
            exact pr_iret C Z dX9_count_111
