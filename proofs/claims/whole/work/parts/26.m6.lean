def L_X8_carryOut_74 (q0 : Nat) (x1 : Int32) : Nat → Int32 → pr_M → Option ((Unit) × pr_M)
  | 0, _, _ => none
  | n + 1, x2, f =>
    if 80 ≤ x2 then (
      some ((), f)
    ) else (
      pr_b1 (F_X2_hasMore (q0 + 199) f) fun r75004 =>
      if r75004 = 0 then (
        some ((), f)
      ) else (
        pr_bd (F_X2_readStep (q0 + 199) f) fun u75007 f75008 =>
        pr_bd (F_X8_carryOutStep q0 f75008) fun u75010 f75011 =>
        L_X8_carryOut_74 q0 x1 n (x2 + 1) f75011
      )
    )
set_option maxHeartbeats 4000000 in
set_option maxRecDepth 100000 in
theorem l_X8_carryOut_74 {l : Launch} {e : pr_E0} {Y : pr_Y} {c0 : Cond} {q0 : Nat} {x1 : Int32} {z : Unit} {g : pr_M} (C : pr_C (pr_EC l e) Y { frames := 6, cells := 0, slots := 0, locals := 138 } cX8_carryOut RX8 3 c0) (hq0 : pr_LC[q0]? = some (8, 0)) : ∀ (n : Nat) (x2 : Int32) (f : pr_M), L_X8_carryOut_74 q0 x1 n x2 f = some (z, g) → pr_W (pr_EC l e) Y { frames := 6, cells := 0, slots := 0, locals := 138 } 3 g 107 [(0, .ref (pr_ad (pr_EC l e) q0)), (1, .int x1)] [] → pr_W (pr_EC l e) Y { frames := 6, cells := 0, slots := 0, locals := 138 } 3 f 74 [(0, .ref (pr_ad (pr_EC l e) q0)), (1, .int x1), (2, .int x2)] [] := by
  intro n
  induction n with
  | zero =>
    intro x2 f h
    exact absurd h (by simp [L_X8_carryOut_74])
  | succ n ih =>
    intro x2 f h K
    rw [L_X8_carryOut_74] at h
    refine pr_iload_n C dX8_carryOut_74 rfl 2 rfl ?_
    refine pr_bipush (v := 80) C dX8_carryOut_75 (by decide) ?_
    refine pr_icmp_ge (tgt := 107) C dX8_carryOut_77 (by decide) (fun c75001 => ?_) (fun c75001 => ?_)
    · have h := pr_ifT h c75001
      obtain ⟨rfl, rfl⟩ := pr_inj h
      exact pr_pick [0, 1] rfl K
    · have h := pr_ifF h c75001
      refine pr_aload_n C dX8_carryOut_80 rfl 0 rfl ?_
      refine pr_g_8_4 C hq0 pr_w353 dX8_carryOut_81 ?_
      have hk75002 := pr_kC_8_4 hq0
      obtain ⟨r75004, hc75003, h⟩ := pr_b1_some h
      refine k_X2_hasMore C pr_w460 hk75002 hc75003 (Nat.le_of_ble_eq_true rfl) (Nat.le_of_ble_eq_true rfl) (Nat.le_of_ble_eq_true rfl) dX8_carryOut_84 ?_
      refine pr_if_eq (tgt := 107) C dX8_carryOut_87 (by decide) (fun c75005 => ?_) (fun c75005 => ?_)
      · have h := pr_ifT h c75005
        obtain ⟨rfl, rfl⟩ := pr_inj h
        exact pr_pick [0, 1] rfl K
      · have h := pr_ifF h c75005
        refine pr_aload_n C dX8_carryOut_90 rfl 0 rfl ?_
        refine pr_g_8_4 C hq0 pr_w353 dX8_carryOut_91 ?_
        obtain ⟨u75007, f75008, hc75006, h⟩ := pr_bd_some h
        refine k_X2_readStep C pr_w461 hk75002 hc75006 (Nat.le_of_ble_eq_true rfl) (Nat.le_of_ble_eq_true rfl) (Nat.le_of_ble_eq_true rfl) dX8_carryOut_94 ?_
        refine pr_aload_n C dX8_carryOut_97 rfl 0 rfl ?_
        obtain ⟨u75010, f75011, hc75009, h⟩ := pr_bd_some h
        refine k_X8_carryOutStep C pr_w462 hq0 hc75009 (Nat.le_of_ble_eq_true rfl) (Nat.le_of_ble_eq_true rfl) (Nat.le_of_ble_eq_true rfl) dX8_carryOut_98 ?_
        refine pr_iinc (v := (x2 + 1)) (lv' := [(2, .int (x2 + 1)), (0, .ref (pr_ad (pr_EC l e) q0)), (1, .int x1)]) C dX8_carryOut_101 2 rfl rfl (by decide) rfl ?_
        refine pr_goto (tgt := 74) C dX8_carryOut_104 (by decide) ?_
        exact pr_pick [1, 2, 0] rfl (ih _ _ h K)
def F_X8_carryOut (c : Nat) (f : pr_M) : Option (Int32 × pr_M) :=
  pr_bd (F_X2_readAll (c + 199) f) fun u3 f4 =>
  if (f4 (c + 199) 3) = 0 then (
    if (f4 (c + 199) 9) < (f4 (c + 1) 3) then (
      if ((f4 (c + 1) 4) + (f4 (c + 199) 8)) ≤ 100000 then (
        pr_bd (F_X2_beginReading (c + 199) f4) fun u10 f11 =>
        pr_bd (L_X8_carryOut_74 c (f4 (c + 199) 8) pr_fuel 0 f11) fun v12 f13 =>
        pr_lt (pr_up f13 (c + 199) 1 0) fun f14 =>
        some ((f4 (c + 199) 8), f14)
      ) else (
        some ((-1000000005), f4)
      )
    ) else (
      some ((-1000000001), f4)
    )
  ) else (
    some ((-1000000003), f4)
  )
set_option maxHeartbeats 4000000 in
set_option maxRecDepth 100000 in
theorem m_X8_carryOut {l : Launch} {e : pr_E0} {c : Nat} {f : pr_M} {r : Int32} {g : pr_M} (hk0 : pr_LC[c]? = some (8, 0)) (h : F_X8_carryOut c f = some (r, g)) : pr_Met (pr_EC l e) yX8_carryOut cX8_carryOut 3 (some .int) { frames := 6, cells := 0, slots := 0, locals := 138 } [.ref (pr_ad (pr_EC l e) c)] f (some (.int r)) g := by
  rw [F_X8_carryOut] at h
  refine pr_enter (by decide +kernel) (Nat.le_of_ble_eq_true rfl) (fun Y C Z => ?_)
  replace C : pr_C (pr_EC l e) Y { frames := 6, cells := 0, slots := 0, locals := 138 } cX8_carryOut RX8 3 _ := C
  show pr_W (pr_EC l e) Y _ 3 f 0 [(0, .ref (pr_ad (pr_EC l e) c))] []
  refine pr_aload_n C dX8_carryOut_0 rfl 0 rfl ?_
  refine pr_g_8_4 C hk0 pr_w353 dX8_carryOut_1 ?_
  have hk1 := pr_kC_8_4 hk0
  obtain ⟨u3, f4, hc2, h⟩ := pr_bd_some h
  refine k_X2_readAll C pr_w453 hk1 hc2 (Nat.le_of_ble_eq_true rfl) (Nat.le_of_ble_eq_true rfl) (Nat.le_of_ble_eq_true rfl) dX8_carryOut_4 ?_
  refine pr_aload_n C dX8_carryOut_7 rfl 0 rfl ?_
  refine pr_g_8_4 C hk0 pr_w353 dX8_carryOut_8 ?_
  refine pr_gN_2_3 C hk1 pr_nf50 dX8_carryOut_11 ?_
  refine pr_if_eq (tgt := 20) C dX8_carryOut_14 (by decide) (fun c5 => ?_) (fun c5 => ?_)
  · have h := pr_ifT h c5
    refine pr_aload_n C dX8_carryOut_20 rfl 0 rfl ?_
    refine pr_g_8_4 C hk0 pr_w353 dX8_carryOut_21 ?_
    refine pr_gN_2_8 C hk1 pr_nf55 dX8_carryOut_24 ?_
    refine pr_istore_n (lv' := [(1, .int (f4 (c + 199) 8)), (0, .ref (pr_ad (pr_EC l e) c))]) C dX8_carryOut_27 rfl (by decide) rfl ?_
    refine pr_aload_n C dX8_carryOut_28 rfl 1 rfl ?_
    refine pr_g_8_4 C hk0 pr_w353 dX8_carryOut_29 ?_
    refine pr_gN_2_9 C hk1 pr_nf56 dX8_carryOut_32 ?_
    refine pr_aload_n C dX8_carryOut_35 rfl 1 rfl ?_
    refine pr_g_8_0 C hk0 pr_w344 dX8_carryOut_36 ?_
    have hk6 := pr_kC_8_0 hk0
    refine pr_gN_3_3 C hk6 pr_nf43 dX8_carryOut_39 ?_
    refine pr_icmp_lt (tgt := 48) C dX8_carryOut_42 (by decide) (fun c7 => ?_) (fun c7 => ?_)
    · have h := pr_ifT h c7
      refine pr_aload_n C dX8_carryOut_48 rfl 1 rfl ?_
      refine pr_g_8_0 C hk0 pr_w344 dX8_carryOut_49 ?_
      refine pr_gN_3_4 C hk6 pr_nf44 dX8_carryOut_52 ?_
      refine pr_iload_n C dX8_carryOut_55 rfl 0 rfl ?_
      refine pr_iadd C dX8_carryOut_56 ?_
      refine pr_ldc (v := 100000) C dX8_carryOut_57 pr_w406 ?_
      refine pr_icmp_le (tgt := 65) C dX8_carryOut_59 (by decide) (fun c8 => ?_) (fun c8 => ?_)
      · have h := pr_ifT h c8
        refine pr_aload_n C dX8_carryOut_65 rfl 1 rfl ?_
        refine pr_g_8_4 C hk0 pr_w353 dX8_carryOut_66 ?_
        obtain ⟨u10, f11, hc9, h⟩ := pr_bd_some h
        refine k_X2_beginReading C pr_w459 hk1 hc9 (Nat.le_of_ble_eq_true rfl) (Nat.le_of_ble_eq_true rfl) (Nat.le_of_ble_eq_true rfl) dX8_carryOut_69 ?_
        refine pr_iconst (v := 0) C dX8_carryOut_72 (by decide) ?_
        refine pr_istore_n (lv' := [(2, .int 0), (1, .int (f4 (c + 199) 8)), (0, .ref (pr_ad (pr_EC l e) c))]) C dX8_carryOut_73 rfl (by decide) rfl ?_
        obtain ⟨v12, f13, hv, h⟩ := pr_bd_some h
        refine pr_pick [2, 1, 0] rfl (l_X8_carryOut_74 C hk0 pr_fuel _ _ hv ?_)
        clear hv
        refine pr_aload_n C dX8_carryOut_107 rfl 0 rfl ?_
        refine pr_g_8_4 C hk0 pr_w353 dX8_carryOut_108 ?_
        refine pr_iconst (v := 0) C dX8_carryOut_111 (by decide) ?_
        refine pr_pN_2_1 C hk1 pr_nf48 dX8_carryOut_112 (fun f14 e15 => ?_)
        have h := pr_lt_at h e15
        refine pr_iload_n C dX8_carryOut_115 rfl 1 rfl ?_
        obtain ⟨rfl, rfl⟩ := pr_inj h
        exact pr_iret C Z dX8_carryOut_116
      · have h := pr_ifF h c8
        refine pr_ldc (v := (-1000000005)) C dX8_carryOut_62 pr_w371 ?_
        obtain ⟨rfl, rfl⟩ := pr_inj h
        exact pr_iret C Z dX8_carryOut_64
    · have h := pr_ifF h c7
      refine pr_ldc (v := (-1000000001)) C dX8_carryOut_45 pr_w370 ?_
      obtain ⟨rfl, rfl⟩ := pr_inj h
      exact pr_iret C Z dX8_carryOut_47
  · have h := pr_ifF h c5
    refine pr_ldc (v := (-1000000003)) C dX8_carryOut_17 pr_w458 ?_
    obtain ⟨rfl, rfl⟩ := pr_inj h
    exact pr_iret C Z dX8_carryOut_19

def F_X8_count (c : Nat) (p1 : Int32) (f : pr_M) : Option (Int32) :=
  if p1 = 0 then (
    some (f (c + 1) 4)
  ) else (
    if p1 = 1 then (
      some (f (c + 1) 3)
    ) else (
      if p1 = 2 then (
        some (f (c + 1) 5)
      ) else (
        if p1 = 3 then (
          pr_b1 (F_X3_repeatsToLastUnit (c + 1) f) fun r10 =>
          some r10
        ) else (
          if p1 = 4 then (
            some (f (c + 199) 1)
          ) else (
            some (-1000000002)
            )
            )
            )
            )
            )
set_option maxHeartbeats 4000000 in
set_option maxRecDepth 100000 in
theorem m_X8_count {l : Launch} {e : pr_E0} {c : Nat} {p1 : Int32} {f : pr_M} {r : Int32} (hk0 : pr_LC[c]? = some (8, 0)) (h : F_X8_count c p1 f = some r) : pr_Met (pr_EC l e) yX8_count cX8_count 2 (some .int) { frames := 3, cells := 0, slots := 0, locals := 64 } [.ref (pr_ad (pr_EC l e) c), .int p1] f (some (.int r)) f := by
  rw [F_X8_count] at h
  refine pr_enter (by decide +kernel) (Nat.le_of_ble_eq_true rfl) (fun Y C Z => ?_)
  replace C : pr_C (pr_EC l e) Y { frames := 3, cells := 0, slots := 0, locals := 64 } cX8_count RX8 2 _ := C
  show pr_W (pr_EC l e) Y _ 2 f 0 [(0, .ref (pr_ad (pr_EC l e) c)), (1, .int p1)] []
  refine pr_iload_n C dX8_count_0 rfl 1 rfl ?_
  by_cases c1 : p1 = 0
  · have h := pr_ifT h c1
    refine pr_tableIn (tgt := 36) (off := 35) C dX8_count_1 c1 (by decide) (by decide) (by decide) (by decide) ?_
    refine pr_aload_n C dX8_count_36 rfl 0 rfl ?_
    refine pr_g_8_0 C hk0 pr_w344 dX8_count_37 ?_
    have hk2 := pr_kC_8_0 hk0
    refine pr_gN_3_4 C hk2 pr_nf44 dX8_count_40 ?_
    obtain rfl := pr_in1 h
    exact pr_iret C Z dX8_count_43
  · have h := pr_ifF h c1
    by_cases c3 : p1 = 1
    · have h := pr_ifT h c3
      refine pr_tableIn (tgt := 44) (off := 43) C dX8_count_1 c3 (by decide) (by decide) (by decide) (by decide) ?_
      refine pr_aload_n C dX8_count_44 rfl 0 rfl ?_
      refine pr_g_8_0 C hk0 pr_w344 dX8_count_45 ?_
      have hk4 := pr_kC_8_0 hk0
      refine pr_gN_3_3 C hk4 pr_nf43 dX8_count_48 ?_
      obtain rfl := pr_in1 h
      exact pr_iret C Z dX8_count_51
    · have h := pr_ifF h c3
      by_cases c5 : p1 = 2
      · have h := pr_ifT h c5
        refine pr_tableIn (tgt := 52) (off := 51) C dX8_count_1 c5 (by decide) (by decide) (by decide) (by decide) ?_
        refine pr_aload_n C dX8_count_52 rfl 0 rfl ?_
        refine pr_g_8_0 C hk0 pr_w344 dX8_count_53 ?_
        have hk6 := pr_kC_8_0 hk0
        refine pr_gN_3_5 C hk6 pr_nf45 dX8_count_56 ?_
        obtain rfl := pr_in1 h
        exact pr_iret C Z dX8_count_59
      · have h := pr_ifF h c5
        by_cases c7 : p1 = 3
        · have h := pr_ifT h c7
          refine pr_tableIn (tgt := 60) (off := 59) C dX8_count_1 c7 (by decide) (by decide) (by decide) (by decide) ?_
          refine pr_aload_n C dX8_count_60 rfl 0 rfl ?_
          refine pr_g_8_0 C hk0 pr_w344 dX8_count_61 ?_
          have hk8 := pr_kC_8_0 hk0
          obtain ⟨r10, hc9, h⟩ := pr_b1_some h
          refine k_X3_repeatsToLastUnit C pr_w402 hk8 hc9 (Nat.le_of_ble_eq_true rfl) (Nat.le_of_ble_eq_true rfl) (Nat.le_of_ble_eq_true rfl) dX8_count_64 ?_
          obtain rfl := pr_in1 h
          exact pr_iret C Z dX8_count_67
        · have h := pr_ifF h c7
          by_cases c11 : p1 = 4
          · have h := pr_ifT h c11
            refine pr_tableIn (tgt := 68) (off := 67) C dX8_count_1 c11 (by decide) (by decide) (by decide) (by decide) ?_
            refine pr_aload_n C dX8_count_68 rfl 0 rfl ?_
            refine pr_g_8_4 C hk0 pr_w353 dX8_count_69 ?_
            have hk12 := pr_kC_8_4 hk0
            refine pr_gN_2_1 C hk12 pr_nf48 dX8_count_72 ?_
            obtain rfl := pr_in1 h
            exact pr_iret C Z dX8_count_75
          · have h := pr_ifF h c11
            refine pr_tableOut (tgt := 76) C dX8_count_1 (by have n0 := lv_neT (a := 0) c1 (by decide); have n1 := lv_neT (a := 1) c3 (by decide); have n2 := lv_neT (a := 2) c5 (by decide); have n3 := lv_neT (a := 3) c7 (by decide); have n4 := lv_neT (a := 4) c11 (by decide); omega) (by decide) ?_
            refine pr_ldc (v := (-1000000002)) C dX8_count_76 pr_w362 ?_
            obtain rfl := pr_in1 h
            exact pr_iret C Z dX8_count_78

def F_X8_slotAt (c : Nat) (p1 : Int32) (f : pr_M) : Option (Option Nat) :=
  if p1 = 0 then (
    some (some (c + 99))
  ) else (
    if p1 = 1 then (
      some (some (c + 149))
    ) else (
      some none
    )
  )
set_option maxHeartbeats 4000000 in
set_option maxRecDepth 100000 in
theorem m_X8_slotAt {l : Launch} {e : pr_E0} {c : Nat} {p1 : Int32} {f : pr_M} {r : Option Nat} (hk0 : pr_LC[c]? = some (8, 0)) (h : F_X8_slotAt c p1 f = some r) : pr_Met (pr_EC l e) yX8_slotAt cX8_slotAt 2 (some (.object "PrintRegister$Slot")) { frames := 0, cells := 0, slots := 0, locals := 0 } [.ref (pr_ad (pr_EC l e) c), .int p1] f (some (pr_rv (pr_EC l e) r)) f := by
  rw [F_X8_slotAt] at h
  refine pr_enter (by decide +kernel) (Nat.le_of_ble_eq_true rfl) (fun Y C Z => ?_)
  replace C : pr_C (pr_EC l e) Y { frames := 0, cells := 0, slots := 0, locals := 0 } cX8_slotAt RX8 2 _ := C
  show pr_W (pr_EC l e) Y _ 2 f 0 [(0, .ref (pr_ad (pr_EC l e) c)), (1, .int p1)] []
  refine pr_iload_n C dX8_slotAt_0 rfl 1 rfl ?_
  refine pr_if_ne (tgt := 9) C dX8_slotAt_1 (by decide) (fun c1 => ?_) (fun c1 => ?_)
  · have h := pr_ifF h c1
    refine pr_iload_n C dX8_slotAt_9 rfl 1 rfl ?_
    refine pr_iconst (v := 1) C dX8_slotAt_10 (by decide) ?_
    refine pr_icmp_ne (tgt := 21) C dX8_slotAt_11 (by decide) (fun c2 => ?_) (fun c2 => ?_)
    · have h := pr_ifF h c2
      refine pr_null C dX8_slotAt_21 ?_
      obtain rfl := pr_in1 h
      exact pr_aret C (Or.inl rfl) Z dX8_slotAt_22
    · have h := pr_ifT h c2
      refine pr_aload_n C dX8_slotAt_14 rfl 0 rfl ?_
      refine pr_g_8_3 C hk0 pr_w350 dX8_slotAt_15 ?_
      have hk3 := pr_kC_8_3 hk0
      refine pr_goto (tgt := 22) C dX8_slotAt_18 (by decide) ?_
      obtain rfl := pr_in1 h
      exact pr_aret C (Or.inr ⟨_, rfl⟩) Z dX8_slotAt_22
  · have h := pr_ifT h c1
    refine pr_aload_n C dX8_slotAt_4 rfl 0 rfl ?_
    refine pr_g_8_2 C hk0 pr_w349 dX8_slotAt_5 ?_
    have hk4 := pr_kC_8_2 hk0
    obtain rfl := pr_in1 h
    exact pr_aret C (Or.inr ⟨_, rfl⟩) Z dX8_slotAt_8
theorem k_X8_slotAt {l : Launch} {e : pr_E0} {Y : pr_Y} {Rm : Room} {cc : ByteArray} {own : String} {nL : Nat} {c0 : Cond} {pc idx : Nat} {lv : List (Nat × Value)} {st : List Value} {c : Nat} {p1 : Int32} {f : pr_M} {r : Option Nat} (C : pr_C (pr_EC l e) Y Rm cc own nL c0) (w1 : Cond.methodLink own idx yX8_slotAt ∈ pr_AL) (hk0 : pr_LC[c]? = some (8, 0)) (h : F_X8_slotAt c p1 f = some r) (hr1 : 1 ≤ Rm.frames) (hr2 : 21 ≤ Rm.locals) (hcat : (st.map fun v => v.category).sum ≤ 8) (hdg : decode cc pc = .ok (.invokevirtual idx, 3)) (k : pr_W (pr_EC l e) Y Rm nL f (pc + 3) lv (pr_rv (pr_EC l e) r :: st)) : pr_W (pr_EC l e) Y Rm nL f pc lv (.int p1 :: .ref (pr_ad (pr_EC l e) c) :: st) :=
  pr_callV (As := [.int p1]) (n := 1) C (m_X8_slotAt hk0 h) hk0 (by decide) rfl w1 pr_w469 pr_w470 pr_w18 pr_w467 rfl rfl ⟨rfl, by decide +kernel, by decide +kernel, by decide +kernel⟩ rfl ⟨hr1, hr2⟩ rfl hcat hdg k

def F_X8_save (c : Nat) (p1 : Int32) (f : pr_M) : Option (Int32 × pr_M) :=
  pr_b1 (F_X8_slotAt c p1 f) fun o2 =>
  pr_op o2 (
    some ((-1000000002), f)
  ) fun q3 =>
  pr_gd (pr_LC[q3]? = some (6, 0)) <|
  pr_bd (F_X3_copyFrom (q3 + 1) (c + 1) f) fun u8 f9 =>
  pr_lt (pr_up f9 q3 1 1) fun f10 =>
  some ((f10 (c + 1) 4), f10)
set_option maxHeartbeats 4000000 in
set_option maxRecDepth 100000 in
theorem m_X8_save {l : Launch} {e : pr_E0} {c : Nat} {p1 : Int32} {f : pr_M} {r : Int32} {g : pr_M} (hk0 : pr_LC[c]? = some (8, 0)) (h : F_X8_save c p1 f = some (r, g)) : pr_Met (pr_EC l e) yX8_save cX8_save 3 (some .int) { frames := 5, cells := 0, slots := 0, locals := 125 } [.ref (pr_ad (pr_EC l e) c), .int p1] f (some (.int r)) g := by
  rw [F_X8_save] at h
  refine pr_enter (by decide +kernel) (Nat.le_of_ble_eq_true rfl) (fun Y C Z => ?_)
  replace C : pr_C (pr_EC l e) Y { frames := 5, cells := 0, slots := 0, locals := 125 } cX8_save RX8 3 _ := C
  show pr_W (pr_EC l e) Y _ 3 f 0 [(0, .ref (pr_ad (pr_EC l e) c)), (1, .int p1)] []
  refine pr_aload_n C dX8_save_0 rfl 0 rfl ?_
  refine pr_iload_n C dX8_save_1 rfl 1 rfl ?_
  obtain ⟨o2, hc1, h⟩ := pr_b1_some h
  refine k_X8_slotAt C pr_w468 hk0 hc1 (Nat.le_of_ble_eq_true rfl) (Nat.le_of_ble_eq_true rfl) (Nat.le_of_ble_eq_true rfl) dX8_save_2 ?_
  cases o2 with
  | none =>
    have h := pr_op_n h
    refine pr_astore_nN (lv' := [(2, .null), (0, .ref (pr_ad (pr_EC l e) c)), (1, .int p1)]) C dX8_save_5 rfl (by decide) rfl ?_
    refine pr_aload_nN C dX8_save_6 rfl 0 rfl ?_
    refine pr_ifnonnullN C dX8_save_7 ?_
    refine pr_ldc (v := (-1000000002)) C dX8_save_10 pr_w362 ?_
    obtain ⟨rfl, rfl⟩ := pr_inj h
    exact pr_iret C Z dX8_save_12
  | some q3 =>
    have h := pr_op_s h
    obtain ⟨hk4, h⟩ := pr_gd_some h
    refine pr_astore_n (lv' := [(2, .ref (pr_ad (pr_EC l e) q3)), (0, .ref (pr_ad (pr_EC l e) c)), (1, .int p1)]) C dX8_save_5 rfl (by decide) rfl ?_
    refine pr_aload_n C dX8_save_6 rfl 0 rfl ?_
    refine pr_ifnonnull (tgt := 13) C dX8_save_7 (by decide) ?_
    refine pr_aload_n C dX8_save_13 rfl 0 rfl ?_
    refine pr_gN_6_0 C hk4 pr_nf46 dX8_save_14 ?_
    have hk5 := pr_kC_6_0 hk4
    refine pr_aload_n C dX8_save_17 rfl 1 rfl ?_
    refine pr_g_8_0 C hk0 pr_w344 dX8_save_18 ?_
    have hk6 := pr_kC_8_0 hk0
    obtain ⟨u8, f9, hc7, h⟩ := pr_bd_some h
    refine k_X3_copyFrom C pr_w433 hk5 hk6 hc7 (Nat.le_of_ble_eq_true rfl) (Nat.le_of_ble_eq_true rfl) (Nat.le_of_ble_eq_true rfl) dX8_save_21 ?_
    refine pr_aload_n C dX8_save_24 rfl 0 rfl ?_
    refine pr_iconst (v := 1) C dX8_save_25 (by decide) ?_
    refine pr_pN_6_1 C hk4 pr_nf47 (by decide) dX8_save_26 (fun f10 e11 => ?_)
    have h := pr_lt_at h e11
    refine pr_aload_n C dX8_save_29 rfl 1 rfl ?_
    refine pr_g_8_0 C hk0 pr_w344 dX8_save_30 ?_
    refine pr_gN_3_4 C hk6 pr_nf44 dX8_save_33 ?_
    obtain ⟨rfl, rfl⟩ := pr_inj h
    exact pr_iret C Z dX8_save_36

def F_X8_restore (c : Nat) (p1 : Int32) (f : pr_M) : Option (Int32 × pr_M) :=
  pr_b1 (F_X8_slotAt c p1 f) fun o2 =>
  pr_op o2 (
    some ((-1000000002), f)
  ) fun q3 =>
  pr_gd (pr_LC[q3]? = some (6, 0)) <|
  if (f q3 1) = 0 then (
    some ((-1000000005), f)
  ) else (
    pr_bd (F_X3_copyFrom (c + 1) (q3 + 1) f) fun u9 f10 =>
    some ((f10 (c + 1) 4), f10)
  )
set_option maxHeartbeats 4000000 in
set_option maxRecDepth 100000 in
theorem m_X8_restore {l : Launch} {e : pr_E0} {c : Nat} {p1 : Int32} {f : pr_M} {r : Int32} {g : pr_M} (hk0 : pr_LC[c]? = some (8, 0)) (h : F_X8_restore c p1 f = some (r, g)) : pr_Met (pr_EC l e) yX8_restore cX8_restore 3 (some .int) { frames := 5, cells := 0, slots := 0, locals := 125 } [.ref (pr_ad (pr_EC l e) c), .int p1] f (some (.int r)) g := by
  rw [F_X8_restore] at h
  refine pr_enter (by decide +kernel) (Nat.le_of_ble_eq_true rfl) (fun Y C Z => ?_)
  replace C : pr_C (pr_EC l e) Y { frames := 5, cells := 0, slots := 0, locals := 125 } cX8_restore RX8 3 _ := C
  show pr_W (pr_EC l e) Y _ 3 f 0 [(0, .ref (pr_ad (pr_EC l e) c)), (1, .int p1)] []
  refine pr_aload_n C dX8_restore_0 rfl 0 rfl ?_
  refine pr_iload_n C dX8_restore_1 rfl 1 rfl ?_
  obtain ⟨o2, hc1, h⟩ := pr_b1_some h
  refine k_X8_slotAt C pr_w468 hk0 hc1 (Nat.le_of_ble_eq_true rfl) (Nat.le_of_ble_eq_true rfl) (Nat.le_of_ble_eq_true rfl) dX8_restore_2 ?_
  cases o2 with
  | none =>
    have h := pr_op_n h
    refine pr_astore_nN (lv' := [(2, .null), (0, .ref (pr_ad (pr_EC l e) c)), (1, .int p1)]) C dX8_restore_5 rfl (by decide) rfl ?_
    refine pr_aload_nN C dX8_restore_6 rfl 0 rfl ?_
    refine pr_ifnonnullN C dX8_restore_7 ?_
    refine pr_ldc (v := (-1000000002)) C dX8_restore_10 pr_w362 ?_
    obtain ⟨rfl, rfl⟩ := pr_inj h
    exact pr_iret C Z dX8_restore_12
  | some q3 =>
    have h := pr_op_s h
    obtain ⟨hk4, h⟩ := pr_gd_some h
    refine pr_astore_n (lv' := [(2, .ref (pr_ad (pr_EC l e) q3)), (0, .ref (pr_ad (pr_EC l e) c)), (1, .int p1)]) C dX8_restore_5 rfl (by decide) rfl ?_
    refine pr_aload_n C dX8_restore_6 rfl 0 rfl ?_
    refine pr_ifnonnull (tgt := 13) C dX8_restore_7 (by decide) ?_
    refine pr_aload_n C dX8_restore_13 rfl 0 rfl ?_
    refine pr_gN_6_1 C hk4 pr_nf47 dX8_restore_14 ?_
    refine pr_if_ne (tgt := 23) C dX8_restore_17 (by decide) (fun c5 => ?_) (fun c5 => ?_)
    · have h := pr_ifF h c5
      refine pr_aload_n C dX8_restore_23 rfl 1 rfl ?_
      refine pr_g_8_0 C hk0 pr_w344 dX8_restore_24 ?_
      have hk6 := pr_kC_8_0 hk0
      refine pr_aload_n C dX8_restore_27 rfl 0 rfl ?_
      refine pr_gN_6_0 C hk4 pr_nf46 dX8_restore_28 ?_
      have hk7 := pr_kC_6_0 hk4
      obtain ⟨u9, f10, hc8, h⟩ := pr_bd_some h
      refine k_X3_copyFrom C pr_w433 hk6 hk7 hc8 (Nat.le_of_ble_eq_true rfl) (Nat.le_of_ble_eq_true rfl) (Nat.le_of_ble_eq_true rfl) dX8_restore_31 ?_
      refine pr_aload_n C dX8_restore_34 rfl 1 rfl ?_
      refine pr_g_8_0 C hk0 pr_w344 dX8_restore_35 ?_
      refine pr_gN_3_4 C hk6 pr_nf44 dX8_restore_38 ?_
      obtain ⟨rfl, rfl⟩ := pr_inj h
      exact pr_iret C Z dX8_restore_41
    · have h := pr_ifT h c5
      refine pr_ldc (v := (-1000000005)) C dX8_restore_20 pr_w371 ?_
      obtain ⟨rfl, rfl⟩ := pr_inj h
      exact pr_iret C Z dX8_restore_22

def F_X9_firstValue (p1 : Int32) (f : pr_M) : Option (Int32) :=
  if p1 = 0 then (
    some 5
  ) else (
    if p1 = 1 then (
      some 3
    ) else (
      if p1 = 2 then (
        some 200
      ) else (
        if p1 = 3 then (
          some 4
        ) else (
          if p1 = 4 then (
            some 128
          ) else (
            if p1 = 5 then (
              some 16
            ) else (
              if p1 = 6 then (
                some 5
              ) else (
                if p1 = 7 then (
                  some 300
                ) else (
                  if p1 = 8 then (
                    some 64
                  ) else (
                    if p1 = 9 then (
                      some 8
                    ) else (
                      some 0
                      )
                      )
                      )
                      )
                      )
                      )
                      )
                      )
                      )
                      )
set_option maxHeartbeats 4000000 in
set_option maxRecDepth 100000 in
theorem m_X9_firstValue {l : Launch} {e : pr_E0} {p1 : Int32} {f : pr_M} {r : Int32}  (h : F_X9_firstValue p1 f = some r) : pr_Met (pr_EM l e) yX9_firstValue cX9_firstValue 1 (some .int) { frames := 0, cells := 0, slots := 0, locals := 0 } [.int p1] f (some (.int r)) f := by
  rw [F_X9_firstValue] at h
  refine pr_enter (by decide +kernel) (Nat.le_of_ble_eq_true rfl) (fun Y C Z => ?_)
  replace C : pr_C (pr_EM l e) Y { frames := 0, cells := 0, slots := 0, locals := 0 } cX9_firstValue RX9 1 _ := C
  show pr_W (pr_EM l e) Y _ 1 f 0 [(0, .int p1)] []
  refine pr_iload_n C dX9_firstValue_0 rfl 0 rfl ?_
  by_cases c1 : p1 = 0
  · have h := pr_ifT h c1
    refine pr_tableIn (tgt := 56) (off := 55) C dX9_firstValue_1 c1 (by decide) (by decide) (by decide) (by decide) ?_
    refine pr_iconst (v := 5) C dX9_firstValue_56 (by decide) ?_
    obtain rfl := pr_in1 h
    exact pr_iret C Z dX9_firstValue_57
  · have h := pr_ifF h c1
    by_cases c2 : p1 = 1
    · have h := pr_ifT h c2
      refine pr_tableIn (tgt := 58) (off := 57) C dX9_firstValue_1 c2 (by decide) (by decide) (by decide) (by decide) ?_
      refine pr_iconst (v := 3) C dX9_firstValue_58 (by decide) ?_
      obtain rfl := pr_in1 h
      exact pr_iret C Z dX9_firstValue_59
    · have h := pr_ifF h c2
      by_cases c3 : p1 = 2
      · have h := pr_ifT h c3
        refine pr_tableIn (tgt := 60) (off := 59) C dX9_firstValue_1 c3 (by decide) (by decide) (by decide) (by decide) ?_
        refine pr_sipush (v := 200) C dX9_firstValue_60 (by decide) ?_
        obtain rfl := pr_in1 h
        exact pr_iret C Z dX9_firstValue_63
      · have h := pr_ifF h c3
        by_cases c4 : p1 = 3
        · have h := pr_ifT h c4
          refine pr_tableIn (tgt := 64) (off := 63) C dX9_firstValue_1 c4 (by decide) (by decide) (by decide) (by decide) ?_
          refine pr_iconst (v := 4) C dX9_firstValue_64 (by decide) ?_
          obtain rfl := pr_in1 h
          exact pr_iret C Z dX9_firstValue_65
        · have h := pr_ifF h c4
          by_cases c5 : p1 = 4
          · have h := pr_ifT h c5
            refine pr_tableIn (tgt := 66) (off := 65) C dX9_firstValue_1 c5 (by decide) (by decide) (by decide) (by decide) ?_
            refine pr_sipush (v := 128) C dX9_firstValue_66 (by decide) ?_
            obtain rfl := pr_in1 h
            exact pr_iret C Z dX9_firstValue_69
          · have h := pr_ifF h c5
            by_cases c6 : p1 = 5
            · have h := pr_ifT h c6
              refine pr_tableIn (tgt := 70) (off := 69) C dX9_firstValue_1 c6 (by decide) (by decide) (by decide) (by decide) ?_
              refine pr_bipush (v := 16) C dX9_firstValue_70 (by decide) ?_
              obtain rfl := pr_in1 h
              exact pr_iret C Z dX9_firstValue_72
            · have h := pr_ifF h c6
              by_cases c7 : p1 = 6
              · have h := pr_ifT h c7
                refine pr_tableIn (tgt := 56) (off := 55) C dX9_firstValue_1 c7 (by decide) (by decide) (by decide) (by decide) ?_
                refine pr_iconst (v := 5) C dX9_firstValue_56 (by decide) ?_
                obtain rfl := pr_in1 h
                exact pr_iret C Z dX9_firstValue_57
              · have h := pr_ifF h c7
                by_cases c8 : p1 = 7
                · have h := pr_ifT h c8
                  refine pr_tableIn (tgt := 73) (off := 72) C dX9_firstValue_1 c8 (by decide) (by decide) (by decide) (by decide) ?_
                  refine pr_sipush (v := 300) C dX9_firstValue_73 (by decide) ?_
                  obtain rfl := pr_in1 h
                  exact pr_iret C Z dX9_firstValue_76
                · have h := pr_ifF h c8
                  by_cases c9 : p1 = 8
                  · have h := pr_ifT h c9
                    refine pr_tableIn (tgt := 77) (off := 76) C dX9_firstValue_1 c9 (by decide) (by decide) (by decide) (by decide) ?_
                    refine pr_bipush (v := 64) C dX9_firstValue_77 (by decide) ?_
                    obtain rfl := pr_in1 h
                    exact pr_iret C Z dX9_firstValue_79
                  · have h := pr_ifF h c9
                    by_cases c10 : p1 = 9
                    · have h := pr_ifT h c10
                      refine pr_tableIn (tgt := 80) (off := 79) C dX9_firstValue_1 c10 (by decide) (by decide) (by decide) (by decide) ?_
                      refine pr_bipush (v := 8) C dX9_firstValue_80 (by decide) ?_
                      obtain rfl := pr_in1 h
                      exact pr_iret C Z dX9_firstValue_82
                    · have h := pr_ifF h c10
                      refine pr_tableOut (tgt := 83) C dX9_firstValue_1 (by have n0 := lv_neT (a := 0) c1 (by decide); have n1 := lv_neT (a := 1) c2 (by decide); have n2 := lv_neT (a := 2) c3 (by decide); have n3 := lv_neT (a := 3) c4 (by decide); have n4 := lv_neT (a := 4) c5 (by decide); have n5 := lv_neT (a := 5) c6 (by decide); have n6 := lv_neT (a := 6) c7 (by decide); have n7 := lv_neT (a := 7) c8 (by decide); have n8 := lv_neT (a := 8) c9 (by decide); have n9 := lv_neT (a := 9) c10 (by decide); omega) (by decide) ?_
                      refine pr_iconst (v := 0) C dX9_firstValue_83 (by decide) ?_
                      obtain rfl := pr_in1 h
                      exact pr_iret C Z dX9_firstValue_84
theorem k_X9_firstValue {l : Launch} {e : pr_E0} {Y : pr_Y} {Rm : Room} {cc : ByteArray} {own : String} {nL : Nat} {c0 : Cond} {pc idx : Nat} {lv : List (Nat × Value)} {st : List Value} {p1 : Int32} {f : pr_M} {r : Int32} (C : pr_C (pr_EM l e) Y Rm cc own nL c0) (w1 : Cond.methodLink own idx yX9_firstValue ∈ pr_AL)  (h : F_X9_firstValue p1 f = some r) (hr1 : 1 ≤ Rm.frames) (hr2 : 20 ≤ Rm.locals) (hcat : (st.map fun v => v.category).sum ≤ 8) (hdg : decode cc pc = .ok (.invokestatic idx, 3)) (k : pr_W (pr_EM l e) Y Rm nL f (pc + 3) lv (.int r :: st)) : pr_W (pr_EM l e) Y Rm nL f pc lv (.int p1 :: st) :=
  pr_callS (As := [.int p1]) (n := 1) C (m_X9_firstValue  h) w1 pr_w482 pr_w479 pr_w473 rfl rfl ⟨by decide +kernel, by decide +kernel, by decide +kernel⟩ rfl ⟨hr1, hr2⟩ rfl hcat hdg k

def F_X9_place (p1 : Int32) (p2 : Int32) (f : pr_M) : Option (Int32) :=
  some ((353 * p1) + p2)
set_option maxHeartbeats 4000000 in
set_option maxRecDepth 100000 in
theorem m_X9_place {l : Launch} {e : pr_E0} {p1 : Int32} {p2 : Int32} {f : pr_M} {r : Int32}  (h : F_X9_place p1 p2 f = some r) : pr_Met (pr_EM l e) yX9_place cX9_place 2 (some .int) { frames := 0, cells := 0, slots := 0, locals := 0 } [.int p1, .int p2] f (some (.int r)) f := by
  rw [F_X9_place] at h
  refine pr_enter (by decide +kernel) (Nat.le_of_ble_eq_true rfl) (fun Y C Z => ?_)
  replace C : pr_C (pr_EM l e) Y { frames := 0, cells := 0, slots := 0, locals := 0 } cX9_place RX9 2 _ := C
  show pr_W (pr_EM l e) Y _ 2 f 0 [(0, .int p1), (1, .int p2)] []
  refine pr_sipush (v := 353) C dX9_place_0 (by decide) ?_
  refine pr_iload_n C dX9_place_3 rfl 0 rfl ?_
  refine pr_imul C dX9_place_4 ?_
  refine pr_iload_n C dX9_place_5 rfl 1 rfl ?_
  refine pr_iadd C dX9_place_6 ?_
  obtain rfl := pr_in1 h
  exact pr_iret C Z dX9_place_7
theorem k_X9_place {l : Launch} {e : pr_E0} {Y : pr_Y} {Rm : Room} {cc : ByteArray} {own : String} {nL : Nat} {c0 : Cond} {pc idx : Nat} {lv : List (Nat × Value)} {st : List Value} {p1 : Int32} {p2 : Int32} {f : pr_M} {r : Int32} (C : pr_C (pr_EM l e) Y Rm cc own nL c0) (w1 : Cond.methodLink own idx yX9_place ∈ pr_AL)  (h : F_X9_place p1 p2 f = some r) (hr1 : 1 ≤ Rm.frames) (hr2 : 21 ≤ Rm.locals) (hcat : (st.map fun v => v.category).sum ≤ 8) (hdg : decode cc pc = .ok (.invokestatic idx, 3)) (k : pr_W (pr_EM l e) Y Rm nL f (pc + 3) lv (.int r :: st)) : pr_W (pr_EM l e) Y Rm nL f pc lv (.int p2 :: .int p1 :: st) :=
  pr_callS (As := [.int p1, .int p2]) (n := 2) C (m_X9_place  h) w1 pr_w478 pr_w479 pr_w474 rfl rfl ⟨by decide +kernel, by decide +kernel, by decide +kernel⟩ rfl ⟨hr1, hr2⟩ rfl hcat hdg k

def F_X9_lay (c : Nat) (p1 : Int32) (p2 : Int32) (p3 : Int32) (f : pr_M) : Option (Unit × pr_M) :=
  pr_b1 (F_X9_place p1 p2 f) fun r3 =>
  pr_gd (¬ (r3 < 0 ∨ 1906 ≤ Int32.toNatClampNeg r3)) <|
  pr_lt (pr_up f (c + 1) (Int32.toNatClampNeg r3) p3) fun f5 =>
  some ((), f5)
set_option maxHeartbeats 4000000 in
set_option maxRecDepth 100000 in
theorem m_X9_lay {l : Launch} {e : pr_E0} {c : Nat} {p1 : Int32} {p2 : Int32} {p3 : Int32} {f : pr_M} {r : Unit} {g : pr_M} (hk0 : pr_LM[c]? = some (9, 0)) (h : F_X9_lay c p1 p2 p3 f = some (r, g)) : pr_Met (pr_EM l e) yX9_lay cX9_lay 4 none { frames := 1, cells := 0, slots := 0, locals := 21 } [.ref (pr_ad (pr_EM l e) c), .int p1, .int p2, .int p3] f none g := by
  rw [F_X9_lay] at h
  refine pr_enter (by decide +kernel) (Nat.le_of_ble_eq_true rfl) (fun Y C Z => ?_)
  replace C : pr_C (pr_EM l e) Y { frames := 1, cells := 0, slots := 0, locals := 21 } cX9_lay RX9 4 _ := C
  show pr_W (pr_EM l e) Y _ 4 f 0 [(0, .ref (pr_ad (pr_EM l e) c)), (1, .int p1), (2, .int p2), (3, .int p3)] []
  refine pr_aload_n C dX9_lay_0 rfl 0 rfl ?_
  refine pr_g_9_0 C hk0 pr_w476 dX9_lay_1 ?_
  have hk1 := pr_kM_9_0 hk0
  refine pr_iload_n C dX9_lay_4 rfl 1 rfl ?_
  refine pr_iload_n C dX9_lay_5 rfl 2 rfl ?_
  obtain ⟨r3, hc2, h⟩ := pr_b1_some h
  refine k_X9_place C pr_w477  hc2 (Nat.le_of_ble_eq_true rfl) (Nat.le_of_ble_eq_true rfl) (Nat.le_of_ble_eq_true rfl) dX9_lay_6 ?_
  refine pr_iload_n C dX9_lay_9 rfl 3 rfl ?_
  obtain ⟨hg4, h⟩ := pr_gd_some h
  refine pr_iastore C hk1 hg4 dX9_lay_10 (fun f5 e6 => ?_)
  have h := pr_lt_at h e6
  obtain ⟨rfl, rfl⟩ := pr_inj h
  exact pr_vret C Z dX9_lay_11
theorem k_X9_lay {l : Launch} {e : pr_E0} {Y : pr_Y} {Rm : Room} {cc : ByteArray} {own : String} {nL : Nat} {c0 : Cond} {pc idx : Nat} {lv : List (Nat × Value)} {st : List Value} {c : Nat} {p1 : Int32} {p2 : Int32} {p3 : Int32} {f : pr_M} {r : Unit} {g : pr_M} (C : pr_C (pr_EM l e) Y Rm cc own nL c0) (w1 : Cond.methodLink own idx yX9_lay ∈ pr_AL) (hk0 : pr_LM[c]? = some (9, 0)) (h : F_X9_lay c p1 p2 p3 f = some (r, g)) (hr1 : 2 ≤ Rm.frames) (hr2 : 44 ≤ Rm.locals) (hcat : (st.map fun v => v.category).sum ≤ 8) (hdg : decode cc pc = .ok (.invokevirtual idx, 3)) (k : pr_W (pr_EM l e) Y Rm nL g (pc + 3) lv (st)) : pr_W (pr_EM l e) Y Rm nL f pc lv (.int p3 :: .int p2 :: .int p1 :: .ref (pr_ad (pr_EM l e) c) :: st) :=
  pr_callV (As := [.int p1, .int p2, .int p3]) (n := 3) C (m_X9_lay hk0 h) hk0 (by decide) rfl w1 pr_w484 pr_w485 pr_w479 pr_w475 rfl rfl ⟨rfl, by decide +kernel, by decide +kernel, by decide +kernel⟩ rfl ⟨hr1, hr2⟩ rfl hcat hdg k

def L_X9_layAll_2 (q0 : Nat) (x1 : Int32) : Nat → Int32 → pr_M → Option ((Unit) × pr_M)
  | 0, _, _ => none
  | n + 1, x2, f =>
    if 1906 ≤ x2 then (
      some ((), f)
    ) else (
      pr_gd (¬ (x2 < 0 ∨ 1906 ≤ Int32.toNatClampNeg x2)) <|
      pr_lt (pr_up f (q0 + 1) (Int32.toNatClampNeg x2) 0) fun f3004 =>
      L_X9_layAll_2 q0 x1 n (x2 + 1) f3004
    )
set_option maxHeartbeats 4000000 in
set_option maxRecDepth 100000 in
theorem l_X9_layAll_2 {l : Launch} {e : pr_E0} {Y : pr_Y} {c0 : Cond} {q0 : Nat} {x1 : Int32} {z : Unit} {g : pr_M} (C : pr_C (pr_EM l e) Y { frames := 2, cells := 0, slots := 0, locals := 44 } cX9_layAll RX9 4 c0) (hq0 : pr_LM[q0]? = some (9, 0)) : ∀ (n : Nat) (x2 : Int32) (f : pr_M), L_X9_layAll_2 q0 x1 n x2 f = some (z, g) → pr_W (pr_EM l e) Y { frames := 2, cells := 0, slots := 0, locals := 44 } 4 g 22 [(0, .ref (pr_ad (pr_EM l e) q0)), (1, .int x1)] [] → pr_W (pr_EM l e) Y { frames := 2, cells := 0, slots := 0, locals := 44 } 4 f 2 [(0, .ref (pr_ad (pr_EM l e) q0)), (1, .int x1), (2, .int x2)] [] := by
  intro n
  induction n with
  | zero =>
    intro x2 f h
    exact absurd h (by simp [L_X9_layAll_2])
  | succ n ih =>
    intro x2 f h K
    rw [L_X9_layAll_2] at h
    refine pr_iload_n C dX9_layAll_2 rfl 2 rfl ?_
    refine pr_sipush (v := 1906) C dX9_layAll_3 (by decide) ?_
    refine pr_icmp_ge (tgt := 22) C dX9_layAll_6 (by decide) (fun c3001 => ?_) (fun c3001 => ?_)
    · have h := pr_ifT h c3001
      obtain ⟨rfl, rfl⟩ := pr_inj h
      exact pr_pick [0, 1] rfl K
    · have h := pr_ifF h c3001
      refine pr_aload_n C dX9_layAll_9 rfl 0 rfl ?_
      refine pr_g_9_0 C hq0 pr_w476 dX9_layAll_10 ?_
      have hk3002 := pr_kM_9_0 hq0
      refine pr_iload_n C dX9_layAll_13 rfl 2 rfl ?_
      refine pr_iconst (v := 0) C dX9_layAll_14 (by decide) ?_
      obtain ⟨hg3003, h⟩ := pr_gd_some h
      refine pr_iastore C hk3002 hg3003 dX9_layAll_15 (fun f3004 e3005 => ?_)
      have h := pr_lt_at h e3005
      refine pr_iinc (v := (x2 + 1)) (lv' := [(2, .int (x2 + 1)), (0, .ref (pr_ad (pr_EM l e) q0)), (1, .int x1)]) C dX9_layAll_16 2 rfl rfl (by decide) rfl ?_
      refine pr_goto (tgt := 2) C dX9_layAll_19 (by decide) ?_
      exact pr_pick [1, 2, 0] rfl (ih _ _ h K)
def L_X9_layAll_40 (q0 : Nat) (x2 : Int32) : Nat → Int32 → pr_M → Option ((Unit) × pr_M)
  | 0, _, _ => none
  | n + 1, x3, f =>
    if 11 ≤ x3 then (
      some ((), f)
    ) else (
      pr_b1 (F_X9_firstValue x3 f) fun r41003 =>
      pr_bd (F_X9_lay q0 x2 x3 r41003 f) fun u41005 f41006 =>
      L_X9_layAll_40 q0 x2 n (x3 + 1) f41006
    )
set_option maxHeartbeats 4000000 in
set_option maxRecDepth 100000 in
theorem l_X9_layAll_40 {l : Launch} {e : pr_E0} {Y : pr_Y} {c0 : Cond} {q0 : Nat} {x2 : Int32} {z : Unit} {g : pr_M} (C : pr_C (pr_EM l e) Y { frames := 2, cells := 0, slots := 0, locals := 44 } cX9_layAll RX9 4 c0) (hq0 : pr_LM[q0]? = some (9, 0)) : ∀ (n : Nat) (x3 : Int32) (f : pr_M), L_X9_layAll_40 q0 x2 n x3 f = some (z, g) → pr_W (pr_EM l e) Y { frames := 2, cells := 0, slots := 0, locals := 44 } 4 g 62 [(0, .ref (pr_ad (pr_EM l e) q0)), (2, .int x2)] [] → pr_W (pr_EM l e) Y { frames := 2, cells := 0, slots := 0, locals := 44 } 4 f 40 [(0, .ref (pr_ad (pr_EM l e) q0)), (2, .int x2), (3, .int x3)] [] := by
  intro n
  induction n with
  | zero =>
    intro x3 f h
    exact absurd h (by simp [L_X9_layAll_40])
  | succ n ih =>
    intro x3 f h K
    rw [L_X9_layAll_40] at h
    refine pr_iload_n C dX9_layAll_40 rfl 2 rfl ?_
    refine pr_bipush (v := 11) C dX9_layAll_41 (by decide) ?_
    refine pr_icmp_ge (tgt := 62) C dX9_layAll_43 (by decide) (fun c41001 => ?_) (fun c41001 => ?_)
    · have h := pr_ifT h c41001
      obtain ⟨rfl, rfl⟩ := pr_inj h
      exact pr_pick [0, 1] rfl K
    · have h := pr_ifF h c41001
      refine pr_aload_n C dX9_layAll_46 rfl 0 rfl ?_
      refine pr_iload_n C dX9_layAll_47 rfl 1 rfl ?_
      refine pr_iload_n C dX9_layAll_48 rfl 2 rfl ?_
      refine pr_iload_n C dX9_layAll_49 rfl 2 rfl ?_
      obtain ⟨r41003, hc41002, h⟩ := pr_b1_some h
      refine k_X9_firstValue C pr_w481  hc41002 (Nat.le_of_ble_eq_true rfl) (Nat.le_of_ble_eq_true rfl) (Nat.le_of_ble_eq_true rfl) dX9_layAll_50 ?_
      obtain ⟨u41005, f41006, hc41004, h⟩ := pr_bd_some h
      refine k_X9_lay C pr_w483 hq0 hc41004 (Nat.le_of_ble_eq_true rfl) (Nat.le_of_ble_eq_true rfl) (Nat.le_of_ble_eq_true rfl) dX9_layAll_53 ?_
      refine pr_iinc (v := (x3 + 1)) (lv' := [(3, .int (x3 + 1)), (0, .ref (pr_ad (pr_EM l e) q0)), (2, .int x2)]) C dX9_layAll_56 2 rfl rfl (by decide) rfl ?_
      refine pr_goto (tgt := 40) C dX9_layAll_59 (by decide) ?_
      exact pr_pick [1, 2, 0] rfl (ih _ _ h K)
def L_X9_layAll_33 (q0 : Nat) : Nat → Int32 → pr_M → Option ((Unit) × pr_M)
  | 0, _, _ => none
  | n + 1, x2, f =>
    if 5 ≤ x2 then (
      some ((), f)
    ) else (
      pr_bd (L_X9_layAll_40 q0 x2 pr_fuel 0 f) fun v34002 f34003 =>
      L_X9_layAll_33 q0 n (x2 + 1) f34003
    )
set_option maxHeartbeats 4000000 in
set_option maxRecDepth 100000 in
theorem l_X9_layAll_33 {l : Launch} {e : pr_E0} {Y : pr_Y} {c0 : Cond} {q0 : Nat} {z : Unit} {g : pr_M} (C : pr_C (pr_EM l e) Y { frames := 2, cells := 0, slots := 0, locals := 44 } cX9_layAll RX9 4 c0) (hq0 : pr_LM[q0]? = some (9, 0)) : ∀ (n : Nat) (x2 : Int32) (f : pr_M), L_X9_layAll_33 q0 n x2 f = some (z, g) → pr_W (pr_EM l e) Y { frames := 2, cells := 0, slots := 0, locals := 44 } 4 g 68 [] [] → pr_W (pr_EM l e) Y { frames := 2, cells := 0, slots := 0, locals := 44 } 4 f 33 [(0, .ref (pr_ad (pr_EM l e) q0)), (2, .int x2)] [] := by
  intro n
  induction n with
  | zero =>
    intro x2 f h
    exact absurd h (by simp [L_X9_layAll_33])
  | succ n ih =>
    intro x2 f h K
    rw [L_X9_layAll_33] at h
    refine pr_iload_n C dX9_layAll_33 rfl 1 rfl ?_
    refine pr_iconst (v := 5) C dX9_layAll_34 (by decide) ?_
    refine pr_icmp_ge (tgt := 68) C dX9_layAll_35 (by decide) (fun c34001 => ?_) (fun c34001 => ?_)
    · have h := pr_ifT h c34001
      obtain ⟨rfl, rfl⟩ := pr_inj h
      exact pr_pick [] rfl K
    · have h := pr_ifF h c34001
      refine pr_iconst (v := 0) C dX9_layAll_38 (by decide) ?_
      refine pr_istore_n (lv' := [(3, .int 0), (0, .ref (pr_ad (pr_EM l e) q0)), (2, .int x2)]) C dX9_layAll_39 rfl (by decide) rfl ?_
      obtain ⟨v34002, f34003, hv, h⟩ := pr_bd_some h
      refine pr_pick [1, 2, 0] rfl (l_X9_layAll_40 C hq0 pr_fuel _ _ hv ?_)
      clear hv
      refine pr_iinc (v := (x2 + 1)) (lv' := [(2, .int (x2 + 1)), (0, .ref (pr_ad (pr_EM l e) q0))]) C dX9_layAll_62 1 rfl rfl (by decide) rfl ?_
      refine pr_goto (tgt := 33) C dX9_layAll_65 (by decide) ?_
      exact pr_pick [1, 0] rfl (ih _ _ h K)
def F_X9_layAll (c : Nat) (p1 : Int32) (f : pr_M) : Option (Unit × pr_M) :=
  pr_bd (L_X9_layAll_2 c p1 pr_fuel 0 f) fun v1 f2 =>
  pr_lt (pr_up f2 (c + 1) (Int32.toNatClampNeg 1766) p1) fun f4 =>
  pr_bd (L_X9_layAll_33 c pr_fuel 0 f4) fun v6 f7 =>
  some ((), f7)
set_option maxHeartbeats 4000000 in
set_option maxRecDepth 100000 in
theorem m_X9_layAll {l : Launch} {e : pr_E0} {c : Nat} {p1 : Int32} {f : pr_M} {r : Unit} {g : pr_M} (hk0 : pr_LM[c]? = some (9, 0)) (h : F_X9_layAll c p1 f = some (r, g)) : pr_Met (pr_EM l e) yX9_layAll cX9_layAll 4 none { frames := 2, cells := 0, slots := 0, locals := 44 } [.ref (pr_ad (pr_EM l e) c), .int p1] f none g := by
  rw [F_X9_layAll] at h
  refine pr_enter (by decide +kernel) (Nat.le_of_ble_eq_true rfl) (fun Y C Z => ?_)
  replace C : pr_C (pr_EM l e) Y { frames := 2, cells := 0, slots := 0, locals := 44 } cX9_layAll RX9 4 _ := C
  show pr_W (pr_EM l e) Y _ 4 f 0 [(0, .ref (pr_ad (pr_EM l e) c)), (1, .int p1)] []
  refine pr_iconst (v := 0) C dX9_layAll_0 (by decide) ?_
  refine pr_istore_n (lv' := [(2, .int 0), (0, .ref (pr_ad (pr_EM l e) c)), (1, .int p1)]) C dX9_layAll_1 rfl (by decide) rfl ?_
  obtain ⟨v1, f2, hv, h⟩ := pr_bd_some h
  refine pr_pick [1, 2, 0] rfl (l_X9_layAll_2 C hk0 pr_fuel _ _ hv ?_)
  clear hv
  refine pr_aload_n C dX9_layAll_22 rfl 0 rfl ?_
  refine pr_g_9_0 C hk0 pr_w476 dX9_layAll_23 ?_
  have hk3 := pr_kM_9_0 hk0
  refine pr_sipush (v := 1766) C dX9_layAll_26 (by decide) ?_
  refine pr_iload_n C dX9_layAll_29 rfl 1 rfl ?_
  refine pr_iastore C hk3 (pr_inlit (by decide +kernel)) dX9_layAll_30 (fun f4 e5 => ?_)
  have h := pr_lt_at h e5
  refine pr_iconst (v := 0) C dX9_layAll_31 (by decide) ?_
  refine pr_istore_n (lv' := [(2, .int 0), (0, .ref (pr_ad (pr_EM l e) c)), (1, .int p1)]) C dX9_layAll_32 rfl (by decide) rfl ?_
  obtain ⟨v6, f7, hv, h⟩ := pr_bd_some h
  refine pr_pick [1, 0] rfl (l_X9_layAll_33 C hk0 pr_fuel _ _ hv ?_)
  clear hv
  obtain ⟨rfl, rfl⟩ := pr_inj h
  exact pr_vret C Z dX9_layAll_68
theorem k_X9_layAll {l : Launch} {e : pr_E0} {Y : pr_Y} {Rm : Room} {cc : ByteArray} {own : String} {nL : Nat} {c0 : Cond} {pc idx : Nat} {lv : List (Nat × Value)} {st : List Value} {c : Nat} {p1 : Int32} {f : pr_M} {r : Unit} {g : pr_M} (C : pr_C (pr_EM l e) Y Rm cc own nL c0) (w1 : Cond.methodLink own idx yX9_layAll ∈ pr_AL) (hk0 : pr_LM[c]? = some (9, 0)) (h : F_X9_layAll c p1 f = some (r, g)) (hr1 : 3 ≤ Rm.frames) (hr2 : 67 ≤ Rm.locals) (hcat : (st.map fun v => v.category).sum ≤ 8) (hdg : decode cc pc = .ok (.invokevirtual idx, 3)) (k : pr_W (pr_EM l e) Y Rm nL g (pc + 3) lv (st)) : pr_W (pr_EM l e) Y Rm nL f pc lv (.int p1 :: .ref (pr_ad (pr_EM l e) c) :: st) :=
  pr_callV (As := [.int p1]) (n := 1) C (m_X9_layAll hk0 h) hk0 (by decide) rfl w1 pr_w494 pr_w495 pr_w479 pr_w480 rfl rfl ⟨rfl, by decide +kernel, by decide +kernel, by decide +kernel⟩ rfl ⟨hr1, hr2⟩ rfl hcat hdg k

def F_X9_in (p1 : Int32) (p2 : Int32) (p3 : Int32) (f : pr_M) : Option (Int32) :=
  if p1 < p2 then (
    some 0
  ) else (
    if p3 < p1 then (
      some 0
    ) else (
      some 1
    )
  )
set_option maxHeartbeats 4000000 in
set_option maxRecDepth 100000 in
theorem m_X9_in {l : Launch} {e : pr_E0} {p1 : Int32} {p2 : Int32} {p3 : Int32} {f : pr_M} {r : Int32}  (h : F_X9_in p1 p2 p3 f = some r) : pr_Met (pr_EM l e) yX9_in cX9_in 3 (some .boolean) { frames := 0, cells := 0, slots := 0, locals := 0 } [.int p1, .int p2, .int p3] f (some (.int r)) f := by
  rw [F_X9_in] at h
  refine pr_enter (by decide +kernel) (Nat.le_of_ble_eq_true rfl) (fun Y C Z => ?_)
  replace C : pr_C (pr_EM l e) Y { frames := 0, cells := 0, slots := 0, locals := 0 } cX9_in RX9 3 _ := C
  show pr_W (pr_EM l e) Y _ 3 f 0 [(0, .int p1), (1, .int p2), (2, .int p3)] []
  refine pr_iload_n C dX9_in_0 rfl 0 rfl ?_
  refine pr_iload_n C dX9_in_1 rfl 1 rfl ?_
  refine pr_icmp_lt (tgt := 14) C dX9_in_2 (by decide) (fun c1 => ?_) (fun c1 => ?_)
  · have h := pr_ifT h c1
    refine pr_iconst (v := 0) C dX9_in_14 (by decide) ?_
    obtain rfl := pr_in1 h
    exact pr_zret C (by decide) Z dX9_in_15
  · have h := pr_ifF h c1
    refine pr_iload_n C dX9_in_5 rfl 0 rfl ?_
    refine pr_iload_n C dX9_in_6 rfl 2 rfl ?_
    refine pr_icmp_gt (tgt := 14) C dX9_in_7 (by decide) (fun c2 => ?_) (fun c2 => ?_)
    · have h := pr_ifT h c2
      refine pr_iconst (v := 0) C dX9_in_14 (by decide) ?_
      obtain rfl := pr_in1 h
      exact pr_zret C (by decide) Z dX9_in_15
    · have h := pr_ifF h c2
      refine pr_iconst (v := 1) C dX9_in_10 (by decide) ?_
      refine pr_goto (tgt := 15) C dX9_in_11 (by decide) ?_
      obtain rfl := pr_in1 h
      exact pr_zret C (by decide) Z dX9_in_15
theorem k_X9_in {l : Launch} {e : pr_E0} {Y : pr_Y} {Rm : Room} {cc : ByteArray} {own : String} {nL : Nat} {c0 : Cond} {pc idx : Nat} {lv : List (Nat × Value)} {st : List Value} {p1 : Int32} {p2 : Int32} {p3 : Int32} {f : pr_M} {r : Int32} (C : pr_C (pr_EM l e) Y Rm cc own nL c0) (w1 : Cond.methodLink own idx yX9_in ∈ pr_AL)  (h : F_X9_in p1 p2 p3 f = some r) (hr1 : 1 ≤ Rm.frames) (hr2 : 22 ≤ Rm.locals) (hcat : (st.map fun v => v.category).sum ≤ 8) (hdg : decode cc pc = .ok (.invokestatic idx, 3)) (k : pr_W (pr_EM l e) Y Rm nL f (pc + 3) lv (.int r :: st)) : pr_W (pr_EM l e) Y Rm nL f pc lv (.int p3 :: .int p2 :: .int p1 :: st) :=
  pr_callS (As := [.int p1, .int p2, .int p3]) (n := 3) C (m_X9_in  h) w1 pr_w505 pr_w479 pr_w497 rfl rfl ⟨by decide +kernel, by decide +kernel, by decide +kernel⟩ rfl ⟨hr1, hr2⟩ rfl hcat hdg k

def F_X9_size (p1 : Int32) (f : pr_M) : Option (Int32) :=
  if 0 ≤ p1 then (
    some p1
  ) else (
    some (-p1)
  )
set_option maxHeartbeats 4000000 in
set_option maxRecDepth 100000 in
theorem m_X9_size {l : Launch} {e : pr_E0} {p1 : Int32} {f : pr_M} {r : Int32}  (h : F_X9_size p1 f = some r) : pr_Met (pr_EM l e) yX9_size cX9_size 1 (some .int) { frames := 0, cells := 0, slots := 0, locals := 0 } [.int p1] f (some (.int r)) f := by
  rw [F_X9_size] at h
  refine pr_enter (by decide +kernel) (Nat.le_of_ble_eq_true rfl) (fun Y C Z => ?_)
  replace C : pr_C (pr_EM l e) Y { frames := 0, cells := 0, slots := 0, locals := 0 } cX9_size RX9 1 _ := C
  show pr_W (pr_EM l e) Y _ 1 f 0 [(0, .int p1)] []
  refine pr_iload_n C dX9_size_0 rfl 0 rfl ?_
  refine pr_if_ge (tgt := 9) C dX9_size_1 (by decide) (fun c1 => ?_) (fun c1 => ?_)
  · have h := pr_ifT h c1
    refine pr_iload_n C dX9_size_9 rfl 0 rfl ?_
    obtain rfl := pr_in1 h
    exact pr_iret C Z dX9_size_10
  · have h := pr_ifF h c1
    refine pr_iload_n C dX9_size_4 rfl 0 rfl ?_
    refine pr_ineg C dX9_size_5 ?_
    refine pr_goto (tgt := 10) C dX9_size_6 (by decide) ?_
    obtain rfl := pr_in1 h
    exact pr_iret C Z dX9_size_10
theorem k_X9_size {l : Launch} {e : pr_E0} {Y : pr_Y} {Rm : Room} {cc : ByteArray} {own : String} {nL : Nat} {c0 : Cond} {pc idx : Nat} {lv : List (Nat × Value)} {st : List Value} {p1 : Int32} {f : pr_M} {r : Int32} (C : pr_C (pr_EM l e) Y Rm cc own nL c0) (w1 : Cond.methodLink own idx yX9_size ∈ pr_AL)  (h : F_X9_size p1 f = some r) (hr1 : 1 ≤ Rm.frames) (hr2 : 20 ≤ Rm.locals) (hcat : (st.map fun v => v.category).sum ≤ 8) (hdg : decode cc pc = .ok (.invokestatic idx, 3)) (k : pr_W (pr_EM l e) Y Rm nL f (pc + 3) lv (.int r :: st)) : pr_W (pr_EM l e) Y Rm nL f pc lv (.int p1 :: st) :=
  pr_callS (As := [.int p1]) (n := 1) C (m_X9_size  h) w1 pr_w555 pr_w479 pr_w498 rfl rfl ⟨by decide +kernel, by decide +kernel, by decide +kernel⟩ rfl ⟨hr1, hr2⟩ rfl hcat hdg k

def F_X9_limited (p1 : Int32) (p2 : Int32) (f : pr_M) : Option (Int32) :=
  if p1 ≤ p2 then (
    if (-p2) ≤ p1 then (
      some p1
    ) else (
      some (-p2)
    )
  ) else (
    some p2
  )
set_option maxHeartbeats 4000000 in
set_option maxRecDepth 100000 in
theorem m_X9_limited {l : Launch} {e : pr_E0} {p1 : Int32} {p2 : Int32} {f : pr_M} {r : Int32}  (h : F_X9_limited p1 p2 f = some r) : pr_Met (pr_EM l e) yX9_limited cX9_limited 2 (some .int) { frames := 0, cells := 0, slots := 0, locals := 0 } [.int p1, .int p2] f (some (.int r)) f := by
  rw [F_X9_limited] at h
  refine pr_enter (by decide +kernel) (Nat.le_of_ble_eq_true rfl) (fun Y C Z => ?_)
  replace C : pr_C (pr_EM l e) Y { frames := 0, cells := 0, slots := 0, locals := 0 } cX9_limited RX9 2 _ := C
  show pr_W (pr_EM l e) Y _ 2 f 0 [(0, .int p1), (1, .int p2)] []
  refine pr_iload_n C dX9_limited_0 rfl 0 rfl ?_
  refine pr_iload_n C dX9_limited_1 rfl 1 rfl ?_
  refine pr_icmp_le (tgt := 9) C dX9_limited_2 (by decide) (fun c1 => ?_) (fun c1 => ?_)
  · have h := pr_ifT h c1
    refine pr_iload_n C dX9_limited_9 rfl 0 rfl ?_
    refine pr_iload_n C dX9_limited_10 rfl 1 rfl ?_
    refine pr_ineg C dX9_limited_11 ?_
    refine pr_icmp_ge (tgt := 20) C dX9_limited_12 (by decide) (fun c2 => ?_) (fun c2 => ?_)
    · have h := pr_ifT h c2
      refine pr_iload_n C dX9_limited_20 rfl 0 rfl ?_
      obtain rfl := pr_in1 h
      exact pr_iret C Z dX9_limited_21
    · have h := pr_ifF h c2
      refine pr_iload_n C dX9_limited_15 rfl 1 rfl ?_
      refine pr_ineg C dX9_limited_16 ?_
      refine pr_goto (tgt := 21) C dX9_limited_17 (by decide) ?_
      obtain rfl := pr_in1 h
      exact pr_iret C Z dX9_limited_21
  · have h := pr_ifF h c1
    refine pr_iload_n C dX9_limited_5 rfl 1 rfl ?_
    refine pr_goto (tgt := 21) C dX9_limited_6 (by decide) ?_
    obtain rfl := pr_in1 h
    exact pr_iret C Z dX9_limited_21
theorem k_X9_limited {l : Launch} {e : pr_E0} {Y : pr_Y} {Rm : Room} {cc : ByteArray} {own : String} {nL : Nat} {c0 : Cond} {pc idx : Nat} {lv : List (Nat × Value)} {st : List Value} {p1 : Int32} {p2 : Int32} {f : pr_M} {r : Int32} (C : pr_C (pr_EM l e) Y Rm cc own nL c0) (w1 : Cond.methodLink own idx yX9_limited ∈ pr_AL)  (h : F_X9_limited p1 p2 f = some r) (hr1 : 1 ≤ Rm.frames) (hr2 : 21 ≤ Rm.locals) (hcat : (st.map fun v => v.category).sum ≤ 8) (hdg : decode cc pc = .ok (.invokestatic idx, 3)) (k : pr_W (pr_EM l e) Y Rm nL f (pc + 3) lv (.int r :: st)) : pr_W (pr_EM l e) Y Rm nL f pc lv (.int p2 :: .int p1 :: st) :=
  pr_callS (As := [.int p1, .int p2]) (n := 2) C (m_X9_limited  h) w1 pr_w569 pr_w479 pr_w499 rfl rfl ⟨by decide +kernel, by decide +kernel, by decide +kernel⟩ rfl ⟨hr1, hr2⟩ rfl hcat hdg k

def F_X9_of (c : Nat) (p1 : Int32) (p2 : Int32) (f : pr_M) : Option (Int32) :=
  pr_b1 (F_X9_place p1 p2 f) fun r3 =>
  pr_gd (¬ (r3 < 0 ∨ 1906 ≤ Int32.toNatClampNeg r3)) <|
  some (f (c + 1) (Int32.toNatClampNeg r3))
set_option maxHeartbeats 4000000 in
set_option maxRecDepth 100000 in
theorem m_X9_of {l : Launch} {e : pr_E0} {c : Nat} {p1 : Int32} {p2 : Int32} {f : pr_M} {r : Int32} (hk0 : pr_LM[c]? = some (9, 0)) (h : F_X9_of c p1 p2 f = some r) : pr_Met (pr_EM l e) yX9_of cX9_of 3 (some .int) { frames := 1, cells := 0, slots := 0, locals := 21 } [.ref (pr_ad (pr_EM l e) c), .int p1, .int p2] f (some (.int r)) f := by
  rw [F_X9_of] at h
  refine pr_enter (by decide +kernel) (Nat.le_of_ble_eq_true rfl) (fun Y C Z => ?_)
  replace C : pr_C (pr_EM l e) Y { frames := 1, cells := 0, slots := 0, locals := 21 } cX9_of RX9 3 _ := C
  show pr_W (pr_EM l e) Y _ 3 f 0 [(0, .ref (pr_ad (pr_EM l e) c)), (1, .int p1), (2, .int p2)] []
  refine pr_aload_n C dX9_of_0 rfl 0 rfl ?_
  refine pr_g_9_0 C hk0 pr_w476 dX9_of_1 ?_
  have hk1 := pr_kM_9_0 hk0
  refine pr_iload_n C dX9_of_4 rfl 1 rfl ?_
  refine pr_iload_n C dX9_of_5 rfl 2 rfl ?_
  obtain ⟨r3, hc2, h⟩ := pr_b1_some h
  refine k_X9_place C pr_w477  hc2 (Nat.le_of_ble_eq_true rfl) (Nat.le_of_ble_eq_true rfl) (Nat.le_of_ble_eq_true rfl) dX9_of_6 ?_
  obtain ⟨hg4, h⟩ := pr_gd_some h
  refine pr_iaload C hk1 hg4 dX9_of_9 ?_
  obtain rfl := pr_in1 h
  exact pr_iret C Z dX9_of_10
theorem k_X9_of {l : Launch} {e : pr_E0} {Y : pr_Y} {Rm : Room} {cc : ByteArray} {own : String} {nL : Nat} {c0 : Cond} {pc idx : Nat} {lv : List (Nat × Value)} {st : List Value} {c : Nat} {p1 : Int32} {p2 : Int32} {f : pr_M} {r : Int32} (C : pr_C (pr_EM l e) Y Rm cc own nL c0) (w1 : Cond.methodLink own idx yX9_of ∈ pr_AL) (hk0 : pr_LM[c]? = some (9, 0)) (h : F_X9_of c p1 p2 f = some r) (hr1 : 2 ≤ Rm.frames) (hr2 : 43 ≤ Rm.locals) (hcat : (st.map fun v => v.category).sum ≤ 8) (hdg : decode cc pc = .ok (.invokevirtual idx, 3)) (k : pr_W (pr_EM l e) Y Rm nL f (pc + 3) lv (.int r :: st)) : pr_W (pr_EM l e) Y Rm nL f pc lv (.int p2 :: .int p1 :: .ref (pr_ad (pr_EM l e) c) :: st) :=
  pr_callV (As := [.int p1, .int p2]) (n := 2) C (m_X9_of hk0 h) hk0 (by decide) rfl w1 pr_w508 pr_w509 pr_w479 pr_w500 rfl rfl ⟨rfl, by decide +kernel, by decide +kernel, by decide +kernel⟩ rfl ⟨hr1, hr2⟩ rfl hcat hdg k

def L_X9_putAside_2 (q0 : Nat) : Nat → Int32 → pr_M → Option ((Unit) × pr_M)
  | 0, _, _ => none
  | n + 1, x1, f =>
    if 1906 ≤ x1 then (
      some ((), f)
    ) else (
      pr_gd (¬ (x1 < 0 ∨ 1906 ≤ Int32.toNatClampNeg x1)) <|
      pr_lt (pr_up f (q0 + 2) (Int32.toNatClampNeg x1) (f (q0 + 1) (Int32.toNatClampNeg x1))) fun f3005 =>
      L_X9_putAside_2 q0 n (x1 + 1) f3005
    )
set_option maxHeartbeats 4000000 in
set_option maxRecDepth 100000 in
theorem l_X9_putAside_2 {l : Launch} {e : pr_E0} {Y : pr_Y} {c0 : Cond} {q0 : Nat} {z : Unit} {g : pr_M} (C : pr_C (pr_EM l e) Y { frames := 0, cells := 0, slots := 0, locals := 0 } cX9_putAside RX9 2 c0) (hq0 : pr_LM[q0]? = some (9, 0)) : ∀ (n : Nat) (x1 : Int32) (f : pr_M), L_X9_putAside_2 q0 n x1 f = some (z, g) → pr_W (pr_EM l e) Y { frames := 0, cells := 0, slots := 0, locals := 0 } 2 g 27 [] [] → pr_W (pr_EM l e) Y { frames := 0, cells := 0, slots := 0, locals := 0 } 2 f 2 [(0, .ref (pr_ad (pr_EM l e) q0)), (1, .int x1)] [] := by
  intro n
  induction n with
  | zero =>
    intro x1 f h
    exact absurd h (by simp [L_X9_putAside_2])
  | succ n ih =>
    intro x1 f h K
    rw [L_X9_putAside_2] at h
    refine pr_iload_n C dX9_putAside_2 rfl 1 rfl ?_
    refine pr_sipush (v := 1906) C dX9_putAside_3 (by decide) ?_
    refine pr_icmp_ge (tgt := 27) C dX9_putAside_6 (by decide) (fun c3001 => ?_) (fun c3001 => ?_)
    · have h := pr_ifT h c3001
      obtain ⟨rfl, rfl⟩ := pr_inj h
      exact pr_pick [] rfl K
    · have h := pr_ifF h c3001
      refine pr_aload_n C dX9_putAside_9 rfl 0 rfl ?_
      refine pr_g_9_1 C hq0 pr_w487 dX9_putAside_10 ?_
      have hk3002 := pr_kM_9_1 hq0
      refine pr_iload_n C dX9_putAside_13 rfl 1 rfl ?_
      refine pr_aload_n C dX9_putAside_14 rfl 0 rfl ?_
      refine pr_g_9_0 C hq0 pr_w476 dX9_putAside_15 ?_
      have hk3003 := pr_kM_9_0 hq0
      refine pr_iload_n C dX9_putAside_18 rfl 1 rfl ?_
      obtain ⟨hg3004, h⟩ := pr_gd_some h
      refine pr_iaload C hk3003 hg3004 dX9_putAside_19 ?_
      refine pr_iastore C hk3002 hg3004 dX9_putAside_20 (fun f3005 e3006 => ?_)
      have h := pr_lt_at h e3006
      refine pr_iinc (v := (x1 + 1)) (lv' := [(1, .int (x1 + 1)), (0, .ref (pr_ad (pr_EM l e) q0))]) C dX9_putAside_21 1 rfl rfl (by decide) rfl ?_
      refine pr_goto (tgt := 2) C dX9_putAside_24 (by decide) ?_
      exact pr_pick [1, 0] rfl (ih _ _ h K)
def F_X9_putAside (c : Nat) (f : pr_M) : Option (Unit × pr_M) :=
  pr_bd (L_X9_putAside_2 c pr_fuel 0 f) fun v1 f2 =>
  some ((), f2)
set_option maxHeartbeats 4000000 in
set_option maxRecDepth 100000 in
theorem m_X9_putAside {l : Launch} {e : pr_E0} {c : Nat} {f : pr_M} {r : Unit} {g : pr_M} (hk0 : pr_LM[c]? = some (9, 0)) (h : F_X9_putAside c f = some (r, g)) : pr_Met (pr_EM l e) yX9_putAside cX9_putAside 2 none { frames := 0, cells := 0, slots := 0, locals := 0 } [.ref (pr_ad (pr_EM l e) c)] f none g := by
  rw [F_X9_putAside] at h
  refine pr_enter (by decide +kernel) (Nat.le_of_ble_eq_true rfl) (fun Y C Z => ?_)
  replace C : pr_C (pr_EM l e) Y { frames := 0, cells := 0, slots := 0, locals := 0 } cX9_putAside RX9 2 _ := C
  show pr_W (pr_EM l e) Y _ 2 f 0 [(0, .ref (pr_ad (pr_EM l e) c))] []
  refine pr_iconst (v := 0) C dX9_putAside_0 (by decide) ?_
  refine pr_istore_n (lv' := [(1, .int 0), (0, .ref (pr_ad (pr_EM l e) c))]) C dX9_putAside_1 rfl (by decide) rfl ?_
  obtain ⟨v1, f2, hv, h⟩ := pr_bd_some h
  refine pr_pick [1, 0] rfl (l_X9_putAside_2 C hk0 pr_fuel _ _ hv ?_)
  clear hv
  obtain ⟨rfl, rfl⟩ := pr_inj h
  exact pr_vret C Z dX9_putAside_27
theorem k_X9_putAside {l : Launch} {e : pr_E0} {Y : pr_Y} {Rm : Room} {cc : ByteArray} {own : String} {nL : Nat} {c0 : Cond} {pc idx : Nat} {lv : List (Nat × Value)} {st : List Value} {c : Nat} {f : pr_M} {r : Unit} {g : pr_M} (C : pr_C (pr_EM l e) Y Rm cc own nL c0) (w1 : Cond.methodLink own idx yX9_putAside ∈ pr_AL) (hk0 : pr_LM[c]? = some (9, 0)) (h : F_X9_putAside c f = some (r, g)) (hr1 : 1 ≤ Rm.frames) (hr2 : 21 ≤ Rm.locals) (hcat : (st.map fun v => v.category).sum ≤ 8) (hdg : decode cc pc = .ok (.invokevirtual idx, 3)) (k : pr_W (pr_EM l e) Y Rm nL g (pc + 3) lv (st)) : pr_W (pr_EM l e) Y Rm nL f pc lv (.ref (pr_ad (pr_EM l e) c) :: st) :=
  pr_callV (As := []) (n := 0) C (m_X9_putAside hk0 h) hk0 (by decide) rfl w1 pr_w624 pr_w625 pr_w479 pr_w501 rfl rfl ⟨rfl, by decide +kernel, by decide +kernel, by decide +kernel⟩ rfl ⟨hr1, hr2⟩ rfl hcat hdg k

def L_X9_putBack_2 (q0 : Nat) : Nat → Int32 → pr_M → Option ((Unit) × pr_M)
  | 0, _, _ => none
  | n + 1, x1, f =>
    if 1906 ≤ x1 then (
      some ((), f)
    ) else (
      pr_gd (¬ (x1 < 0 ∨ 1906 ≤ Int32.toNatClampNeg x1)) <|
      pr_lt (pr_up f (q0 + 1) (Int32.toNatClampNeg x1) (f (q0 + 2) (Int32.toNatClampNeg x1))) fun f3005 =>
      L_X9_putBack_2 q0 n (x1 + 1) f3005
    )
set_option maxHeartbeats 4000000 in
set_option maxRecDepth 100000 in
theorem l_X9_putBack_2 {l : Launch} {e : pr_E0} {Y : pr_Y} {c0 : Cond} {q0 : Nat} {z : Unit} {g : pr_M} (C : pr_C (pr_EM l e) Y { frames := 0, cells := 0, slots := 0, locals := 0 } cX9_putBack RX9 2 c0) (hq0 : pr_LM[q0]? = some (9, 0)) : ∀ (n : Nat) (x1 : Int32) (f : pr_M), L_X9_putBack_2 q0 n x1 f = some (z, g) → pr_W (pr_EM l e) Y { frames := 0, cells := 0, slots := 0, locals := 0 } 2 g 27 [] [] → pr_W (pr_EM l e) Y { frames := 0, cells := 0, slots := 0, locals := 0 } 2 f 2 [(0, .ref (pr_ad (pr_EM l e) q0)), (1, .int x1)] [] := by
  intro n
  induction n with
  | zero =>
    intro x1 f h
    exact absurd h (by simp [L_X9_putBack_2])
  | succ n ih =>
    intro x1 f h K
    rw [L_X9_putBack_2] at h
    refine pr_iload_n C dX9_putBack_2 rfl 1 rfl ?_
    refine pr_sipush (v := 1906) C dX9_putBack_3 (by decide) ?_
    refine pr_icmp_ge (tgt := 27) C dX9_putBack_6 (by decide) (fun c3001 => ?_) (fun c3001 => ?_)
    · have h := pr_ifT h c3001
      obtain ⟨rfl, rfl⟩ := pr_inj h
      exact pr_pick [] rfl K
    · have h := pr_ifF h c3001
      refine pr_aload_n C dX9_putBack_9 rfl 0 rfl ?_
      refine pr_g_9_0 C hq0 pr_w476 dX9_putBack_10 ?_
      have hk3002 := pr_kM_9_0 hq0
      refine pr_iload_n C dX9_putBack_13 rfl 1 rfl ?_
      refine pr_aload_n C dX9_putBack_14 rfl 0 rfl ?_
      refine pr_g_9_1 C hq0 pr_w487 dX9_putBack_15 ?_
      have hk3003 := pr_kM_9_1 hq0
      refine pr_iload_n C dX9_putBack_18 rfl 1 rfl ?_
      obtain ⟨hg3004, h⟩ := pr_gd_some h
      refine pr_iaload C hk3003 hg3004 dX9_putBack_19 ?_
      refine pr_iastore C hk3002 hg3004 dX9_putBack_20 (fun f3005 e3006 => ?_)
      have h := pr_lt_at h e3006
      refine pr_iinc (v := (x1 + 1)) (lv' := [(1, .int (x1 + 1)), (0, .ref (pr_ad (pr_EM l e) q0))]) C dX9_putBack_21 1 rfl rfl (by decide) rfl ?_
      refine pr_goto (tgt := 2) C dX9_putBack_24 (by decide) ?_
      exact pr_pick [1, 0] rfl (ih _ _ h K)
def F_X9_putBack (c : Nat) (f : pr_M) : Option (Unit × pr_M) :=
  pr_bd (L_X9_putBack_2 c pr_fuel 0 f) fun v1 f2 =>
  some ((), f2)
set_option maxHeartbeats 4000000 in
set_option maxRecDepth 100000 in
theorem m_X9_putBack {l : Launch} {e : pr_E0} {c : Nat} {f : pr_M} {r : Unit} {g : pr_M} (hk0 : pr_LM[c]? = some (9, 0)) (h : F_X9_putBack c f = some (r, g)) : pr_Met (pr_EM l e) yX9_putBack cX9_putBack 2 none { frames := 0, cells := 0, slots := 0, locals := 0 } [.ref (pr_ad (pr_EM l e) c)] f none g := by
  rw [F_X9_putBack] at h
  refine pr_enter (by decide +kernel) (Nat.le_of_ble_eq_true rfl) (fun Y C Z => ?_)
  replace C : pr_C (pr_EM l e) Y { frames := 0, cells := 0, slots := 0, locals := 0 } cX9_putBack RX9 2 _ := C
  show pr_W (pr_EM l e) Y _ 2 f 0 [(0, .ref (pr_ad (pr_EM l e) c))] []
  refine pr_iconst (v := 0) C dX9_putBack_0 (by decide) ?_
  refine pr_istore_n (lv' := [(1, .int 0), (0, .ref (pr_ad (pr_EM l e) c))]) C dX9_putBack_1 rfl (by decide) rfl ?_
  obtain ⟨v1, f2, hv, h⟩ := pr_bd_some h
  refine pr_pick [1, 0] rfl (l_X9_putBack_2 C hk0 pr_fuel _ _ hv ?_)
  clear hv
  obtain ⟨rfl, rfl⟩ := pr_inj h
  exact pr_vret C Z dX9_putBack_27
theorem k_X9_putBack {l : Launch} {e : pr_E0} {Y : pr_Y} {Rm : Room} {cc : ByteArray} {own : String} {nL : Nat} {c0 : Cond} {pc idx : Nat} {lv : List (Nat × Value)} {st : List Value} {c : Nat} {f : pr_M} {r : Unit} {g : pr_M} (C : pr_C (pr_EM l e) Y Rm cc own nL c0) (w1 : Cond.methodLink own idx yX9_putBack ∈ pr_AL) (hk0 : pr_LM[c]? = some (9, 0)) (h : F_X9_putBack c f = some (r, g)) (hr1 : 1 ≤ Rm.frames) (hr2 : 21 ≤ Rm.locals) (hcat : (st.map fun v => v.category).sum ≤ 8) (hdg : decode cc pc = .ok (.invokevirtual idx, 3)) (k : pr_W (pr_EM l e) Y Rm nL g (pc + 3) lv (st)) : pr_W (pr_EM l e) Y Rm nL f pc lv (.ref (pr_ad (pr_EM l e) c) :: st) :=
  pr_callV (As := []) (n := 0) C (m_X9_putBack hk0 h) hk0 (by decide) rfl w1 pr_w630 pr_w631 pr_w479 pr_w502 rfl rfl ⟨rfl, by decide +kernel, by decide +kernel, by decide +kernel⟩ rfl ⟨hr1, hr2⟩ rfl hcat hdg k

def F_X9_isUnit (c : Nat) (p1 : Int32) (f : pr_M) : Option (Int32) :=
  pr_b1 (F_X9_in p1 0 ((f (c + 1) (Int32.toNatClampNeg 1766)) - 1) f) fun r3 =>
  pr_gd (r3 = 0 ∨ r3 = 1) <|
  some r3
set_option maxHeartbeats 4000000 in
set_option maxRecDepth 100000 in
theorem m_X9_isUnit {l : Launch} {e : pr_E0} {c : Nat} {p1 : Int32} {f : pr_M} {r : Int32} (hk0 : pr_LM[c]? = some (9, 0)) (h : F_X9_isUnit c p1 f = some r) : pr_Met (pr_EM l e) yX9_isUnit cX9_isUnit 2 (some .boolean) { frames := 1, cells := 0, slots := 0, locals := 22 } [.ref (pr_ad (pr_EM l e) c), .int p1] f (some (.int r)) f := by
  rw [F_X9_isUnit] at h
  refine pr_enter (by decide +kernel) (Nat.le_of_ble_eq_true rfl) (fun Y C Z => ?_)
  replace C : pr_C (pr_EM l e) Y { frames := 1, cells := 0, slots := 0, locals := 22 } cX9_isUnit RX9 2 _ := C
  show pr_W (pr_EM l e) Y _ 2 f 0 [(0, .ref (pr_ad (pr_EM l e) c)), (1, .int p1)] []
  refine pr_iload_n C dX9_isUnit_0 rfl 1 rfl ?_
  refine pr_iconst (v := 0) C dX9_isUnit_1 (by decide) ?_
  refine pr_aload_n C dX9_isUnit_2 rfl 0 rfl ?_
  refine pr_g_9_0 C hk0 pr_w476 dX9_isUnit_3 ?_
  have hk1 := pr_kM_9_0 hk0
  refine pr_sipush (v := 1766) C dX9_isUnit_6 (by decide) ?_
  refine pr_iaload C hk1 (pr_inlit (by decide +kernel)) dX9_isUnit_9 ?_
  refine pr_iconst (v := 1) C dX9_isUnit_10 (by decide) ?_
  refine pr_isub C dX9_isUnit_11 ?_
  obtain ⟨r3, hc2, h⟩ := pr_b1_some h
  refine k_X9_in C pr_w504  hc2 (Nat.le_of_ble_eq_true rfl) (Nat.le_of_ble_eq_true rfl) (Nat.le_of_ble_eq_true rfl) dX9_isUnit_12 ?_
  obtain ⟨hg4, h⟩ := pr_gd_some h
  obtain rfl := pr_in1 h
  exact pr_zret C (pr_b01 hg4).1 Z dX9_isUnit_15
theorem k_X9_isUnit {l : Launch} {e : pr_E0} {Y : pr_Y} {Rm : Room} {cc : ByteArray} {own : String} {nL : Nat} {c0 : Cond} {pc idx : Nat} {lv : List (Nat × Value)} {st : List Value} {c : Nat} {p1 : Int32} {f : pr_M} {r : Int32} (C : pr_C (pr_EM l e) Y Rm cc own nL c0) (w1 : Cond.methodLink own idx yX9_isUnit ∈ pr_AL) (hk0 : pr_LM[c]? = some (9, 0)) (h : F_X9_isUnit c p1 f = some r) (hr1 : 2 ≤ Rm.frames) (hr2 : 43 ≤ Rm.locals) (hcat : (st.map fun v => v.category).sum ≤ 8) (hdg : decode cc pc = .ok (.invokevirtual idx, 3)) (k : pr_W (pr_EM l e) Y Rm nL f (pc + 3) lv (.int r :: st)) : pr_W (pr_EM l e) Y Rm nL f pc lv (.int p1 :: .ref (pr_ad (pr_EM l e) c) :: st) :=
  pr_callV (As := [.int p1]) (n := 1) C (m_X9_isUnit hk0 h) hk0 (by decide) rfl w1 pr_w516 pr_w517 pr_w479 pr_w503 rfl rfl ⟨rfl, by decide +kernel, by decide +kernel, by decide +kernel⟩ rfl ⟨hr1, hr2⟩ rfl hcat hdg k

def L_X9_way_4 (q0 : Nat) (x1 : Int32) : Nat → Int32 → Int32 → pr_M → Option (Int32)
  | 0, _, _, _ => none
  | n + 1, x2, x3, f =>
    if x1 < x3 then (
      some x2
    ) else (
      pr_b1 (F_X9_of q0 x3 0 f) fun r5003 =>
      L_X9_way_4 q0 x1 n (x2 + r5003) (x3 + 1) f
    )
set_option maxHeartbeats 4000000 in
set_option maxRecDepth 100000 in
theorem l_X9_way_4 {l : Launch} {e : pr_E0} {Y : pr_Y} {c0 : Cond} {q0 : Nat} {x1 : Int32} {z : Int32} (C : pr_C (pr_EM l e) Y { frames := 2, cells := 0, slots := 0, locals := 43 } cX9_way RX9 4 c0) (hq0 : pr_LM[q0]? = some (9, 0)) : ∀ (n : Nat) (x2 : Int32) (x3 : Int32) (f : pr_M), L_X9_way_4 q0 x1 n x2 x3 f = some z → pr_W (pr_EM l e) Y { frames := 2, cells := 0, slots := 0, locals := 43 } 4 f 24 [(2, .int z)] [] → pr_W (pr_EM l e) Y { frames := 2, cells := 0, slots := 0, locals := 43 } 4 f 4 [(0, .ref (pr_ad (pr_EM l e) q0)), (1, .int x1), (2, .int x2), (3, .int x3)] [] := by
  intro n
  induction n with
  | zero =>
    intro x2 x3 f h
    exact absurd h (by simp [L_X9_way_4])
  | succ n ih =>
    intro x2 x3 f h K
    rw [L_X9_way_4] at h
    refine pr_iload_n C dX9_way_4 rfl 3 rfl ?_
    refine pr_iload_n C dX9_way_5 rfl 1 rfl ?_
    refine pr_icmp_gt (tgt := 24) C dX9_way_6 (by decide) (fun c5001 => ?_) (fun c5001 => ?_)
    · have h := pr_ifT h c5001
      obtain rfl := pr_in1 h
      exact pr_pick [2] rfl K
    · have h := pr_ifF h c5001
      refine pr_iload_n C dX9_way_9 rfl 2 rfl ?_
      refine pr_aload_n C dX9_way_10 rfl 0 rfl ?_
      refine pr_iload_n C dX9_way_11 rfl 3 rfl ?_
      refine pr_iconst (v := 0) C dX9_way_12 (by decide) ?_
      obtain ⟨r5003, hc5002, h⟩ := pr_b1_some h
      refine k_X9_of C pr_w507 hq0 hc5002 (Nat.le_of_ble_eq_true rfl) (Nat.le_of_ble_eq_true rfl) (Nat.le_of_ble_eq_true rfl) dX9_way_13 ?_
      refine pr_iadd C dX9_way_16 ?_
      refine pr_istore_n (lv' := [(2, .int (x2 + r5003)), (0, .ref (pr_ad (pr_EM l e) q0)), (1, .int x1), (3, .int x3)]) C dX9_way_17 rfl (by decide) rfl ?_
      refine pr_iinc (v := (x3 + 1)) (lv' := [(3, .int (x3 + 1)), (2, .int (x2 + r5003)), (0, .ref (pr_ad (pr_EM l e) q0)), (1, .int x1)]) C dX9_way_18 3 rfl rfl (by decide) rfl ?_
      refine pr_goto (tgt := 4) C dX9_way_21 (by decide) ?_
      exact pr_pick [2, 3, 1, 0] rfl (ih _ _ _ h K)
def F_X9_way (c : Nat) (p1 : Int32) (f : pr_M) : Option (Int32) :=
  pr_b1 (L_X9_way_4 c p1 pr_fuel 0 1 f) fun v1 =>
  some v1
set_option maxHeartbeats 4000000 in
set_option maxRecDepth 100000 in
theorem m_X9_way {l : Launch} {e : pr_E0} {c : Nat} {p1 : Int32} {f : pr_M} {r : Int32} (hk0 : pr_LM[c]? = some (9, 0)) (h : F_X9_way c p1 f = some r) : pr_Met (pr_EM l e) yX9_way cX9_way 4 (some .int) { frames := 2, cells := 0, slots := 0, locals := 43 } [.ref (pr_ad (pr_EM l e) c), .int p1] f (some (.int r)) f := by
  rw [F_X9_way] at h
  refine pr_enter (by decide +kernel) (Nat.le_of_ble_eq_true rfl) (fun Y C Z => ?_)
  replace C : pr_C (pr_EM l e) Y { frames := 2, cells := 0, slots := 0, locals := 43 } cX9_way RX9 4 _ := C
  show pr_W (pr_EM l e) Y _ 4 f 0 [(0, .ref (pr_ad (pr_EM l e) c)), (1, .int p1)] []
  refine pr_iconst (v := 0) C dX9_way_0 (by decide) ?_
  refine pr_istore_n (lv' := [(2, .int 0), (0, .ref (pr_ad (pr_EM l e) c)), (1, .int p1)]) C dX9_way_1 rfl (by decide) rfl ?_
  refine pr_iconst (v := 1) C dX9_way_2 (by decide) ?_
  refine pr_istore_n (lv' := [(3, .int 1), (2, .int 0), (0, .ref (pr_ad (pr_EM l e) c)), (1, .int p1)]) C dX9_way_3 rfl (by decide) rfl ?_
  obtain ⟨v1, hv, h⟩ := pr_b1_some h
  refine pr_pick [2, 3, 1, 0] rfl (l_X9_way_4 C hk0 pr_fuel _ _ _ hv ?_)
  clear hv
  refine pr_iload_n C dX9_way_24 rfl 0 rfl ?_
  obtain rfl := pr_in1 h
  exact pr_iret C Z dX9_way_25
theorem k_X9_way {l : Launch} {e : pr_E0} {Y : pr_Y} {Rm : Room} {cc : ByteArray} {own : String} {nL : Nat} {c0 : Cond} {pc idx : Nat} {lv : List (Nat × Value)} {st : List Value} {c : Nat} {p1 : Int32} {f : pr_M} {r : Int32} (C : pr_C (pr_EM l e) Y Rm cc own nL c0) (w1 : Cond.methodLink own idx yX9_way ∈ pr_AL) (hk0 : pr_LM[c]? = some (9, 0)) (h : F_X9_way c p1 f = some r) (hr1 : 3 ≤ Rm.frames) (hr2 : 66 ≤ Rm.locals) (hcat : (st.map fun v => v.category).sum ≤ 8) (hdg : decode cc pc = .ok (.invokevirtual idx, 3)) (k : pr_W (pr_EM l e) Y Rm nL f (pc + 3) lv (.int r :: st)) : pr_W (pr_EM l e) Y Rm nL f pc lv (.int p1 :: .ref (pr_ad (pr_EM l e) c) :: st) :=
  pr_callV (As := [.int p1]) (n := 1) C (m_X9_way hk0 h) hk0 (by decide) rfl w1 pr_w537 pr_w538 pr_w479 pr_w506 rfl rfl ⟨rfl, by decide +kernel, by decide +kernel, by decide +kernel⟩ rfl ⟨hr1, hr2⟩ rfl hcat hdg k

def F_X9_setUp (c : Nat) (p1 : Int32) (f : pr_M) : Option (Int32 × pr_M) :=
  pr_b1 (F_X9_in p1 2 5 f) fun r2 =>
  if r2 = 0 then (
    some ((-1000000002), f)
  ) else (
    pr_bd (F_X9_layAll c p1 f) fun u6 f7 =>
    some ((f (c + 1) (Int32.toNatClampNeg 1765)), f7)
  )
set_option maxHeartbeats 4000000 in
set_option maxRecDepth 100000 in
theorem m_X9_setUp {l : Launch} {e : pr_E0} {c : Nat} {p1 : Int32} {f : pr_M} {r : Int32} {g : pr_M} (hk0 : pr_LM[c]? = some (9, 0)) (h : F_X9_setUp c p1 f = some (r, g)) : pr_Met (pr_EM l e) yX9_setUp cX9_setUp 3 (some .int) { frames := 3, cells := 0, slots := 0, locals := 67 } [.ref (pr_ad (pr_EM l e) c), .int p1] f (some (.int r)) g := by
  rw [F_X9_setUp] at h
  refine pr_enter (by decide +kernel) (Nat.le_of_ble_eq_true rfl) (fun Y C Z => ?_)
  replace C : pr_C (pr_EM l e) Y { frames := 3, cells := 0, slots := 0, locals := 67 } cX9_setUp RX9 3 _ := C
  show pr_W (pr_EM l e) Y _ 3 f 0 [(0, .ref (pr_ad (pr_EM l e) c)), (1, .int p1)] []
  refine pr_iload_n C dX9_setUp_0 rfl 1 rfl ?_
  refine pr_iconst (v := 2) C dX9_setUp_1 (by decide) ?_
  refine pr_iconst (v := 5) C dX9_setUp_2 (by decide) ?_
  obtain ⟨r2, hc1, h⟩ := pr_b1_some h
  refine k_X9_in C pr_w504  hc1 (Nat.le_of_ble_eq_true rfl) (Nat.le_of_ble_eq_true rfl) (Nat.le_of_ble_eq_true rfl) dX9_setUp_3 ?_
  refine pr_if_ne (tgt := 12) C dX9_setUp_6 (by decide) (fun c3 => ?_) (fun c3 => ?_)
  · have h := pr_ifF h c3
    refine pr_aload_n C dX9_setUp_12 rfl 0 rfl ?_
    refine pr_g_9_0 C hk0 pr_w476 dX9_setUp_13 ?_
    have hk4 := pr_kM_9_0 hk0
    refine pr_sipush (v := 1765) C dX9_setUp_16 (by decide) ?_
    refine pr_iaload C hk4 (pr_inlit (by decide +kernel)) dX9_setUp_19 ?_
    refine pr_istore_n (lv' := [(2, .int (f (c + 1) (Int32.toNatClampNeg 1765))), (0, .ref (pr_ad (pr_EM l e) c)), (1, .int p1)]) C dX9_setUp_20 rfl (by decide) rfl ?_
    refine pr_aload_n C dX9_setUp_21 rfl 1 rfl ?_
    refine pr_iload_n C dX9_setUp_22 rfl 2 rfl ?_
    obtain ⟨u6, f7, hc5, h⟩ := pr_bd_some h
    refine k_X9_layAll C pr_w493 hk0 hc5 (Nat.le_of_ble_eq_true rfl) (Nat.le_of_ble_eq_true rfl) (Nat.le_of_ble_eq_true rfl) dX9_setUp_23 ?_
    refine pr_iload_n C dX9_setUp_26 rfl 0 rfl ?_
    obtain ⟨rfl, rfl⟩ := pr_inj h
    exact pr_iret C Z dX9_setUp_27
  · have h := pr_ifT h c3
    refine pr_ldc (v := (-1000000002)) C dX9_setUp_9 pr_w511 ?_
    obtain ⟨rfl, rfl⟩ := pr_inj h
    exact pr_iret C Z dX9_setUp_11
