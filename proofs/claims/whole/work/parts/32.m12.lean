def L_X9_save_14 (q0 : Nat) (x1 : Int32) : Nat → Int32 → pr_M → Option ((Unit) × pr_M)
  | 0, _, _ => none
  | n + 1, x2, f =>
    if 1906 ≤ x2 then (
      some ((), f)
    ) else (
      pr_gd (¬ (x2 < 0 ∨ 1906 ≤ Int32.toNatClampNeg x2)) <|
      pr_gd (¬ (((1906 * x1) + x2) < 0 ∨ 3812 ≤ Int32.toNatClampNeg ((1906 * x1) + x2))) <|
      pr_lt (pr_up f (q0 + 3) (Int32.toNatClampNeg ((1906 * x1) + x2)) (f (q0 + 1) (Int32.toNatClampNeg x2))) fun f15006 =>
      L_X9_save_14 q0 x1 n (x2 + 1) f15006
    )
set_option maxHeartbeats 4000000 in
set_option maxRecDepth 100000 in
theorem l_X9_save_14 {l : Launch} {e : pr_E0} {Y : pr_Y} {c0 : Cond} {q0 : Nat} {x1 : Int32} {z : Unit} {g : pr_M} (C : pr_C (pr_EM l e) Y { frames := 1, cells := 0, slots := 0, locals := 22 } cX9_save RX9 3 c0) (hq0 : pr_LM[q0]? = some (9, 0)) : ∀ (n : Nat) (x2 : Int32) (f : pr_M), L_X9_save_14 q0 x1 n x2 f = some (z, g) → pr_W (pr_EM l e) Y { frames := 1, cells := 0, slots := 0, locals := 22 } 3 g 45 [(0, .ref (pr_ad (pr_EM l e) q0)), (1, .int x1)] [] → pr_W (pr_EM l e) Y { frames := 1, cells := 0, slots := 0, locals := 22 } 3 f 14 [(0, .ref (pr_ad (pr_EM l e) q0)), (1, .int x1), (2, .int x2)] [] := by
  intro n
  induction n with
  | zero =>
    intro x2 f h
    exact absurd h (by simp [L_X9_save_14])
  | succ n ih =>
    intro x2 f h K
    rw [L_X9_save_14] at h
    refine pr_iload_n C dX9_save_14 rfl 2 rfl ?_
    refine pr_sipush (v := 1906) C dX9_save_15 (by decide) ?_
    refine pr_icmp_ge (tgt := 45) C dX9_save_18 (by decide) (fun c15001 => ?_) (fun c15001 => ?_)
    · have h := pr_ifT h c15001
      obtain ⟨rfl, rfl⟩ := pr_inj h
      exact pr_pick [0, 1] rfl K
    · have h := pr_ifF h c15001
      refine pr_aload_n C dX9_save_21 rfl 0 rfl ?_
      refine pr_g_9_2 C hq0 pr_w488 dX9_save_22 ?_
      have hk15002 := pr_kM_9_2 hq0
      refine pr_sipush (v := 1906) C dX9_save_25 (by decide) ?_
      refine pr_iload_n C dX9_save_28 rfl 1 rfl ?_
      refine pr_imul C dX9_save_29 ?_
      refine pr_iload_n C dX9_save_30 rfl 2 rfl ?_
      refine pr_iadd C dX9_save_31 ?_
      refine pr_aload_n C dX9_save_32 rfl 0 rfl ?_
      refine pr_g_9_0 C hq0 pr_w476 dX9_save_33 ?_
      have hk15003 := pr_kM_9_0 hq0
      refine pr_iload_n C dX9_save_36 rfl 2 rfl ?_
      obtain ⟨hg15004, h⟩ := pr_gd_some h
      refine pr_iaload C hk15003 hg15004 dX9_save_37 ?_
      obtain ⟨hg15005, h⟩ := pr_gd_some h
      refine pr_iastore C hk15002 hg15005 dX9_save_38 (fun f15006 e15007 => ?_)
      have h := pr_lt_at h e15007
      refine pr_iinc (v := (x2 + 1)) (lv' := [(2, .int (x2 + 1)), (0, .ref (pr_ad (pr_EM l e) q0)), (1, .int x1)]) C dX9_save_39 2 rfl rfl (by decide) rfl ?_
      refine pr_goto (tgt := 14) C dX9_save_42 (by decide) ?_
      exact pr_pick [1, 2, 0] rfl (ih _ _ h K)
def F_X9_save (c : Nat) (p1 : Int32) (f : pr_M) : Option (Int32 × pr_M) :=
  pr_b1 (F_X9_in p1 0 1 f) fun r2 =>
  if r2 = 0 then (
    some ((-1000000002), f)
  ) else (
    pr_bd (L_X9_save_14 c p1 pr_fuel 0 f) fun v4 f5 =>
    pr_gd (¬ (p1 < 0 ∨ 2 ≤ Int32.toNatClampNeg p1)) <|
    pr_lt (pr_up f5 (c + 4) (Int32.toNatClampNeg p1) 1) fun f8 =>
    some ((f8 (c + 1) (Int32.toNatClampNeg 1765)), f8)
  )
set_option maxHeartbeats 4000000 in
set_option maxRecDepth 100000 in
theorem m_X9_save {l : Launch} {e : pr_E0} {c : Nat} {p1 : Int32} {f : pr_M} {r : Int32} {g : pr_M} (hk0 : pr_LM[c]? = some (9, 0)) (h : F_X9_save c p1 f = some (r, g)) : pr_Met (pr_EM l e) yX9_save cX9_save 3 (some .int) { frames := 1, cells := 0, slots := 0, locals := 22 } [.ref (pr_ad (pr_EM l e) c), .int p1] f (some (.int r)) g := by
  rw [F_X9_save] at h
  refine pr_enter (by decide +kernel) (Nat.le_of_ble_eq_true rfl) (fun Y C Z => ?_)
  replace C : pr_C (pr_EM l e) Y { frames := 1, cells := 0, slots := 0, locals := 22 } cX9_save RX9 3 _ := C
  show pr_W (pr_EM l e) Y _ 3 f 0 [(0, .ref (pr_ad (pr_EM l e) c)), (1, .int p1)] []
  refine pr_iload_n C dX9_save_0 rfl 1 rfl ?_
  refine pr_iconst (v := 0) C dX9_save_1 (by decide) ?_
  refine pr_iconst (v := 1) C dX9_save_2 (by decide) ?_
  obtain ⟨r2, hc1, h⟩ := pr_b1_some h
  refine k_X9_in C pr_w504  hc1 (Nat.le_of_ble_eq_true rfl) (Nat.le_of_ble_eq_true rfl) (Nat.le_of_ble_eq_true rfl) dX9_save_3 ?_
  refine pr_if_ne (tgt := 12) C dX9_save_6 (by decide) (fun c3 => ?_) (fun c3 => ?_)
  · have h := pr_ifF h c3
    refine pr_iconst (v := 0) C dX9_save_12 (by decide) ?_
    refine pr_istore_n (lv' := [(2, .int 0), (0, .ref (pr_ad (pr_EM l e) c)), (1, .int p1)]) C dX9_save_13 rfl (by decide) rfl ?_
    obtain ⟨v4, f5, hv, h⟩ := pr_bd_some h
    refine pr_pick [1, 2, 0] rfl (l_X9_save_14 C hk0 pr_fuel _ _ hv ?_)
    clear hv
    refine pr_aload_n C dX9_save_45 rfl 0 rfl ?_
    refine pr_g_9_3 C hk0 pr_w490 dX9_save_46 ?_
    have hk6 := pr_kM_9_3 hk0
    refine pr_iload_n C dX9_save_49 rfl 1 rfl ?_
    refine pr_iconst (v := 1) C dX9_save_50 (by decide) ?_
    obtain ⟨hg7, h⟩ := pr_gd_some h
    refine pr_zastore C hk6 hg7 (by decide) dX9_save_51 (fun f8 e9 => ?_)
    have h := pr_lt_at h e9
    refine pr_aload_n C dX9_save_52 rfl 0 rfl ?_
    refine pr_g_9_0 C hk0 pr_w476 dX9_save_53 ?_
    have hk10 := pr_kM_9_0 hk0
    refine pr_sipush (v := 1765) C dX9_save_56 (by decide) ?_
    refine pr_iaload C hk10 (pr_inlit (by decide +kernel)) dX9_save_59 ?_
    obtain ⟨rfl, rfl⟩ := pr_inj h
    exact pr_iret C Z dX9_save_60
  · have h := pr_ifT h c3
    refine pr_ldc (v := (-1000000002)) C dX9_save_9 pr_w511 ?_
    obtain ⟨rfl, rfl⟩ := pr_inj h
    exact pr_iret C Z dX9_save_11

def L_X9_restore_26 (q0 : Nat) (x1 : Int32) : Nat → Int32 → pr_M → Option ((Unit) × pr_M)
  | 0, _, _ => none
  | n + 1, x2, f =>
    if 1906 ≤ x2 then (
      some ((), f)
    ) else (
      pr_gd (¬ (((1906 * x1) + x2) < 0 ∨ 3812 ≤ Int32.toNatClampNeg ((1906 * x1) + x2))) <|
      pr_gd (¬ (x2 < 0 ∨ 1906 ≤ Int32.toNatClampNeg x2)) <|
      pr_lt (pr_up f (q0 + 1) (Int32.toNatClampNeg x2) (f (q0 + 3) (Int32.toNatClampNeg ((1906 * x1) + x2)))) fun f27006 =>
      L_X9_restore_26 q0 x1 n (x2 + 1) f27006
    )
set_option maxHeartbeats 4000000 in
set_option maxRecDepth 100000 in
theorem l_X9_restore_26 {l : Launch} {e : pr_E0} {Y : pr_Y} {c0 : Cond} {q0 : Nat} {x1 : Int32} {z : Unit} {g : pr_M} (C : pr_C (pr_EM l e) Y { frames := 1, cells := 0, slots := 0, locals := 22 } cX9_restore RX9 3 c0) (hq0 : pr_LM[q0]? = some (9, 0)) : ∀ (n : Nat) (x2 : Int32) (f : pr_M), L_X9_restore_26 q0 x1 n x2 f = some (z, g) → pr_W (pr_EM l e) Y { frames := 1, cells := 0, slots := 0, locals := 22 } 3 g 57 [(0, .ref (pr_ad (pr_EM l e) q0))] [] → pr_W (pr_EM l e) Y { frames := 1, cells := 0, slots := 0, locals := 22 } 3 f 26 [(0, .ref (pr_ad (pr_EM l e) q0)), (1, .int x1), (2, .int x2)] [] := by
  intro n
  induction n with
  | zero =>
    intro x2 f h
    exact absurd h (by simp [L_X9_restore_26])
  | succ n ih =>
    intro x2 f h K
    rw [L_X9_restore_26] at h
    refine pr_iload_n C dX9_restore_26 rfl 2 rfl ?_
    refine pr_sipush (v := 1906) C dX9_restore_27 (by decide) ?_
    refine pr_icmp_ge (tgt := 57) C dX9_restore_30 (by decide) (fun c27001 => ?_) (fun c27001 => ?_)
    · have h := pr_ifT h c27001
      obtain ⟨rfl, rfl⟩ := pr_inj h
      exact pr_pick [0] rfl K
    · have h := pr_ifF h c27001
      refine pr_aload_n C dX9_restore_33 rfl 0 rfl ?_
      refine pr_g_9_0 C hq0 pr_w476 dX9_restore_34 ?_
      have hk27002 := pr_kM_9_0 hq0
      refine pr_iload_n C dX9_restore_37 rfl 2 rfl ?_
      refine pr_aload_n C dX9_restore_38 rfl 0 rfl ?_
      refine pr_g_9_2 C hq0 pr_w488 dX9_restore_39 ?_
      have hk27003 := pr_kM_9_2 hq0
      refine pr_sipush (v := 1906) C dX9_restore_42 (by decide) ?_
      refine pr_iload_n C dX9_restore_45 rfl 1 rfl ?_
      refine pr_imul C dX9_restore_46 ?_
      refine pr_iload_n C dX9_restore_47 rfl 2 rfl ?_
      refine pr_iadd C dX9_restore_48 ?_
      obtain ⟨hg27004, h⟩ := pr_gd_some h
      refine pr_iaload C hk27003 hg27004 dX9_restore_49 ?_
      obtain ⟨hg27005, h⟩ := pr_gd_some h
      refine pr_iastore C hk27002 hg27005 dX9_restore_50 (fun f27006 e27007 => ?_)
      have h := pr_lt_at h e27007
      refine pr_iinc (v := (x2 + 1)) (lv' := [(2, .int (x2 + 1)), (0, .ref (pr_ad (pr_EM l e) q0)), (1, .int x1)]) C dX9_restore_51 2 rfl rfl (by decide) rfl ?_
      refine pr_goto (tgt := 26) C dX9_restore_54 (by decide) ?_
      exact pr_pick [1, 2, 0] rfl (ih _ _ h K)
def F_X9_restore (c : Nat) (p1 : Int32) (f : pr_M) : Option (Int32 × pr_M) :=
  pr_b1 (F_X9_in p1 0 1 f) fun r2 =>
  if r2 = 0 then (
    some ((-1000000002), f)
  ) else (
    pr_gd (¬ (p1 < 0 ∨ 2 ≤ Int32.toNatClampNeg p1)) <|
    if (f (c + 4) (Int32.toNatClampNeg p1)) = 0 then (
      some ((-1000000005), f)
    ) else (
      pr_bd (L_X9_restore_26 c p1 pr_fuel 0 f) fun v7 f8 =>
      some ((f8 (c + 1) (Int32.toNatClampNeg 1765)), f8)
    )
  )
set_option maxHeartbeats 4000000 in
set_option maxRecDepth 100000 in
theorem m_X9_restore {l : Launch} {e : pr_E0} {c : Nat} {p1 : Int32} {f : pr_M} {r : Int32} {g : pr_M} (hk0 : pr_LM[c]? = some (9, 0)) (h : F_X9_restore c p1 f = some (r, g)) : pr_Met (pr_EM l e) yX9_restore cX9_restore 3 (some .int) { frames := 1, cells := 0, slots := 0, locals := 22 } [.ref (pr_ad (pr_EM l e) c), .int p1] f (some (.int r)) g := by
  rw [F_X9_restore] at h
  refine pr_enter (by decide +kernel) (Nat.le_of_ble_eq_true rfl) (fun Y C Z => ?_)
  replace C : pr_C (pr_EM l e) Y { frames := 1, cells := 0, slots := 0, locals := 22 } cX9_restore RX9 3 _ := C
  show pr_W (pr_EM l e) Y _ 3 f 0 [(0, .ref (pr_ad (pr_EM l e) c)), (1, .int p1)] []
  refine pr_iload_n C dX9_restore_0 rfl 1 rfl ?_
  refine pr_iconst (v := 0) C dX9_restore_1 (by decide) ?_
  refine pr_iconst (v := 1) C dX9_restore_2 (by decide) ?_
  obtain ⟨r2, hc1, h⟩ := pr_b1_some h
  refine k_X9_in C pr_w504  hc1 (Nat.le_of_ble_eq_true rfl) (Nat.le_of_ble_eq_true rfl) (Nat.le_of_ble_eq_true rfl) dX9_restore_3 ?_
  refine pr_if_ne (tgt := 12) C dX9_restore_6 (by decide) (fun c3 => ?_) (fun c3 => ?_)
  · have h := pr_ifF h c3
    refine pr_aload_n C dX9_restore_12 rfl 0 rfl ?_
    refine pr_g_9_3 C hk0 pr_w490 dX9_restore_13 ?_
    have hk4 := pr_kM_9_3 hk0
    refine pr_iload_n C dX9_restore_16 rfl 1 rfl ?_
    obtain ⟨hg5, h⟩ := pr_gd_some h
    refine pr_zaload C hk4 hg5 dX9_restore_17 ?_
    refine pr_if_ne (tgt := 24) C dX9_restore_18 (by decide) (fun c6 => ?_) (fun c6 => ?_)
    · have h := pr_ifF h c6
      refine pr_iconst (v := 0) C dX9_restore_24 (by decide) ?_
      refine pr_istore_n (lv' := [(2, .int 0), (0, .ref (pr_ad (pr_EM l e) c)), (1, .int p1)]) C dX9_restore_25 rfl (by decide) rfl ?_
      obtain ⟨v7, f8, hv, h⟩ := pr_bd_some h
      refine pr_pick [1, 2, 0] rfl (l_X9_restore_26 C hk0 pr_fuel _ _ hv ?_)
      clear hv
      refine pr_aload_n C dX9_restore_57 rfl 0 rfl ?_
      refine pr_g_9_0 C hk0 pr_w476 dX9_restore_58 ?_
      have hk9 := pr_kM_9_0 hk0
      refine pr_sipush (v := 1765) C dX9_restore_61 (by decide) ?_
      refine pr_iaload C hk9 (pr_inlit (by decide +kernel)) dX9_restore_64 ?_
      obtain ⟨rfl, rfl⟩ := pr_inj h
      exact pr_iret C Z dX9_restore_65
    · have h := pr_ifT h c6
      refine pr_ldc (v := (-1000000005)) C dX9_restore_21 pr_w514 ?_
      obtain ⟨rfl, rfl⟩ := pr_inj h
      exact pr_iret C Z dX9_restore_23
  · have h := pr_ifT h c3
    refine pr_ldc (v := (-1000000002)) C dX9_restore_9 pr_w511 ?_
    obtain ⟨rfl, rfl⟩ := pr_inj h
    exact pr_iret C Z dX9_restore_11
