/-! ===== the press' constructor ===== -/
abbrev pr_LU : List (Nat × Nat) := [(7, 0), (10, 11), (4, 0), (10, 128), (10, 128), (0, 0), (5, 0), (1, 0), (10, 64)]
def pr_lx : Nat → List (Nat × Nat)
  | 0 => [(10, 128), (10, 6)]
  | i + 1 => pr_lx i ++ pr_LU
theorem lx_len : ∀ i, (pr_lx i).length = 2 + 9 * i
  | 0 => rfl
  | i + 1 => by rw [pr_lx, List.length_append, lx_len i]; show 2 + 9 * i + 9 = _; omega
theorem lx_cl {i : Nat} (h : i ≤ 5) : pr_cl (pr_lx i) := by
  unfold pr_cl
  rcases (show i = 0 ∨ i = 1 ∨ i = 2 ∨ i = 3 ∨ i = 4 ∨ i = 5 by omega) with rfl | rfl | rfl | rfl | rfl | rfl <;> decide +kernel
abbrev x3_fs (q0 q1 q2 : Nat) : List Value := [.ref q0, .ref q1, .ref q2, .int 0, .int 0, .int 0, .int 0, .int 0, .int 0, .int 0]
def x3_F (ad : Nat → Nat) (i : Nat) : Nat → Option Nat := fun j => if j < i then some (ad (2 + 9 * j)) else none
def x3_W (T : pr_T) (X : va_W) (o q0 q1 q2 i : Nat) (ad : Nat → Nat) : va_W := X ++ (o, .inr (3, x3_fs q0 q1 q2)) :: (q0, .inl (T.2.2, 5, .inr (.inr (.inr (.inr (x3_F ad i)))))) :: pr_mg T (pr_lx i) ad
abbrev x3_rm : Room := { frames := 4, cells := 48, slots := 1959, locals := 81 }
theorem x3_loop {l : Launch} {D : va_G} {T : pr_T} {B : Nat} {sc : pr_SC} {Y : pr_Y} {X : va_W} {o q0 q1 q2 : Nat} {c0 : Cond} (C : pr_C (pr_EG l D T B sc) Y x3_rm cX3_init RX3 2 c0) (hO : va_AO "PrintRegister$Unit" (pr_ys Y)) (Z1 : (pr_yh Y).sig.returnType = none)
    (ZQ : pr_yQ Y = MQ (pr_yb Y) (pr_GQ D T B X o ((3, 0) :: (12, 5) :: pr_lx 5)) (pr_ya Y) (pr_ys Y) 48 1959 (fun q => B ≤ q)) : ∀ (m i : Nat) (ad : Nat → Nat), i + m = 5 → ad 0 = q1 → ad 1 = q2 → pr_G (pr_EG l D T B sc) Y x3_rm 2 (x3_W T X o q0 q1 q2 i ad) (3 + 9 * i) (139 + 364 * i) 31 [(1, .int (nI i)), (0, .ref o)] []
  | 0, i, ad, hi, h1, h2 => by
    obtain rfl : i = 5 := by omega
    refine g_iload_n C dX3_init_31 rfl 0 rfl ?_
    refine g_iconst C (v := 5) dX3_init_32 rfl ?_
    refine g_icmp_ge C (tgt := 55) dX3_init_33 rfl (fun _ => ?_) (fun c => absurd (show (5 : Int32) ≤ nI 5 by decide) c)
    have e : x3_W T X o q0 q1 q2 5 ad = X ++ pr_mg T ((3, 0) :: (12, 5) :: pr_lx 5) (pr_gl 1 (fun _ => o) (pr_gl 1 (fun _ => q0) ad)) := by
      have e1 : x3_F ad 5 = fun i => if i < 5 then some (pr_gl 1 (fun _ => q0) ad (0 + 3 + 9 * i)) else none := by
        funext i
        unfold x3_F
        by_cases c : i < 5
        · rw [if_pos c, if_pos c, show 0 + 3 + 9 * i = 1 + (2 + 9 * i) by omega, gl_2]
        · rw [if_neg c, if_neg c]
      unfold x3_W
      rw [e1, ← mg_cons (T := T) (L := (12, 5) :: pr_lx 5) (ad := pr_gl 1 (fun _ => q0) ad) (o := o) (K := 3) (z := 0) (fs := x3_fs q0 q1 q2) (by decide) (by simp [pr_fs, pr_fv, pr_sh, pr_gl, h1, h2]), ← mg_conk]
      rfl
    rw [e]
    exact g_ret C Z1 ZQ (gl_1 (by decide)) dX3_init_55
  | m + 1, i, ad, hi, h1, h2 => by
    refine g_iload_n C dX3_init_31 rfl 0 rfl ?_
    refine g_iconst C (v := 5) dX3_init_32 rfl ?_
    refine g_icmp_ge C (tgt := 55) dX3_init_33 rfl (fun c => absurd c (show ¬ (5 : Int32) ≤ nI i from nI_ge (b := 5) (by omega) (by decide))) (fun _ => ?_)
    refine g_aload_n C dX3_init_36 rfl 1 rfl ?_
    refine g_getF C (rfl : pr_CL[3]? = some (RX3, TX3, 10)) pr_uw3 (j := 0) (by decide) pr_w80 rfl (v := .ref q0) rfl dX3_init_37 ?_
    refine g_iload_n C dX3_init_40 rfl 0 rfl ?_
    refine g_new C (rfl : pr_CL[7]? = some (RX7, TX7, 4)) pr_uw7 tyX7_ok (by decide +kernel) pr_w79 pr_w83 pr_w84 (by show 3 + 9 * i + 1 ≤ 48; omega) (by show 139 + 364 * i + 4 ≤ 1959; omega) dX3_init_41 fun u => ?_
    refine g_dup C dX3_init_44 rfl ?_
    refine g_callN C hO (i_X7 _ u) pr_nm0 pr_w85 pr_w84 pr_w77 rfl rfl rfl ⟨by decide +kernel, by decide +kernel, by decide +kernel⟩ ⟨Nat.le_of_ble_eq_true rfl, Nat.le_of_ble_eq_true rfl⟩ (by show 3 + 9 * i + 1 + 8 ≤ 48; omega) (by show 139 + 364 * i + 4 + 360 ≤ 1959; omega) (Nat.le_of_ble_eq_true rfl) dX3_init_45 fun ad2 hu => ?_
    have hl := lx_len i
    have eW : (X ++ (o, (.inr (3, x3_fs q0 q1 q2) : va_E)) :: (q0, (.inl (T.2.2, 5, .inr (.inr (.inr (.inr (x3_F ad i))))) : va_E)) :: pr_mg T (pr_lx i) ad) ++ pr_mg T [(7, 0), (10, 11), (4, 0), (10, 128), (10, 128), (0, 0), (5, 0), (1, 0), (10, 64)] ad2 = (X ++ [(o, .inr (3, x3_fs q0 q1 q2))]) ++ (q0, .inl (T.2.2, 5, .inr (.inr (.inr (.inr (x3_F ad i)))))) :: pr_mg T (pr_lx (i + 1)) (pr_gl (pr_lx i).length ad ad2) := by
      rw [show pr_lx (i + 1) = pr_lx i ++ pr_LU from rfl, ← mg_app (lx_cl (by omega))]
      simp [List.append_assoc]
    have hu2 : pr_gl (pr_lx i).length ad ad2 (2 + 9 * i) = u := by
      rw [show 2 + 9 * i = (pr_lx i).length + 0 by omega, gl_2, hu]
    rw [eW]
    refine g_astq C (q0 := (X ++ [(o, (.inr (3, x3_fs q0 q1 q2) : va_E))]).length) (qk := (X ++ [(o, (.inr (3, x3_fs q0 q1 q2) : va_E))]).length + (2 + 9 * i + 1)) (vs := pr_fs (pr_gl (pr_lx i).length ad ad2) pr_f0 (2 + 9 * i) 0 (pr_sh 7)) ls_at ?_ (i := nI i) ?_ dX3_init_48 ?_
    · rw [List.getElem?_append_right (by omega), Nat.add_sub_cancel_left, List.getElem?_cons_succ, mg_at (by rw [lx_len]; omega), hu2]
      have e : (pr_lx (i + 1)).getD (2 + 9 * i) (0, 0) = (7, 0) := by
        rw [show pr_lx (i + 1) = pr_lx i ++ pr_LU from rfl, List.getD_eq_getElem?_getD, List.getElem?_append_right (by omega), hl, Nat.sub_self]
        rfl
      rw [e]
      rfl
    · exact nI_in (by omega) (by decide)
    · rw [ls_set, nI_clamp (show i < 2 ^ 31 by omega)]
      have eF : va_up (x3_F ad i) i (some u) = x3_F (pr_gl (pr_lx i).length ad ad2) (i + 1) := by
        funext j
        unfold va_up x3_F
        by_cases c : j = i
        · subst c
          rw [if_pos rfl, if_pos (by omega), hu2]
        · rw [if_neg c]
          by_cases c2 : j < i
          · rw [if_pos c2, if_pos (by omega), gl_1 (by omega)]
          · rw [if_neg c2, if_neg (by omega)]
      have eV : (X ++ [(o, (.inr (3, x3_fs q0 q1 q2) : va_E))]) ++ (q0, (.inl (T.2.2, 5, .inr (.inr (.inr (.inr (va_up (x3_F ad i) i (some u)))))) : va_E)) :: pr_mg T (pr_lx (i + 1)) (pr_gl (pr_lx i).length ad ad2) = x3_W T X o q0 q1 q2 (i + 1) (pr_gl (pr_lx i).length ad ad2) := by
        unfold x3_W
        rw [eF]
        simp [List.append_assoc]
      rw [show ((X ++ [(o, (.inr (3, x3_fs q0 q1 q2) : va_E))]) ++ (q0, (.inl ((pr_t (pr_EG l D T B sc)).2.2, 5, .inr (.inr (.inr (.inr (va_up (x3_F ad i) i (some u)))))) : va_E)) :: pr_mg T (pr_lx (i + 1)) (pr_gl (pr_lx i).length ad ad2)) = _ from eV]
      refine g_iinc C dX3_init_49 (q := 0) rfl (v := nI (i + 1)) (by rw [← nI_1]; rfl) (by decide) rfl ?_
      refine g_goto C (tgt := 31) dX3_init_52 rfl ?_
      have := x3_loop (X := X) (o := o) (q0 := q0) (q1 := q1) (q2 := q2) C hO Z1 ZQ m (i + 1) (pr_gl (pr_lx i).length ad ad2) (by omega) (by rw [gl_1 (by omega)]; exact h1) (by rw [gl_1 (by omega)]; exact h2)
      rw [show 3 + 9 * (i + 1) = 3 + 9 * i + 1 + 8 by omega, show 139 + 364 * (i + 1) = 139 + 364 * i + 4 + 360 by omega] at this
      exact this
theorem i_X3 {l : Launch} {D : va_G} {T : pr_T} {B : Nat} {sc : pr_SC} (X : va_W) (o : Nat) : pr_GM l D T B sc yX3_init cX3_init 2 x3_rm X o 3 ((3, 0) :: (12, 5) :: pr_lx 5) 48 1959 := by
  refine pr_genter (by decide +kernel) rfl (by decide) fun Y C hO Z1 hnm ZQ => ?_
  refine g_aload0 C dX3_init_0 rfl ?_
  refine g_obj C pr_w78 dX3_init_1 (Nat.le_of_ble_eq_true rfl) (Nat.le_of_ble_eq_true rfl) ?_
  refine g_aload0 C dX3_init_4 rfl ?_
  refine g_iconst C (v := 5) dX3_init_5 rfl ?_
  refine g_newq C hO (N := 5) pr_w79 (by decide) (by decide +kernel) (Nat.le_of_ble_eq_true rfl) (Nat.le_of_ble_eq_true rfl) (Nat.le_of_ble_eq_true rfl) dX3_init_6 fun q0 => ?_
  rw [List.append_assoc]
  refine g_putF C (rfl : pr_CL[3]? = some (RX3, TX3, 10)) pr_uw3 tyX3_ok nmX3 (j := 0) (by decide) pr_w80 rfl rfl hnm rfl rfl rfl (Nat.le_of_ble_eq_true rfl) dX3_init_9 ?_
  refine g_aload0 C dX3_init_12 rfl ?_
  refine g_sipush C (v := 128) dX3_init_13 rfl ?_
  refine g_newai C (N := 128) (by decide) (by decide +kernel) (Nat.le_of_ble_eq_true rfl) (Nat.le_of_ble_eq_true rfl) (Nat.le_of_ble_eq_true rfl) dX3_init_16 fun q1 => ?_
  rw [List.append_assoc]
  refine g_putF C (rfl : pr_CL[3]? = some (RX3, TX3, 10)) pr_uw3 tyX3_ok nmX3 (j := 1) (by decide) pr_w81 rfl rfl hnm rfl rfl rfl (Nat.le_of_ble_eq_true rfl) dX3_init_18 ?_
  refine g_aload0 C dX3_init_21 rfl ?_
  refine g_bipush C (v := 6) dX3_init_22 rfl ?_
  refine g_newai C (N := 6) (by decide) (by decide +kernel) (Nat.le_of_ble_eq_true rfl) (Nat.le_of_ble_eq_true rfl) (Nat.le_of_ble_eq_true rfl) dX3_init_24 fun q2 => ?_
  rw [List.append_assoc]
  refine g_putF C (rfl : pr_CL[3]? = some (RX3, TX3, 10)) pr_uw3 tyX3_ok nmX3 (j := 2) (by decide) pr_w82 rfl rfl hnm rfl rfl rfl (Nat.le_of_ble_eq_true rfl) dX3_init_26 ?_
  refine g_iconst C (v := 0) dX3_init_29 rfl ?_
  refine g_istore_n C dX3_init_30 rfl (by decide) rfl ?_
  have e : x3_F (fun c => if c = 0 then q1 else q2) 0 = fun _ => none := by
    funext j
    exact if_neg (Nat.not_lt_zero j)
  have := x3_loop (X := X) (o := o) (q0 := q0) (q1 := q1) (q2 := q2) C hO Z1 ZQ 5 0 (fun c => if c = 0 then q1 else q2) rfl rfl rfl
  unfold x3_W at this
  rw [e] at this
  exact this
