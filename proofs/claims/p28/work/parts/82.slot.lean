/-! ===== a slot is made ===== -/
def pr_L3 : List (Nat × Nat) := (3, 0) :: (12, 5) :: pr_lx 5
theorem L3_len : pr_L3.length = 49 := by decide +kernel
def pr_L6 : List (Nat × Nat) := (6, 0) :: pr_L3
theorem L6_len : pr_L6.length = 50 := by decide +kernel
theorem i_P3 {l : Launch} {D : va_G} {T : pr_T} {B : Nat} {sc : pr_SC} (X : va_W) (o : Nat) : pr_GM l D T B sc yX3_init cX3_init 2 x3_rm X o 3 pr_L3 48 1959 := i_X3 X o
theorem i_X6 {l : Launch} {D : va_G} {T : pr_T} {B : Nat} {sc : pr_SC} (X : va_W) (o : Nat) : pr_GM l D T B sc yX6_init cX6_init 1 { frames := 5, cells := 49, slots := 1969, locals := 102 } X o 6 pr_L6 49 1969 := by
  refine pr_genter (by decide +kernel) rfl (by decide) fun Y C hO Z1 hnm ZQ => ?_
  refine s_beg C dX6_init_0 pr_w245 dX6_init_1 (Nat.le_of_ble_eq_true rfl) (Nat.le_of_ble_eq_true rfl) ?_
  refine g_aload0 C dX6_init_4 rfl ?_
  refine s_kid C (mc := 48) (ms := 1959) (N2 := 10) cl_nil (rfl : pr_CL[6]? = some (RX6, TX6, 2)) pr_uw6 tyX6_ok nmX6 (j := 0) (by decide) pr_w248 rfl rfl hnm rfl (fun _ => rfl) (fun _ => rfl) (Nat.le_of_ble_eq_true rfl) dX6_init_12 dX6_init_8 (fun h => g_new C (rfl : pr_CL[3]? = some (RX3, TX3, 10)) pr_uw3 tyX3_ok (by decide +kernel) pr_w246 pr_w247 pr_w137 (Nat.le_of_ble_eq_true rfl) (Nat.le_of_ble_eq_true rfl) dX6_init_5 h) (fun h => g_call C hO (i_P3 _ _) pr_w249 pr_w250 pr_w137 pr_w86 rfl rfl rfl ⟨by decide +kernel, by decide +kernel, by decide +kernel⟩ ⟨Nat.le_of_ble_eq_true rfl, Nat.le_of_ble_eq_true rfl⟩ (Nat.le_of_ble_eq_true rfl) (Nat.le_of_ble_eq_true rfl) (Nat.le_of_ble_eq_true rfl) dX6_init_9 h) fun q0 a0 h0 => ?_
  exact s_end C (L := pr_L3) rfl rfl (by decide) (by simp [pr_fs, pr_fv, pr_sh, pr_gl, pr_df, h0]) Z1 ZQ dX6_init_15
