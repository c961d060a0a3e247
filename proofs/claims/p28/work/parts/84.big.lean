/-! ===== the class and the model are made ===== -/
theorem i_X8 {l : Launch} {D : va_G} {T : pr_T} {B : Nat} {sc : pr_SC} (X : va_W) (o : Nat) : pr_HM l D T B sc yX8_init cX8_init 1 { frames := 6, cells := 200, slots := 7970, locals := 122 } X o 8 (pr_LX []) (F_X3_begin 1 3) 200 7970 := by
  refine pr_henter (by decide +kernel) rfl (by decide) fun Y C hO Z1 hnm ZQ => ?_
  refine s_beg C dX8_init_0 pr_w253 dX8_init_1 (Nat.le_of_ble_eq_true rfl) (Nat.le_of_ble_eq_true rfl) ?_
  refine g_aload0 C dX8_init_4 rfl ?_
  refine s_kid C (mc := 48) (ms := 1959) (N2 := 10) cl_nil (rfl : pr_CL[8]? = some (RX8, TX8, 5)) pr_uw8 tyX8_ok nmX8 (j := 0) (by decide) pr_w255 rfl rfl hnm rfl (fun _ => rfl) (fun _ => rfl) (Nat.le_of_ble_eq_true rfl) dX8_init_12 dX8_init_8 (fun h => g_new C (rfl : pr_CL[3]? = some (RX3, TX3, 10)) pr_uw3 tyX3_ok (by decide +kernel) pr_w254 pr_w247 pr_w137 (Nat.le_of_ble_eq_true rfl) (Nat.le_of_ble_eq_true rfl) dX8_init_5 h) (fun h => g_call C hO (i_P3 _ _) pr_w266 pr_w250 pr_w137 pr_w86 rfl rfl rfl ⟨by decide +kernel, by decide +kernel, by decide +kernel⟩ ⟨Nat.le_of_ble_eq_true rfl, Nat.le_of_ble_eq_true rfl⟩ (Nat.le_of_ble_eq_true rfl) (Nat.le_of_ble_eq_true rfl) (Nat.le_of_ble_eq_true rfl) dX8_init_9 h) fun q0 a0 h0 => ?_
  refine g_aload0 C dX8_init_15 rfl ?_
  refine s_kid C (mc := 48) (ms := 1959) (N2 := 10) (by unfold pr_cl; decide +kernel) (rfl : pr_CL[8]? = some (RX8, TX8, 5)) pr_uw8 tyX8_ok nmX8 (j := 1) (by decide) pr_w256 rfl rfl hnm rfl (fun _ => rfl) (fun _ => rfl) (Nat.le_of_ble_eq_true rfl) dX8_init_23 dX8_init_19 (fun h => g_new C (rfl : pr_CL[3]? = some (RX3, TX3, 10)) pr_uw3 tyX3_ok (by decide +kernel) pr_w254 pr_w247 pr_w137 (Nat.le_of_ble_eq_true rfl) (Nat.le_of_ble_eq_true rfl) dX8_init_16 h) (fun h => g_call C hO (i_P3 _ _) pr_w266 pr_w250 pr_w137 pr_w86 rfl rfl rfl ⟨by decide +kernel, by decide +kernel, by decide +kernel⟩ ⟨Nat.le_of_ble_eq_true rfl, Nat.le_of_ble_eq_true rfl⟩ (Nat.le_of_ble_eq_true rfl) (Nat.le_of_ble_eq_true rfl) (Nat.le_of_ble_eq_true rfl) dX8_init_20 h) fun q1 a1 h1 => ?_
  refine g_aload0 C dX8_init_26 rfl ?_
  refine s_kid C (mc := 49) (ms := 1969) (N2 := 2) (by unfold pr_cl; decide +kernel) (rfl : pr_CL[8]? = some (RX8, TX8, 5)) pr_uw8 tyX8_ok nmX8 (j := 2) (by decide) pr_w260 rfl rfl hnm rfl (fun _ => rfl) (fun _ => rfl) (Nat.le_of_ble_eq_true rfl) dX8_init_34 dX8_init_30 (fun h => g_new C (rfl : pr_CL[6]? = some (RX6, TX6, 2)) pr_uw6 tyX6_ok (by decide +kernel) pr_w257 pr_w258 pr_w259 (Nat.le_of_ble_eq_true rfl) (Nat.le_of_ble_eq_true rfl) dX8_init_27 h) (fun h => g_callN C hO (i_X6 _ _) pr_nm5 pr_w267 pr_w259 pr_w251 rfl rfl rfl ⟨by decide +kernel, by decide +kernel, by decide +kernel⟩ ⟨Nat.le_of_ble_eq_true rfl, Nat.le_of_ble_eq_true rfl⟩ (Nat.le_of_ble_eq_true rfl) (Nat.le_of_ble_eq_true rfl) (Nat.le_of_ble_eq_true rfl) dX8_init_31 h) fun q2 a2 h2 => ?_
  refine g_aload0 C dX8_init_37 rfl ?_
  refine s_kid C (mc := 49) (ms := 1969) (N2 := 2) (by unfold pr_cl; decide +kernel) (rfl : pr_CL[8]? = some (RX8, TX8, 5)) pr_uw8 tyX8_ok nmX8 (j := 3) (by decide) pr_w261 rfl rfl hnm rfl (fun _ => rfl) (fun _ => rfl) (Nat.le_of_ble_eq_true rfl) dX8_init_45 dX8_init_41 (fun h => g_new C (rfl : pr_CL[6]? = some (RX6, TX6, 2)) pr_uw6 tyX6_ok (by decide +kernel) pr_w257 pr_w258 pr_w259 (Nat.le_of_ble_eq_true rfl) (Nat.le_of_ble_eq_true rfl) dX8_init_38 h) (fun h => g_callN C hO (i_X6 _ _) pr_nm5 pr_w267 pr_w259 pr_w251 rfl rfl rfl ⟨by decide +kernel, by decide +kernel, by decide +kernel⟩ ⟨Nat.le_of_ble_eq_true rfl, Nat.le_of_ble_eq_true rfl⟩ (Nat.le_of_ble_eq_true rfl) (Nat.le_of_ble_eq_true rfl) (Nat.le_of_ble_eq_true rfl) dX8_init_42 h) fun q3 a3 h3 => ?_
  refine g_aload0 C dX8_init_48 rfl ?_
  refine s_kid C (mc := 1) (ms := 80) (N2 := 10) (by unfold pr_cl; decide +kernel) (rfl : pr_CL[8]? = some (RX8, TX8, 5)) pr_uw8 tyX8_ok nmX8 (j := 4) (by decide) pr_w265 rfl rfl hnm rfl (fun _ => rfl) (fun _ => rfl) (Nat.le_of_ble_eq_true rfl) dX8_init_56 dX8_init_52 (fun h => g_new C (rfl : pr_CL[2]? = some (RX2, TX2, 10)) pr_uw2 tyX2_ok (by decide +kernel) pr_w262 pr_w263 pr_w264 (Nat.le_of_ble_eq_true rfl) (Nat.le_of_ble_eq_true rfl) dX8_init_49 h) (fun h => g_callN C hO (i_X2 _ _) pr_nm6 pr_w268 pr_w264 pr_w47 rfl rfl rfl ⟨by decide +kernel, by decide +kernel, by decide +kernel⟩ ⟨Nat.le_of_ble_eq_true rfl, Nat.le_of_ble_eq_true rfl⟩ (Nat.le_of_ble_eq_true rfl) (Nat.le_of_ble_eq_true rfl) (Nat.le_of_ble_eq_true rfl) dX8_init_53 h) fun q4 a4 h4 => ?_
  intro H locs ls hP hD hS hl
  rw [mg_cons (z := 0) (by decide) (by simp [pr_fs, pr_fv, pr_sh, pr_gl, pr_df, L3_len, L6_len, h0, h1, h2, h3, h4])] at hP hD
  generalize hg : pr_gl 1 (fun _ => o) _ = ad at hP hD
  have had : ad 0 = o := by rw [← hg]; exact gl_1 (by decide)
  have eL : (8, 0) :: ([] ++ pr_L3 ++ pr_L3 ++ pr_L6 ++ pr_L6 ++ [(2, 0), (10, 80)]) = pr_LX [] := by decide +kernel
  rw [eL] at hP hD
  have hD2 := D_of hD
  have hP2 := P_of (by decide +kernel) hP
  have C2 := pr_Ck (k := 200) (n := 7970) (L := pr_LX []) (ad := ad) C hD2 (Nat.le_of_ble_eq_true rfl) (Nat.le_of_ble_eq_true rfl)
  obtain ⟨g, hb, -⟩ := bg_press 1 3 pr_f0
  have hw : pr_W (pr_EC l (D, T, ad, X, B, [], sc)) (pr_Yk Y 200 7970) { frames := 6, cells := 200, slots := 7970, locals := 122 } 1 pr_f0 59 [(0, .ref (ad 0))] [] := by
    refine pr_aload_n C2 dX8_init_59 rfl 0 rfl ?_
    refine pr_g_8_0 C2 (px_lx rfl) pr_w255 dX8_init_60 ?_
    refine pr_iconst (v := 3) C2 dX8_init_63 (by decide) ?_
    refine k_X3_begin (e := (D, T, ad, X, B, [], sc)) C2 pr_w269 (px_lx (by decide +kernel)) hb (Nat.le_of_ble_eq_true rfl) (Nat.le_of_ble_eq_true rfl) (Nat.le_of_ble_eq_true rfl) dX8_init_64 ?_
    exact h_ret C2 Z1 ZQ had hb hD2 dX8_init_67
  rw [had] at hw
  exact hw H locs ls hP2 hS hl
