/-! ===== the straight constructors ===== -/
section SK
variable {l : Launch} {D : va_G} {T : pr_T} {B : Nat} {sc : pr_SC} {Y : pr_Y} {Rm : Room} {cc : ByteArray} {own : String} {nL : Nat} {c0 : Cond} {k n pc : Nat} {lv : List (Nat × Value)} {st : List Value} {X : va_W} {o K N j : Nat} {fs : List Value} {L : List (Nat × Nat)} {ad : Nat → Nat} {TX : u_T} {tyf : Nat → FieldType} {ty : FieldType}
theorem s_arr (C : pr_C (pr_EG l D T B sc) Y Rm cc own nL c0) {v : Int32} {M idx : Nat} (hL : pr_cl L) (hcl : pr_CL[K]? = some (own, TX, N)) (hin : ∀ w ∈ u_ws own TX N, w ∈ pr_AL) (hty : ∀ j, j < N → parseFieldDescriptor (TX j).2.2.1 = some (tyf j)) (hnm : ∀ a, a < N → ∀ b, b < N → a ≠ b → (TX a).2.1 ≠ (TX b).2.1) (hj : j < N) (w1 : Cond.fieldLink own idx own (TX j).2.1 (TX j).2.2.1 ∈ pr_AL)
    (h0 : (TX j).1 = own) (hfin : (TX j).2.2.2 = true) (hnam : (pr_yh Y).name = "<init>") (hp : parseFieldDescriptor (TX j).2.2.1 = some ty) (hn : ∀ q, narrow ty (.ref q) = .ref q) (hf : ∀ q, fits ty (.ref q) = true) (hl : j < fs.length)
    (hv : ¬ v < 0) (hN : v.toNatClampNeg = M) (hb : M * 4 ≤ 536870912) (hk : k + 1 ≤ Rm.cells) (hs : n + M ≤ Rm.slots) (d1 : decode cc pc = .ok (.newarray .int, 2)) (d2 : decode cc (pc + 2) = .ok (.putfield idx, 3))
    (kk : ∀ q, pr_G (pr_EG l D T B sc) Y Rm nL (X ++ (o, .inr (K, fs.set j (.ref q))) :: pr_mg T (L ++ [(10, M)]) (pr_gl L.length ad (fun _ => q))) (k + 1) (n + M) (pc + 5) lv st) : pr_G (pr_EG l D T B sc) Y Rm nL (X ++ (o, .inr (K, fs)) :: pr_mg T L ad) k n pc lv (.int v :: .ref o :: st) :=
  g_newai C hv hN hb hk hs d1 fun q => by
    rw [show (X ++ (o, .inr (K, fs)) :: pr_mg T L ad) ++ [(q, .inl ((pr_t (pr_EG l D T B sc)).1, M, .inl (fun _ => 0)))] = X ++ (o, .inr (K, fs)) :: pr_mg T (L ++ [(10, M)]) (pr_gl L.length ad (fun _ => q)) by
      rw [← mg_app hL, List.append_assoc, List.cons_append]
      rfl]
    exact g_putF C hcl hin hty hnm hj w1 h0 hfin hnam hp (hn q) (hf q) hl d2 (kk q)
/-- a part that is an object: made, built, laid into its field -/
theorem s_kid (C : pr_C (pr_EG l D T B sc) Y Rm cc own nL c0) {idx K2 N2 : Nat} {L2 : List (Nat × Nat)} (hL : pr_cl L) (hcl : pr_CL[K]? = some (own, TX, N)) (hin : ∀ w ∈ u_ws own TX N, w ∈ pr_AL) (hty : ∀ j, j < N → parseFieldDescriptor (TX j).2.2.1 = some (tyf j)) (hnm : ∀ a, a < N → ∀ b, b < N → a ≠ b → (TX a).2.1 ≠ (TX b).2.1) (hj : j < N) (w1 : Cond.fieldLink own idx own (TX j).2.1 (TX j).2.2.1 ∈ pr_AL)
    (h0 : (TX j).1 = own) (hfin : (TX j).2.2.2 = true) (hnam : (pr_yh Y).name = "<init>") (hp : parseFieldDescriptor (TX j).2.2.1 = some ty) (hn : ∀ q, narrow ty (.ref q) = .ref q) (hf : ∀ q, fits ty (.ref q) = true) (hl : j < fs.length)
    (d2 : decode cc (pc + 7) = .ok (.putfield idx, 3)) (d1 : decode cc (pc + 3) = .ok (.dup, 1)) {mc ms : Nat}
    (new : ∀ {ws : va_W}, (∀ q, pr_G (pr_EG l D T B sc) Y Rm nL (ws ++ [(q, .inr (K2, pr_df K2))]) (k + 1) (n + N2) (pc + 3) lv (.ref q :: .ref o :: st)) → pr_G (pr_EG l D T B sc) Y Rm nL ws k n pc lv (.ref o :: st))
    (call : ∀ {ws : va_W} {q : Nat}, (∀ ad2 : Nat → Nat, ad2 0 = q → pr_G (pr_EG l D T B sc) Y Rm nL (ws ++ pr_mg T L2 ad2) (k + 1 + mc) (n + N2 + ms) (pc + 7) lv (.ref q :: .ref o :: st)) → pr_G (pr_EG l D T B sc) Y Rm nL (ws ++ [(q, .inr (K2, pr_df K2))]) (k + 1) (n + N2) (pc + 4) lv (.ref q :: .ref q :: .ref o :: st))
    (kk : ∀ (q : Nat) (ad2 : Nat → Nat), ad2 0 = q → pr_G (pr_EG l D T B sc) Y Rm nL (X ++ (o, .inr (K, fs.set j (.ref q))) :: pr_mg T (L ++ L2) (pr_gl L.length ad ad2)) (k + 1 + mc) (n + N2 + ms) (pc + 10) lv st) : pr_G (pr_EG l D T B sc) Y Rm nL (X ++ (o, .inr (K, fs)) :: pr_mg T L ad) k n pc lv (.ref o :: st) :=
  new fun q => g_dup C d1 rfl (call fun ad2 ha => by
    rw [show (X ++ (o, .inr (K, fs)) :: pr_mg T L ad) ++ pr_mg T L2 ad2 = X ++ (o, .inr (K, fs)) :: pr_mg T (L ++ L2) (pr_gl L.length ad ad2) by
      rw [← mg_app hL, List.append_assoc, List.cons_append]]
    exact g_putF C hcl hin hty hnm hj w1 h0 hfin hnam hp (hn q) (hf q) hl d2 (kk q ad2 ha))
/-- the constructor ends -/
theorem s_end (C : pr_C (pr_EG l D T B sc) Y Rm cc own nL c0) {mc ms : Nat} (hmc : k = mc) (hms : n = ms) (hK : K < 10) (hfs : fs = pr_fs (pr_gl 1 (fun _ => o) ad) pr_f0 0 0 (pr_sh K)) (Z1 : (pr_yh Y).sig.returnType = none) (ZQ : pr_yQ Y = MQ (pr_yb Y) (pr_GQ D T B X o ((K, 0) :: L)) (pr_ya Y) (pr_ys Y) mc ms (fun q => B ≤ q)) (hd : decode cc pc = .ok (.return_, 1)) : pr_G (pr_EG l D T B sc) Y Rm nL (X ++ (o, .inr (K, fs)) :: pr_mg T L ad) k n pc lv [] := by
  subst hmc
  subst hms
  rw [mg_cons (z := 0) hK hfs]
  exact g_ret C Z1 ZQ (gl_1 (by decide)) hd
theorem s_beg (C : pr_C (pr_EG l D T B sc) Y Rm cc own nL c0) (d0 : decode cc 0 = .ok (.aload_n 0, 1)) {idx : Nat} (w1 : Cond.methodLink own idx objectInit ∈ pr_AL) (d1 : decode cc 1 = .ok (.invokespecial idx, 3)) (hf : 1 ≤ Rm.frames) (hlo : 12 ≤ Rm.locals)
    (kk : pr_G (pr_EG l D T B sc) Y Rm nL (X ++ (o, .inr (K, fs)) :: pr_mg T [] (fun _ => 0)) 0 0 4 [(0, .ref o)] []) : pr_G (pr_EG l D T B sc) Y Rm nL (X ++ [(o, .inr (K, fs))]) 0 0 0 [(0, .ref o)] [] :=
  g_aload0 C d0 rfl (g_obj C w1 d1 hf (by show 0 + 12 ≤ _; omega) kk)
end SK
/-- the same ways of one constructor's part -/
theorem cl_nil : pr_cl [] := fun c hc => absurd hc (Nat.not_lt_zero c)
theorem i_X0 {l : Launch} {D : va_G} {T : pr_T} {B : Nat} {sc : pr_SC} (X : va_W) (o : Nat) : pr_GM l D T B sc yX0_init cX0_init 1 { frames := 1, cells := 0, slots := 0, locals := 21 } X o 0 [(0, 0)] 0 0 := by
  refine pr_genter (by decide +kernel) rfl (by decide) fun Y C hO Z1 hnm ZQ => ?_
  refine s_beg C dX0_init_0 pr_w1 dX0_init_1 (Nat.le_of_ble_eq_true rfl) (Nat.le_of_ble_eq_true rfl) ?_
  exact s_end C (L := []) rfl rfl (by decide) (by simp [pr_fs, pr_fv, pr_sh, pr_gl, pr_df]) Z1 ZQ dX0_init_4
theorem i_X1 {l : Launch} {D : va_G} {T : pr_T} {B : Nat} {sc : pr_SC} (X : va_W) (o : Nat) : pr_GM l D T B sc yX1_init cX1_init 1 { frames := 1, cells := 1, slots := 64, locals := 21 } X o 1 [(1, 0), (10, 64)] 1 64 := by
  refine pr_genter (by decide +kernel) rfl (by decide) fun Y C hO Z1 hnm ZQ => ?_
  refine s_beg C dX1_init_0 pr_w19 dX1_init_1 (Nat.le_of_ble_eq_true rfl) (Nat.le_of_ble_eq_true rfl) ?_
  refine g_aload0 C dX1_init_4 rfl ?_
  refine g_bipush C (v := 64) dX1_init_5 rfl ?_
  refine s_arr C (M := 64) cl_nil (rfl : pr_CL[1]? = some (RX1, TX1, 2)) pr_uw1 tyX1_ok nmX1 (j := 0) (by decide) pr_w21 rfl rfl hnm rfl (fun _ => rfl) (fun _ => rfl) (Nat.le_of_ble_eq_true rfl) (by decide) (by decide +kernel) (Nat.le_of_ble_eq_true rfl) (Nat.le_of_ble_eq_true rfl) (Nat.le_of_ble_eq_true rfl) dX1_init_7 dX1_init_9 fun q0 => ?_
  exact s_end C (L := [(10, 64)]) rfl rfl (by decide) (by simp [pr_fs, pr_fv, pr_sh, pr_gl, pr_df]) Z1 ZQ dX1_init_12
theorem i_X2 {l : Launch} {D : va_G} {T : pr_T} {B : Nat} {sc : pr_SC} (X : va_W) (o : Nat) : pr_GM l D T B sc yX2_init cX2_init 1 { frames := 1, cells := 1, slots := 80, locals := 21 } X o 2 [(2, 0), (10, 80)] 1 80 := by
  refine pr_genter (by decide +kernel) rfl (by decide) fun Y C hO Z1 hnm ZQ => ?_
  refine s_beg C dX2_init_0 pr_w48 dX2_init_1 (Nat.le_of_ble_eq_true rfl) (Nat.le_of_ble_eq_true rfl) ?_
  refine g_aload0 C dX2_init_4 rfl ?_
  refine g_bipush C (v := 80) dX2_init_5 rfl ?_
  refine s_arr C (M := 80) cl_nil (rfl : pr_CL[2]? = some (RX2, TX2, 10)) pr_uw2 tyX2_ok nmX2 (j := 0) (by decide) pr_w49 rfl rfl hnm rfl (fun _ => rfl) (fun _ => rfl) (Nat.le_of_ble_eq_true rfl) (by decide) (by decide +kernel) (Nat.le_of_ble_eq_true rfl) (Nat.le_of_ble_eq_true rfl) (Nat.le_of_ble_eq_true rfl) dX2_init_7 dX2_init_9 fun q0 => ?_
  exact s_end C (L := [(10, 80)]) rfl rfl (by decide) (by simp [pr_fs, pr_fv, pr_sh, pr_gl, pr_df]) Z1 ZQ dX2_init_12
theorem i_X4 {l : Launch} {D : va_G} {T : pr_T} {B : Nat} {sc : pr_SC} (X : va_W) (o : Nat) : pr_GM l D T B sc yX4_init cX4_init 1 { frames := 1, cells := 2, slots := 256, locals := 21 } X o 4 [(4, 0), (10, 128), (10, 128)] 2 256 := by
  refine pr_genter (by decide +kernel) rfl (by decide) fun Y C hO Z1 hnm ZQ => ?_
  refine s_beg C dX4_init_0 pr_w51 dX4_init_1 (Nat.le_of_ble_eq_true rfl) (Nat.le_of_ble_eq_true rfl) ?_
  refine g_aload0 C dX4_init_4 rfl ?_
  refine g_sipush C (v := 128) dX4_init_5 rfl ?_
  refine s_arr C (M := 128) cl_nil (rfl : pr_CL[4]? = some (RX4, TX4, 8)) pr_uw4 tyX4_ok nmX4 (j := 0) (by decide) pr_w52 rfl rfl hnm rfl (fun _ => rfl) (fun _ => rfl) (Nat.le_of_ble_eq_true rfl) (by decide) (by decide +kernel) (Nat.le_of_ble_eq_true rfl) (Nat.le_of_ble_eq_true rfl) (Nat.le_of_ble_eq_true rfl) dX4_init_8 dX4_init_10 fun q0 => ?_
  refine g_aload0 C dX4_init_13 rfl ?_
  refine g_sipush C (v := 128) dX4_init_14 rfl ?_
  refine s_arr C (M := 128) (by unfold pr_cl; decide +kernel) (rfl : pr_CL[4]? = some (RX4, TX4, 8)) pr_uw4 tyX4_ok nmX4 (j := 1) (by decide) pr_w53 rfl rfl hnm rfl (fun _ => rfl) (fun _ => rfl) (Nat.le_of_ble_eq_true rfl) (by decide) (by decide +kernel) (Nat.le_of_ble_eq_true rfl) (Nat.le_of_ble_eq_true rfl) (Nat.le_of_ble_eq_true rfl) dX4_init_17 dX4_init_19 fun q1 => ?_
  exact s_end C (L := [(10, 128), (10, 128)]) rfl rfl (by decide) (by simp [pr_fs, pr_fv, pr_sh, pr_gl, pr_df]) Z1 ZQ dX4_init_22
theorem i_X5 {l : Launch} {D : va_G} {T : pr_T} {B : Nat} {sc : pr_SC} (X : va_W) (o : Nat) : pr_GM l D T B sc yX5_init cX5_init 1 { frames := 2, cells := 2, slots := 66, locals := 41 } X o 5 [(5, 0), (1, 0), (10, 64)] 2 66 := by
  refine pr_genter (by decide +kernel) rfl (by decide) fun Y C hO Z1 hnm ZQ => ?_
  refine s_beg C dX5_init_0 pr_w55 dX5_init_1 (Nat.le_of_ble_eq_true rfl) (Nat.le_of_ble_eq_true rfl) ?_
  refine g_aload0 C dX5_init_4 rfl ?_
  refine s_kid C (mc := 1) (ms := 64) (N2 := 2) cl_nil (rfl : pr_CL[5]? = some (RX5, TX5, 10)) pr_uw5 tyX5_ok nmX5 (j := 0) (by decide) pr_w58 rfl rfl hnm rfl (fun _ => rfl) (fun _ => rfl) (Nat.le_of_ble_eq_true rfl) dX5_init_12 dX5_init_8 (fun h => g_new C (rfl : pr_CL[1]? = some (RX1, TX1, 2)) pr_uw1 tyX1_ok (by decide +kernel) pr_w56 pr_w57 pr_w41 (Nat.le_of_ble_eq_true rfl) (Nat.le_of_ble_eq_true rfl) dX5_init_5 h) (fun h => g_callN C hO (i_X1 _ _) pr_nm4 pr_w59 pr_w41 pr_w18 rfl rfl rfl ⟨by decide +kernel, by decide +kernel, by decide +kernel⟩ ⟨Nat.le_of_ble_eq_true rfl, Nat.le_of_ble_eq_true rfl⟩ (Nat.le_of_ble_eq_true rfl) (Nat.le_of_ble_eq_true rfl) (Nat.le_of_ble_eq_true rfl) dX5_init_9 h) fun q0 a0 h0 => ?_
  exact s_end C (L := [(1, 0), (10, 64)]) rfl rfl (by decide) (by simp [pr_fs, pr_fv, pr_sh, pr_gl, pr_df, h0]) Z1 ZQ dX5_init_15
theorem i_X7 {l : Launch} {D : va_G} {T : pr_T} {B : Nat} {sc : pr_SC} (X : va_W) (o : Nat) : pr_GM l D T B sc yX7_init cX7_init 1 { frames := 3, cells := 8, slots := 360, locals := 61 } X o 7 [(7, 0), (10, 11), (4, 0), (10, 128), (10, 128), (0, 0), (5, 0), (1, 0), (10, 64)] 8 360 := by
  refine pr_genter (by decide +kernel) rfl (by decide) fun Y C hO Z1 hnm ZQ => ?_
  refine s_beg C dX7_init_0 pr_w60 dX7_init_1 (Nat.le_of_ble_eq_true rfl) (Nat.le_of_ble_eq_true rfl) ?_
  refine g_aload0 C dX7_init_4 rfl ?_
  refine g_bipush C (v := 11) dX7_init_5 rfl ?_
  refine s_arr C (M := 11) cl_nil (rfl : pr_CL[7]? = some (RX7, TX7, 4)) pr_uw7 tyX7_ok nmX7 (j := 0) (by decide) pr_w61 rfl rfl hnm rfl (fun _ => rfl) (fun _ => rfl) (Nat.le_of_ble_eq_true rfl) (by decide) (by decide +kernel) (Nat.le_of_ble_eq_true rfl) (Nat.le_of_ble_eq_true rfl) (Nat.le_of_ble_eq_true rfl) dX7_init_7 dX7_init_9 fun q0 => ?_
  refine g_aload0 C dX7_init_12 rfl ?_
  refine s_kid C (mc := 2) (ms := 256) (N2 := 8) (by unfold pr_cl; decide +kernel) (rfl : pr_CL[7]? = some (RX7, TX7, 4)) pr_uw7 tyX7_ok nmX7 (j := 1) (by decide) pr_w65 rfl rfl hnm rfl (fun _ => rfl) (fun _ => rfl) (Nat.le_of_ble_eq_true rfl) dX7_init_20 dX7_init_16 (fun h => g_new C (rfl : pr_CL[4]? = some (RX4, TX4, 8)) pr_uw4 tyX4_ok (by decide +kernel) pr_w62 pr_w63 pr_w64 (Nat.le_of_ble_eq_true rfl) (Nat.le_of_ble_eq_true rfl) dX7_init_13 h) (fun h => g_callN C hO (i_X4 _ _) pr_nm1 pr_w74 pr_w64 pr_w50 rfl rfl rfl ⟨by decide +kernel, by decide +kernel, by decide +kernel⟩ ⟨Nat.le_of_ble_eq_true rfl, Nat.le_of_ble_eq_true rfl⟩ (Nat.le_of_ble_eq_true rfl) (Nat.le_of_ble_eq_true rfl) (Nat.le_of_ble_eq_true rfl) dX7_init_17 h) fun q1 a1 h1 => ?_
  refine g_aload0 C dX7_init_23 rfl ?_
  refine s_kid C (mc := 0) (ms := 0) (N2 := 9) (by unfold pr_cl; decide +kernel) (rfl : pr_CL[7]? = some (RX7, TX7, 4)) pr_uw7 tyX7_ok nmX7 (j := 2) (by decide) pr_w69 rfl rfl hnm rfl (fun _ => rfl) (fun _ => rfl) (Nat.le_of_ble_eq_true rfl) dX7_init_31 dX7_init_27 (fun h => g_new C (rfl : pr_CL[0]? = some (RX0, TX0, 9)) pr_uw0 tyX0_ok (by decide +kernel) pr_w66 pr_w67 pr_w68 (Nat.le_of_ble_eq_true rfl) (Nat.le_of_ble_eq_true rfl) dX7_init_24 h) (fun h => g_callN C hO (i_X0 _ _) pr_nm2 pr_w75 pr_w68 pr_w0 rfl rfl rfl ⟨by decide +kernel, by decide +kernel, by decide +kernel⟩ ⟨Nat.le_of_ble_eq_true rfl, Nat.le_of_ble_eq_true rfl⟩ (Nat.le_of_ble_eq_true rfl) (Nat.le_of_ble_eq_true rfl) (Nat.le_of_ble_eq_true rfl) dX7_init_28 h) fun q2 a2 h2 => ?_
  refine g_aload0 C dX7_init_34 rfl ?_
  refine s_kid C (mc := 2) (ms := 66) (N2 := 10) (by unfold pr_cl; decide +kernel) (rfl : pr_CL[7]? = some (RX7, TX7, 4)) pr_uw7 tyX7_ok nmX7 (j := 3) (by decide) pr_w73 rfl rfl hnm rfl (fun _ => rfl) (fun _ => rfl) (Nat.le_of_ble_eq_true rfl) dX7_init_42 dX7_init_38 (fun h => g_new C (rfl : pr_CL[5]? = some (RX5, TX5, 10)) pr_uw5 tyX5_ok (by decide +kernel) pr_w70 pr_w71 pr_w72 (Nat.le_of_ble_eq_true rfl) (Nat.le_of_ble_eq_true rfl) dX7_init_35 h) (fun h => g_callN C hO (i_X5 _ _) pr_nm3 pr_w76 pr_w72 pr_w54 rfl rfl rfl ⟨by decide +kernel, by decide +kernel, by decide +kernel⟩ ⟨Nat.le_of_ble_eq_true rfl, Nat.le_of_ble_eq_true rfl⟩ (Nat.le_of_ble_eq_true rfl) (Nat.le_of_ble_eq_true rfl) (Nat.le_of_ble_eq_true rfl) dX7_init_39 h) fun q3 a3 h3 => ?_
  exact s_end C (L := [(10, 11), (4, 0), (10, 128), (10, 128), (0, 0), (5, 0), (1, 0), (10, 64)]) rfl rfl (by decide) (by simp [pr_fs, pr_fv, pr_sh, pr_gl, pr_df, h1, h2, h3]) Z1 ZQ dX7_init_45
