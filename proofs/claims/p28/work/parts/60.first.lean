/-! ===== the settings; the first state; the law's picture answers 1 ===== -/
theorem v_set {u : Int32} {q j : Nat} {v : Int32} {f : pr_M} (h : UQ u q) (h3 : f 1 3 = 2) (h4 : f 1 4 = 0) (hj : j < 11) (hlo : ¬ v < pr_x0.getD j 0) (hhi : v ≤ pr_x1.getD j 0) : ∃ r, F_X8_set 0 u (nI j) v f = some (r, pr_up f (q + 1) j v) := by
  have hv : F_X8_isSettingValue (nI j) v f = some 1 := by
    unfold F_X8_isSettingValue
    rw [if_neg (nI_pos (by omega)), if_pos (show nI j < 11 from nI_lt (b := 11) hj (by decide)), pr_gd_i hj (by decide), ri_cl (by omega), rc_outside, if_neg hlo, if_pos hhi, pr_b1_s, if_pos rfl]
  have hp : ∃ x, F_X8_isPlace (nI j) f = some x := by
    unfold F_X8_isPlace
    by_cases c0 : nI j = 0
    · exact ⟨1, by rw [if_pos c0]⟩
    · by_cases c1 : nI j = 1
      · exact ⟨1, by rw [if_neg c0, if_pos c1]⟩
      · exact ⟨0, by rw [if_neg c0, if_neg c1]⟩
  obtain ⟨x, hx⟩ := hp
  refine ⟨f (q + 1) j, ?_⟩
  unfold F_X8_set
  rw [Nat.zero_add, c_unit h h3, pr_b1_s, pr_op_S, pr_gdT (c_lc h), hv, pr_b1_s, if_neg t10, hx, pr_b1_s]
  by_cases c : x = 0
  · rw [if_pos c, rc_setting f hj, pr_b1_s, rc_change f v hj, pr_bd_s]
  · rw [if_neg c, if_pos h4, rc_setting f hj, pr_b1_s, rc_change f v hj, pr_bd_s]
theorem v_setN {u : Int32} {q j n lo hi : Nat} {f : pr_M} (h : UQ u q) (h3 : f 1 3 = 2) (h4 : f 1 4 = 0) (hj : j < 11) (e0 : pr_x0.getD j 0 = nI lo) (e1 : pr_x1.getD j 0 = nI hi) (h1 : lo ≤ n) (h2 : n ≤ hi) (hh : hi < 10000) : ∃ r, F_X8_set 0 u (nI j) (nI n) f = some (r, pr_up f (q + 1) j (nI n)) :=
  v_set h h3 h4 hj (by rw [e0]; exact nI_nlt h1 (by omega)) (by rw [e1]; exact nI_le h2 (by omega))
theorem v_push {u : Int32} {q j : Nat} {f : pr_M} (h : UQ u q) (h3 : f 1 3 = 2) (h4 : f 1 4 = 0) (hj : j < 201) : ∃ r, F_X8_set 0 u 10 (nI j - 100) f = some (r, pr_up f (q + 1) 10 (nI j - 100)) := by
  have e : (nI j - 100).toInt = (j : Int) - 100 := pk_sub_toInt (b := 100) (by omega) (by decide)
  refine v_set (j := 10) h h3 h4 (by decide) ?_ ?_
  · rw [Int32.lt_iff_toInt_lt, e, show (pr_x0.getD 10 0).toInt = -500 by decide +kernel]; omega
  · rw [Int32.le_iff_toInt_le, e, show (pr_x1.getD 10 0).toInt = 500 by decide +kernel]; omega
theorem v_adj0 {u : Int32} {q j : Nat} {f : pr_M} (h : UQ u q) (h3 : f 1 3 = 2) (hj : j < 600) : ∃ r, F_X8_adjust 0 u 0 (nI j - 300) f = some (r, pr_up f (q + 2) 2 (nI j - 300)) := by
  have e : (nI j - 300).toInt = (j : Int) - 300 := pk_sub_toInt (b := 300) (by omega) (by decide)
  have c1 : ¬ (nI j - 300) < -(pr_x3.getD (Int32.toNatClampNeg 0) 0) := by
    rw [Int32.lt_iff_toInt_lt, e, show (-(pr_x3.getD (Int32.toNatClampNeg 0) 0)).toInt = -5000 by decide +kernel]; omega
  have c2 : (nI j - 300) ≤ pr_x3.getD (Int32.toNatClampNeg 0) 0 := by
    rw [Int32.le_iff_toInt_le, e, show (pr_x3.getD (Int32.toNatClampNeg 0) 0).toInt = 5000 by decide +kernel]; omega
  refine ⟨f (q + 2) 2, ?_⟩
  unfold F_X8_adjust F_X4_byHand F_X4_changeByHand
  rw [Nat.zero_add, c_unit h h3, pr_b1_s, pr_op_S, pr_gdT (c_lc h), rc_outside, if_neg (by decide), if_pos (by decide), pr_b1_s, if_pos rfl, pr_gdT (by decide +kernel), rc_outside, if_neg c1, if_pos c2, pr_b1_s, if_pos rfl, if_pos rfl, pr_b1_s, if_pos rfl, pr_lt_s, pr_bd_s]
theorem v_adj2 {u : Int32} {q j : Nat} {f : pr_M} (h : UQ u q) (h3 : f 1 3 = 2) (hj : j < 200) : ∃ r, F_X8_adjust 0 u 2 (nI j - 100) f = some (r, pr_up f (q + 2) 4 (nI j - 100)) := by
  have e : (nI j - 100).toInt = (j : Int) - 100 := pk_sub_toInt (b := 100) (by omega) (by decide)
  have c1 : ¬ (nI j - 100) < -(pr_x3.getD (Int32.toNatClampNeg 2) 0) := by
    rw [Int32.lt_iff_toInt_lt, e, show (-(pr_x3.getD (Int32.toNatClampNeg 2) 0)).toInt = -2000 by decide +kernel]; omega
  have c2 : (nI j - 100) ≤ pr_x3.getD (Int32.toNatClampNeg 2) 0 := by
    rw [Int32.le_iff_toInt_le, e, show (pr_x3.getD (Int32.toNatClampNeg 2) 0).toInt = 2000 by decide +kernel]; omega
  refine ⟨f (q + 2) 4, ?_⟩
  unfold F_X8_adjust F_X4_byHand F_X4_changeByHand
  rw [Nat.zero_add, c_unit h h3, pr_b1_s, pr_op_S, pr_gdT (c_lc h), rc_outside, if_neg (by decide), if_pos (by decide), pr_b1_s, if_pos rfl, pr_gdT (by decide +kernel), rc_outside, if_neg c1, if_pos c2, pr_b1_s, if_pos rfl, if_neg (by decide), if_neg (by decide), pr_b1_s, if_neg (by decide), if_neg (by decide), pr_lt_s, pr_bd_s]
set_option maxHeartbeats 4000000 in
theorem v_settings {L p : Nat} {xs : Nat → Int32} {u : Int32} {q : Nat} {f : pr_M} (hL : L ≤ 260) (hp : p ≤ 20) (h : UQ u q) (h3 : f 1 3 = 2) (h4 : f 1 4 = 0) :
    ∃ g d s r, F_L_settings 0 L xs u (nI p) f = some ((), g) ∧ (1 ≤ d ∧ d ≤ 9 ∧ g (q + 1) 0 = nI d) ∧ (1 ≤ s ∧ s ≤ 9 ∧ g (q + 1) 1 = nI s) ∧ (r ≤ 30 ∧ g (q + 1) 9 = nI r) ∧ (∀ c z, c ≠ q + 1 → (c ≠ q + 2 ∨ (z ≠ 2 ∧ z ≠ 4)) → g c z = f c z) := by
  have hq : q ≤ 14 ∧ 5 ≤ q := by rcases h with ⟨-, rfl⟩ | ⟨-, rfl⟩ <;> decide
  obtain ⟨j0, hj0, e0⟩ := l_cell (L := L) (xs := xs) (k := p + 0) (N := 6) hL (by omega) (by decide) (by decide)
  have c0 : ∀ g : pr_M, F_L_cell L xs (nI (p + 0)) 6 g = some (nI j0) := e0
  have b0 : 1 + nI j0 = nI (1 + j0) := nI_add 1 j0
  obtain ⟨r0, s0⟩ : ∃ r, F_X8_set 0 u 0 (nI (1 + j0)) (f) = some (r, pr_up (f) (q + 1) 0 (nI (1 + j0))) := v_setN (j := 0) (lo := 1) (hi := 20) h h3 h4 (by decide) rfl rfl (by omega) (by omega) (by decide)
  generalize hf0 : pr_up (f) (q + 1) 0 (nI (1 + j0)) = f0 at s0
  have t0 : ∀ c z, (c ≠ q + 1 ∨ z ≠ 0) → f0 c z = f c z := fun c z hc => by rw [← hf0, rd_n hc]
  have v0 : f0 (q + 1) 0 = nI (1 + j0) := by rw [← hf0, rd_e ⟨rfl, rfl⟩]
  obtain ⟨j1, hj1, e1⟩ := l_cell (L := L) (xs := xs) (k := p + 1) (N := 4) hL (by omega) (by decide) (by decide)
  have a1 : nI p + 1 = nI (p + 1) := nI_add p 1
  have c1 : ∀ g : pr_M, F_L_cell L xs (nI (p + 1)) 4 g = some (nI j1) := e1
  have b1 : 1 + nI j1 = nI (1 + j1) := nI_add 1 j1
  obtain ⟨r1, s1⟩ : ∃ r, F_X8_set 0 u 1 (nI (1 + j1)) (f0) = some (r, pr_up (f0) (q + 1) 1 (nI (1 + j1))) := v_setN (j := 1) (lo := 1) (hi := 10) h (by rw [t0 _ _ (by omega)]; exact h3) (by rw [t0 _ _ (by omega)]; exact h4) (by decide) rfl rfl (by omega) (by omega) (by decide)
  generalize hf1 : pr_up (f0) (q + 1) 1 (nI (1 + j1)) = f1 at s1
  have t1 : ∀ c z, (c ≠ q + 1 ∨ z ≠ 1) → f1 c z = f0 c z := fun c z hc => by rw [← hf1, rd_n hc]
  have v1 : f1 (q + 1) 1 = nI (1 + j1) := by rw [← hf1, rd_e ⟨rfl, rfl⟩]
  obtain ⟨j2, hj2, e2⟩ := l_cell (L := L) (xs := xs) (k := p + 2) (N := 400) hL (by omega) (by decide) (by decide)
  have a2 : nI p + 2 = nI (p + 2) := nI_add p 2
  have c2 : ∀ g : pr_M, F_L_cell L xs (nI (p + 2)) 400 g = some (nI j2) := e2
  have b2 : 5 + nI j2 = nI (5 + j2) := nI_add 5 j2
  obtain ⟨r2, s2⟩ : ∃ r, F_X8_set 0 u 2 (nI (5 + j2)) (f1) = some (r, pr_up (f1) (q + 1) 2 (nI (5 + j2))) := v_setN (j := 2) (lo := 5) (hi := 2000) h (by rw [t1 _ _ (by omega), t0 _ _ (by omega)]; exact h3) (by rw [t1 _ _ (by omega), t0 _ _ (by omega)]; exact h4) (by decide) rfl rfl (by omega) (by omega) (by decide)
  generalize hf2 : pr_up (f1) (q + 1) 2 (nI (5 + j2)) = f2 at s2
  have t2 : ∀ c z, (c ≠ q + 1 ∨ z ≠ 2) → f2 c z = f1 c z := fun c z hc => by rw [← hf2, rd_n hc]
  have v2 : f2 (q + 1) 2 = nI (5 + j2) := by rw [← hf2, rd_e ⟨rfl, rfl⟩]
  obtain ⟨j3, hj3, e3⟩ := l_cell (L := L) (xs := xs) (k := p + 3) (N := 5) hL (by omega) (by decide) (by decide)
  have a3 : nI p + 3 = nI (p + 3) := nI_add p 3
  have c3 : ∀ g : pr_M, F_L_cell L xs (nI (p + 3)) 5 g = some (nI j3) := e3
  have b3 : 1 + nI j3 = nI (1 + j3) := nI_add 1 j3
  obtain ⟨r3, s3⟩ : ∃ r, F_X8_set 0 u 3 (nI (1 + j3)) (f2) = some (r, pr_up (f2) (q + 1) 3 (nI (1 + j3))) := v_setN (j := 3) (lo := 1) (hi := 20) h (by rw [t2 _ _ (by omega), t1 _ _ (by omega), t0 _ _ (by omega)]; exact h3) (by rw [t2 _ _ (by omega), t1 _ _ (by omega), t0 _ _ (by omega)]; exact h4) (by decide) rfl rfl (by omega) (by omega) (by decide)
  generalize hf3 : pr_up (f2) (q + 1) 3 (nI (1 + j3)) = f3 at s3
  have t3 : ∀ c z, (c ≠ q + 1 ∨ z ≠ 3) → f3 c z = f2 c z := fun c z hc => by rw [← hf3, rd_n hc]
  have v3 : f3 (q + 1) 3 = nI (1 + j3) := by rw [← hf3, rd_e ⟨rfl, rfl⟩]
  obtain ⟨j4, hj4, e4⟩ := l_cell (L := L) (xs := xs) (k := p + 4) (N := 257) hL (by omega) (by decide) (by decide)
  have a4 : nI p + 4 = nI (p + 4) := nI_add p 4
  have c4 : ∀ g : pr_M, F_L_cell L xs (nI (p + 4)) 257 g = some (nI j4) := e4
  obtain ⟨r4, s4⟩ : ∃ r, F_X8_set 0 u 4 (nI j4) (f3) = some (r, pr_up (f3) (q + 1) 4 (nI j4)) := v_setN (j := 4) (lo := 0) (hi := 256) h (by rw [t3 _ _ (by omega), t2 _ _ (by omega), t1 _ _ (by omega), t0 _ _ (by omega)]; exact h3) (by rw [t3 _ _ (by omega), t2 _ _ (by omega), t1 _ _ (by omega), t0 _ _ (by omega)]; exact h4) (by decide) rfl rfl (by omega) (by omega) (by decide)
  generalize hf4 : pr_up (f3) (q + 1) 4 (nI j4) = f4 at s4
  have t4 : ∀ c z, (c ≠ q + 1 ∨ z ≠ 4) → f4 c z = f3 c z := fun c z hc => by rw [← hf4, rd_n hc]
  have v4 : f4 (q + 1) 4 = nI j4 := by rw [← hf4, rd_e ⟨rfl, rfl⟩]
  obtain ⟨j5, hj5, e5⟩ := l_cell (L := L) (xs := xs) (k := p + 5) (N := 40) hL (by omega) (by decide) (by decide)
  have a5 : nI p + 5 = nI (p + 5) := nI_add p 5
  have c5 : ∀ g : pr_M, F_L_cell L xs (nI (p + 5)) 40 g = some (nI j5) := e5
  obtain ⟨r5, s5⟩ : ∃ r, F_X8_set 0 u 5 (nI j5) (f4) = some (r, pr_up (f4) (q + 1) 5 (nI j5)) := v_setN (j := 5) (lo := 0) (hi := 256) h (by rw [t4 _ _ (by omega), t3 _ _ (by omega), t2 _ _ (by omega), t1 _ _ (by omega), t0 _ _ (by omega)]; exact h3) (by rw [t4 _ _ (by omega), t3 _ _ (by omega), t2 _ _ (by omega), t1 _ _ (by omega), t0 _ _ (by omega)]; exact h4) (by decide) rfl rfl (by omega) (by omega) (by decide)
  generalize hf5 : pr_up (f4) (q + 1) 5 (nI j5) = f5 at s5
  have t5 : ∀ c z, (c ≠ q + 1 ∨ z ≠ 5) → f5 c z = f4 c z := fun c z hc => by rw [← hf5, rd_n hc]
  have v5 : f5 (q + 1) 5 = nI j5 := by rw [← hf5, rd_e ⟨rfl, rfl⟩]
  obtain ⟨j6, hj6, e6⟩ := l_cell (L := L) (xs := xs) (k := p + 6) (N := 20) hL (by omega) (by decide) (by decide)
  have a6 : nI p + 6 = nI (p + 6) := nI_add p 6
  have c6 : ∀ g : pr_M, F_L_cell L xs (nI (p + 6)) 20 g = some (nI j6) := e6
  obtain ⟨r6, s6⟩ : ∃ r, F_X8_set 0 u 6 (nI j6) (f5) = some (r, pr_up (f5) (q + 1) 6 (nI j6)) := v_setN (j := 6) (lo := 0) (hi := 500) h (by rw [t5 _ _ (by omega), t4 _ _ (by omega), t3 _ _ (by omega), t2 _ _ (by omega), t1 _ _ (by omega), t0 _ _ (by omega)]; exact h3) (by rw [t5 _ _ (by omega), t4 _ _ (by omega), t3 _ _ (by omega), t2 _ _ (by omega), t1 _ _ (by omega), t0 _ _ (by omega)]; exact h4) (by decide) rfl rfl (by omega) (by omega) (by decide)
  generalize hf6 : pr_up (f5) (q + 1) 6 (nI j6) = f6 at s6
  have t6 : ∀ c z, (c ≠ q + 1 ∨ z ≠ 6) → f6 c z = f5 c z := fun c z hc => by rw [← hf6, rd_n hc]
  have v6 : f6 (q + 1) 6 = nI j6 := by rw [← hf6, rd_e ⟨rfl, rfl⟩]
  obtain ⟨j7, hj7, e7⟩ := l_cell (L := L) (xs := xs) (k := p + 7) (N := 400) hL (by omega) (by decide) (by decide)
  have a7 : nI p + 7 = nI (p + 7) := nI_add p 7
  have c7 : ∀ g : pr_M, F_L_cell L xs (nI (p + 7)) 400 g = some (nI j7) := e7
  have b7 : 20 + nI j7 = nI (20 + j7) := nI_add 20 j7
  obtain ⟨r7, s7⟩ : ∃ r, F_X8_set 0 u 7 (nI (20 + j7)) (f6) = some (r, pr_up (f6) (q + 1) 7 (nI (20 + j7))) := v_setN (j := 7) (lo := 1) (hi := 2000) h (by rw [t6 _ _ (by omega), t5 _ _ (by omega), t4 _ _ (by omega), t3 _ _ (by omega), t2 _ _ (by omega), t1 _ _ (by omega), t0 _ _ (by omega)]; exact h3) (by rw [t6 _ _ (by omega), t5 _ _ (by omega), t4 _ _ (by omega), t3 _ _ (by omega), t2 _ _ (by omega), t1 _ _ (by omega), t0 _ _ (by omega)]; exact h4) (by decide) rfl rfl (by omega) (by omega) (by decide)
  generalize hf7 : pr_up (f6) (q + 1) 7 (nI (20 + j7)) = f7 at s7
  have t7 : ∀ c z, (c ≠ q + 1 ∨ z ≠ 7) → f7 c z = f6 c z := fun c z hc => by rw [← hf7, rd_n hc]
  have v7 : f7 (q + 1) 7 = nI (20 + j7) := by rw [← hf7, rd_e ⟨rfl, rfl⟩]
  obtain ⟨j8, hj8, e8⟩ := l_cell (L := L) (xs := xs) (k := p + 8) (N := 257) hL (by omega) (by decide) (by decide)
  have a8 : nI p + 8 = nI (p + 8) := nI_add p 8
  have c8 : ∀ g : pr_M, F_L_cell L xs (nI (p + 8)) 257 g = some (nI j8) := e8
  obtain ⟨r8, s8⟩ : ∃ r, F_X8_set 0 u 8 (nI j8) (f7) = some (r, pr_up (f7) (q + 1) 8 (nI j8)) := v_setN (j := 8) (lo := 0) (hi := 256) h (by rw [t7 _ _ (by omega), t6 _ _ (by omega), t5 _ _ (by omega), t4 _ _ (by omega), t3 _ _ (by omega), t2 _ _ (by omega), t1 _ _ (by omega), t0 _ _ (by omega)]; exact h3) (by rw [t7 _ _ (by omega), t6 _ _ (by omega), t5 _ _ (by omega), t4 _ _ (by omega), t3 _ _ (by omega), t2 _ _ (by omega), t1 _ _ (by omega), t0 _ _ (by omega)]; exact h4) (by decide) rfl rfl (by omega) (by omega) (by decide)
  generalize hf8 : pr_up (f7) (q + 1) 8 (nI j8) = f8 at s8
  have t8 : ∀ c z, (c ≠ q + 1 ∨ z ≠ 8) → f8 c z = f7 c z := fun c z hc => by rw [← hf8, rd_n hc]
  have v8 : f8 (q + 1) 8 = nI j8 := by rw [← hf8, rd_e ⟨rfl, rfl⟩]
  obtain ⟨j9, hj9, e9⟩ := l_cell (L := L) (xs := xs) (k := p + 9) (N := 10) hL (by omega) (by decide) (by decide)
  have a9 : nI p + 9 = nI (p + 9) := nI_add p 9
  have c9 : ∀ g : pr_M, F_L_cell L xs (nI (p + 9)) 10 g = some (nI j9) := e9
  obtain ⟨r9, s9⟩ : ∃ r, F_X8_set 0 u 9 (nI j9) (f8) = some (r, pr_up (f8) (q + 1) 9 (nI j9)) := v_setN (j := 9) (lo := 0) (hi := 30) h (by rw [t8 _ _ (by omega), t7 _ _ (by omega), t6 _ _ (by omega), t5 _ _ (by omega), t4 _ _ (by omega), t3 _ _ (by omega), t2 _ _ (by omega), t1 _ _ (by omega), t0 _ _ (by omega)]; exact h3) (by rw [t8 _ _ (by omega), t7 _ _ (by omega), t6 _ _ (by omega), t5 _ _ (by omega), t4 _ _ (by omega), t3 _ _ (by omega), t2 _ _ (by omega), t1 _ _ (by omega), t0 _ _ (by omega)]; exact h4) (by decide) rfl rfl (by omega) (by omega) (by decide)
  generalize hf9 : pr_up (f8) (q + 1) 9 (nI j9) = f9 at s9
  have t9 : ∀ c z, (c ≠ q + 1 ∨ z ≠ 9) → f9 c z = f8 c z := fun c z hc => by rw [← hf9, rd_n hc]
  have v9 : f9 (q + 1) 9 = nI j9 := by rw [← hf9, rd_e ⟨rfl, rfl⟩]
  obtain ⟨j10, hj10, e10⟩ := l_cell (L := L) (xs := xs) (k := p + 10) (N := 201) hL (by omega) (by decide) (by decide)
  have a10 : nI p + 10 = nI (p + 10) := nI_add p 10
  have c10 : ∀ g : pr_M, F_L_cell L xs (nI (p + 10)) 201 g = some (nI j10) := e10
  obtain ⟨r10, s10⟩ := v_push (j := j10) (f := f9) h (by rw [t9 _ _ (by omega), t8 _ _ (by omega), t7 _ _ (by omega), t6 _ _ (by omega), t5 _ _ (by omega), t4 _ _ (by omega), t3 _ _ (by omega), t2 _ _ (by omega), t1 _ _ (by omega), t0 _ _ (by omega)]; exact h3) (by rw [t9 _ _ (by omega), t8 _ _ (by omega), t7 _ _ (by omega), t6 _ _ (by omega), t5 _ _ (by omega), t4 _ _ (by omega), t3 _ _ (by omega), t2 _ _ (by omega), t1 _ _ (by omega), t0 _ _ (by omega)]; exact h4) hj10
  generalize hf10 : pr_up f9 (q + 1) 10 (nI j10 - 100) = f10 at s10
  have t10' : ∀ c z, (c ≠ q + 1 ∨ z ≠ 10) → f10 c z = f9 c z := fun c z hc => by rw [← hf10, rd_n hc]
  obtain ⟨j11, hj11, e11⟩ := l_cell (L := L) (xs := xs) (k := p + 11) (N := 600) hL (by omega) (by decide) (by decide)
  have a11 : nI p + 11 = nI (p + 11) := nI_add p 11
  have c11 : ∀ g : pr_M, F_L_cell L xs (nI (p + 11)) 600 g = some (nI j11) := e11
  obtain ⟨r11, s11⟩ := v_adj0 (j := j11) (f := f10) h (by rw [t10' _ _ (by omega), t9 _ _ (by omega), t8 _ _ (by omega), t7 _ _ (by omega), t6 _ _ (by omega), t5 _ _ (by omega), t4 _ _ (by omega), t3 _ _ (by omega), t2 _ _ (by omega), t1 _ _ (by omega), t0 _ _ (by omega)]; exact h3) hj11
  generalize hf11 : pr_up f10 (q + 2) 2 (nI j11 - 300) = f11 at s11
  have t11 : ∀ c z, (c ≠ q + 2 ∨ z ≠ 2) → f11 c z = f10 c z := fun c z hc => by rw [← hf11, rd_n hc]
  obtain ⟨j12, hj12, e12⟩ := l_cell (L := L) (xs := xs) (k := p + 12) (N := 200) hL (by omega) (by decide) (by decide)
  have a12 : nI p + 12 = nI (p + 12) := nI_add p 12
  have c12 : ∀ g : pr_M, F_L_cell L xs (nI (p + 12)) 200 g = some (nI j12) := e12
  obtain ⟨r12, s12⟩ := v_adj2 (j := j12) (f := f11) h (by rw [t11 _ _ (by omega), t10' _ _ (by omega), t9 _ _ (by omega), t8 _ _ (by omega), t7 _ _ (by omega), t6 _ _ (by omega), t5 _ _ (by omega), t4 _ _ (by omega), t3 _ _ (by omega), t2 _ _ (by omega), t1 _ _ (by omega), t0 _ _ (by omega)]; exact h3) hj12
  generalize hf12 : pr_up f11 (q + 2) 4 (nI j12 - 100) = f12 at s12
  have t12 : ∀ c z, (c ≠ q + 2 ∨ z ≠ 4) → f12 c z = f11 c z := fun c z hc => by rw [← hf12, rd_n hc]
  refine ⟨f12, 1 + j0, 1 + j1, j9, ?_, ⟨by omega, by omega, ?_⟩, ⟨by omega, by omega, ?_⟩, ⟨by omega, ?_⟩, fun c z h1 h2 => ?_⟩
  · unfold F_L_settings
    rw [show F_L_cell L xs (nI p) 6 f = some (nI j0) from e0 f, pr_b1_s, b0, s0, pr_bd_s, a1, c1, pr_b1_s, b1, s1, pr_bd_s, a2, c2, pr_b1_s, b2, s2, pr_bd_s, a3, c3, pr_b1_s, b3, s3, pr_bd_s, a4, c4, pr_b1_s, s4, pr_bd_s, a5, c5, pr_b1_s, s5, pr_bd_s, a6, c6, pr_b1_s, s6, pr_bd_s, a7, c7, pr_b1_s, b7, s7, pr_bd_s, a8, c8, pr_b1_s, s8, pr_bd_s, a9, c9, pr_b1_s, s9, pr_bd_s, a10, c10, pr_b1_s, s10, pr_bd_s, a11, c11, pr_b1_s, s11, pr_bd_s, a12, c12, pr_b1_s, s12, pr_bd_s]
  · rw [t12 _ _ (by omega), t11 _ _ (by omega), t10' _ _ (by omega), t9 _ _ (by omega), t8 _ _ (by omega), t7 _ _ (by omega), t6 _ _ (by omega), t5 _ _ (by omega), t4 _ _ (by omega), t3 _ _ (by omega), t2 _ _ (by omega), t1 _ _ (by omega), v0]
  · rw [t12 _ _ (by omega), t11 _ _ (by omega), t10' _ _ (by omega), t9 _ _ (by omega), t8 _ _ (by omega), t7 _ _ (by omega), t6 _ _ (by omega), t5 _ _ (by omega), t4 _ _ (by omega), t3 _ _ (by omega), t2 _ _ (by omega), v1]
  · rw [t12 _ _ (by omega), t11 _ _ (by omega), t10' _ _ (by omega), v9]
  · rw [t12 c z (by omega), t11 c z (by omega), t10' c z (by omega), t9 c z (by omega), t8 c z (by omega), t7 c z (by omega), t6 c z (by omega), t5 c z (by omega), t4 c z (by omega), t3 c z (by omega), t2 c z (by omega), t1 c z (by omega), t0 c z (by omega)]
theorem lk_all (L : Nat) (xs : Nat → Int32) (hL : L ≤ 260) : lk_ok L xs := by
  intro g0 hg0
  obtain ⟨g1, e1, a3, aj, at_, au, -⟩ := bg_press 1 2 g0
  have z1 : ∀ j, 4 ≤ j → j ≤ 9 → g1 1 j = 0 := aj
  have u5 : bg_u g1 5 := au 0 (by decide)
  have u14 : bg_u g1 14 := au 1 (by decide)
  obtain ⟨g2, d0, s0, r0, e2, -, ⟨q1, q2, q3⟩, ⟨q4, q5⟩, A2⟩ := v_settings (L := L) (xs := xs) (p := 0) (f := g1) hL (by decide) uq0 a3 (z1 4 (by decide) (by decide))
  obtain ⟨g3, d, s, r, e3, ⟨p1, p2, p3⟩, ⟨p4, p5, p6⟩, ⟨p7, p8⟩, A3⟩ := v_settings (L := L) (xs := xs) (p := 13) (f := g2) hL (by decide) uq1 (by rw [A2 _ _ (by omega) (by omega)]; exact a3) (by rw [A2 _ _ (by omega) (by omega)]; exact z1 4 (by decide) (by decide))
  have Z : ∀ c z, c < 201 → fz g3 c z = g3 c z := fun c z hc => if_pos hc
  have W : ∀ c z, 201 ≤ c → fz g3 c z = 0 := fun c z hc => if_neg (by omega)
  have A : ∀ c z, c < 201 → c ≠ 6 → c ≠ 15 → (c ≠ 7 ∨ (z ≠ 2 ∧ z ≠ 4)) → (c ≠ 16 ∨ (z ≠ 2 ∧ z ≠ 4)) → fz g3 c z = g1 c z := fun c z h0 h1 h2 h3 h4 => by
    rw [Z c z h0, A3 c z (by omega) (by omega), A2 c z (by omega) (by omega)]
  have hN : ∀ q, (q = 5 ∨ q = 14) → ∀ j, (j = 7 ∨ j = 10 ∨ j = 11 ∨ j = 12) → nu (fz g3) q j = 0 := fun q hq j hj => by
    have hu : bg_u g1 q := by rcases hq with rfl | rfl; exact u5; exact u14
    obtain ⟨-, h2, h5, h6, -⟩ := hu
    rcases hj with rfl | rfl | rfl | rfl
    · show fz g3 (q + 5) 4 = 0
      rw [A _ _ (by omega) (by omega) (by omega) (by omega) (by omega)]; exact h5 4 (by decide)
    · show fz g3 (q + 2) 7 = 0
      rw [A _ _ (by omega) (by omega) (by omega) (by omega) (by omega)]; exact h2 7 (by decide) (by decide)
    · show fz g3 (q + 6) 1 = 0
      rw [A _ _ (by omega) (by omega) (by omega) (by omega) (by omega)]; exact h6 1 (by decide) (by decide)
    · show fz g3 (q + 6) 3 = 0
      rw [A _ _ (by omega) (by omega) (by omega) (by omega) (by omega)]; exact h6 3 (by decide) (by decide)
  have hw : ∀ q, (q = 5 ∨ q = 14) → fz g3 (q + 5) 2 = 0 := fun q hq => by
    have hu : bg_u g1 q := by rcases hq with rfl | rfl; exact u5; exact u14
    rw [A _ _ (by omega) (by omega) (by omega) (by omega) (by omega)]; exact hu.2.2.1 2 (by decide)
  have I : Iv (fz g3) 0 s d (-1) 0 1 0 := by
    refine ⟨⟨?_, ?_, ?_⟩, ⟨Or.inl ⟨?_, rfl⟩, fun h => absurd ?_ h⟩, ⟨?_, ?_⟩, ⟨⟨s0 + r0, by omega, ?_⟩, fun j hj _ => hN 5 (Or.inl rfl) j hj, fun h => ?_, fun h => ?_⟩, ⟨⟨s + r, by omega, ?_⟩, fun j hj _ => hN 14 (Or.inr rfl) j hj, fun h => ?_, fun h => ?_⟩, ⟨?_, ?_⟩, fun j hj => absurd hj (Nat.not_lt_zero j), ?_, ?_⟩
    · rw [A _ _ (by omega) (by omega) (by omega) (by omega) (by omega)]; exact a3
    · rw [A _ _ (by omega) (by omega) (by omega) (by omega) (by omega)]; exact z1 4 (by decide) (by decide)
    · rw [A _ _ (by omega) (by omega) (by omega) (by omega) (by omega)]; exact z1 6 (by decide) (by decide)
    · rw [A _ _ (by omega) (by omega) (by omega) (by omega) (by omega)]; exact z1 9 (by decide) (by decide)
    · rw [A _ _ (by omega) (by omega) (by omega) (by omega) (by omega)]; exact z1 9 (by decide) (by decide)
    · rw [Z _ _ (by omega)]; exact p3
    · rw [Z _ _ (by omega)]; exact p6
    · rw [Z (5 + 1) 1 (by omega), Z (5 + 1) 9 (by omega), A3 (5 + 1) 1 (by omega) (by omega), A3 (5 + 1) 9 (by omega) (by omega), q3, q5, nI_add]
    · rw [show fz g3 (5 + 2) 7 = 0 from hN 5 (Or.inl rfl) 10 (by omega)] at h; exact absurd h (by decide)
    · rw [hw 5 (Or.inl rfl)] at h; exact absurd h (by decide)
    · rw [Z (14 + 1) 1 (by omega), Z (14 + 1) 9 (by omega), p6, p8, nI_add]
    · rw [show fz g3 (14 + 2) 7 = 0 from hN 14 (Or.inr rfl) 10 (by omega)] at h; exact absurd h (by decide)
    · rw [hw 14 (Or.inr rfl)] at h; exact absurd h (by decide)
    · rw [W 204 4 (by omega), A _ _ (by omega) (by omega) (by omega) (by omega) (by omega)]; exact u14.2.2.2.1 2 (by decide) (by decide)
    · rw [A _ _ (by omega) (by omega) (by omega) (by omega) (by omega)]; exact u5.2.2.2.1 4 (by decide) (by decide)
    · rw [Nat.zero_sub, A _ _ (by omega) (by omega) (by omega) (by omega) (by omega)]; exact u14.2.2.2.2
    · rw [Nat.zero_sub, A (1 + 3) 0 (by omega) (by omega) (by omega) (by omega) (by omega), A (1 + 3) 2 (by omega) (by omega) (by omega) (by omega) (by omega), at_ 0 (by decide), at_ 2 (by decide)]; decide
  obtain ⟨g', E⟩ := j_loop (L := L) (xs := xs) (s := s) (d := d) hL p1 p2 p4 p5 40 0 pr_fuel (fz g3) (-1) 0 1 0 rfl (by decide) I
  have h3 : fz g3 1 3 = 2 := I.1.1
  have hd : fz g3 (14 + 1) 0 = nI d := I.2.2.1.1
  have hs : fz g3 (14 + 1) 1 = nI s := I.2.2.1.2
  refine ⟨g0 1 4, g1, g2, g3, g', ?_, e2, e3, ?_⟩
  · unfold F_X8_setUp
    rw [rc_outside, if_neg (by decide), if_pos (by decide), pr_b1_s, if_pos rfl, Nat.zero_add, e1, pr_bd_s]
  · have w13 : F_X8_state 0 1 13 (fz g3) = some (nI d) := c_st13 uq1 h3 (by rw [c_way1 h3, hd])
    unfold F_L_main
    rw [w13, pr_b1_s, c_get_1 uq1 h3, pr_b1_s, hs]
    exact E
