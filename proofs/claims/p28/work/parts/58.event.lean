/-! ===== what a cell of the script says; the seven kinds of events ===== -/
theorem l_cell {L k N : Nat} {xs : Nat → Int32} (hL : L ≤ 260) (hk : k ≤ 300) (h0 : 0 < N) (hN : N < 2 ^ 22) : ∃ j, j < N ∧ ∀ f : pr_M, F_L_cell L xs (nI k) (nI N) f = some (nI j) := by
  have nz : ¬ nI N = 0 := nI_ne0 h0 (by omega)
  by_cases hz : L = 0
  · subst hz
    refine ⟨(k * 37 + 5) % N, Nat.mod_lt _ h0, fun f => ?_⟩
    have e : nI k * 37 + 5 = nI (k * 37 + 5) := by rw [show (37 : Int32) = nI 37 from rfl, pk_mul, show (5 : Int32) = nI 5 from rfl, nI_add]
    unfold F_L_cell
    rw [if_pos (show nI 0 = 0 from rfl), pr_b1_s, pr_gdT nz, e, pk_rem (by omega) h0 (by omega)]
  · have hr : nI k - nI k / nI L * nI L = nI (k % L) := pk_rem (by omega) (by omega) (by omega)
    have hl : k % L < L := Nat.mod_lt _ (by omega)
    obtain ⟨j, hj, e⟩ := pk_andE (xs (k % L) >>> ((nI k - nI k / 7 * 7) &&& 31)) (m := 4194303) 22 (by decide)
    refine ⟨j % N, Nat.mod_lt _ h0, fun f => ?_⟩
    unfold F_L_cell
    rw [if_neg (nI_ne0 (by omega) (by omega)), hr, pr_gd_i hl (by omega), ri_cl (by omega), e, pr_b1_s, pr_gdT nz, pk_rem (by omega) h0 (by omega)]
theorem i_absN {j : Nat} (hj : j < 401) : ∃ m, m ≤ 200 ∧ rv_abs (nI j - 200) = nI m := by
  have e2 : (200 : Int32) = nI 200 := rfl
  unfold rv_abs
  rw [e2]
  by_cases h : 200 ≤ j
  · refine ⟨j - 200, by omega, ?_⟩
    rw [pk_sub h, if_pos (nI_pos' (by omega))]
  · refine ⟨200 - j, by omega, ?_⟩
    rw [if_neg (Int32.not_le.mpr (pk_sneg (by omega) (by omega))), Int32.zero_sub, Int32.neg_sub, pk_sub (by omega)]
theorem i_numN {j : Nat} (hj : j < 401) : ¬ (nI j - 200) < -3000 ∧ (nI j - 200) ≤ 3000 := by
  have e : (nI j - 200).toInt = (j : Int) - 200 := pk_sub_toInt (b := 200) (by omega) (by decide)
  refine ⟨?_, ?_⟩
  · rw [Int32.lt_iff_toInt_lt, e, show (-3000 : Int32).toInt = -3000 by decide]
    omega
  · rw [Int32.le_iff_toInt_le, e, show (3000 : Int32).toInt = 3000 by decide]
    omega
theorem i_manyN {j : Nat} (hj : j < 8) (lo hi : Nat) (h1 : lo ≤ 1) (h2 : 9 ≤ hi) (h3 : hi < 100) : ¬ (1 + nI j) < nI lo ∧ (1 + nI j) ≤ nI hi ∧ 0 < 1 + nI j := by
  have e : 1 + nI j = nI (1 + j) := nI_add 1 j
  rw [e]
  exact ⟨nI_nlt (by omega) (by omega), nI_le (by omega) (by omega), nI_lt (a := 0) (by omega) (by omega)⟩
theorem v_speed {m : Nat} {f : pr_M} (hm : m ≤ 200) : F_X8_speed 0 (nI m) f = some (f 1 5, pr_up f 1 5 (nI m)) := by
  unfold F_X8_speed
  rw [rc_outside, if_neg (nI_pos (by omega)), if_pos (show nI m ≤ 1000 from nI_le (b := 1000) (by omega) (by decide)), pr_b1_s, if_pos rfl, Nat.zero_add, pr_lt_s]
theorem v_isDist {i j : Nat} {f : pr_M} (hi : i < 401) (hj : j < 8) : F_X8_isDisturbance (nI i - 200) (1 + nI j) f = some 1 := by
  have h1 := i_numN hi
  have h2 := i_manyN hj 1 50 (by decide) (by decide) (by decide)
  unfold F_X8_isDisturbance
  rw [rc_outside, if_neg h1.1, if_pos h1.2, pr_b1_s, if_pos rfl, rc_outside, if_neg (show ¬ (1 + nI j) < 1 from h2.1), if_pos (show 1 + nI j ≤ 50 from h2.2.1), pr_b1_s, if_pos rfl]
theorem v_disturb {u : Int32} {q i j : Nat} {f : pr_M} (h : UQ u q) (h3 : f 1 3 = 2) (hi : i < 401) (hj : j < 8) : ∃ r, F_X8_disturb 0 u (nI i - 200) (1 + nI j) f = some (r, pr_up (pr_up (pr_up f (q + 2) 5 (nI i - 200)) (q + 2) 6 (1 + nI j)) (q + 2) 7 (1 + nI j)) := by
  refine ⟨?_, ?_⟩
  rotate_left
  · unfold F_X8_disturb F_X4_beDisturbed
    rw [Nat.zero_add, c_unit h h3, pr_b1_s, pr_op_S, pr_gdT (c_lc h), v_isDist hi hj, pr_b1_s, if_neg t10, pr_lt_s, pr_lt_s, pr_lt_s, pr_bd_s]
theorem v_hide {j : Nat} {f : pr_M} (h3 : f 1 3 = 2) (hj : j < 8) : ∃ r, F_X8_hide 0 1 (1 + nI j) f = some (r, pr_up f (14 + 6) 1 (1 + nI j)) := by
  have h2 := i_manyN hj 0 50 (by decide) (by decide) (by decide)
  refine ⟨?_, ?_⟩
  rotate_left
  · unfold F_X8_hide
    rw [Nat.zero_add, c_unit uq1 h3, pr_b1_s, pr_op_S, pr_gdT (c_lc uq1), rc_outside, if_neg (show ¬ (1 + nI j) < 0 from h2.1), if_pos (show 1 + nI j ≤ 50 from h2.2.1), pr_b1_s, if_pos rfl, pr_lt_s]
theorem v_false {i j : Nat} {f : pr_M} (h3 : f 1 3 = 2) (hi : i < 401) (hj : j < 8) : ∃ r, F_X8_falseMark 0 1 (nI i - 200) (1 + nI j) f = some (r, pr_up (pr_up f (14 + 6) 2 (nI i - 200)) (14 + 6) 3 (1 + nI j)) := by
  have h1 := i_numN hi
  have h2 := i_manyN hj 0 50 (by decide) (by decide) (by decide)
  refine ⟨?_, ?_⟩
  rotate_left
  · unfold F_X8_falseMark
    rw [Nat.zero_add, c_unit uq1 h3, pr_b1_s, pr_op_S, pr_gdT (c_lc uq1), rc_outside, if_neg h1.1, if_pos h1.2, pr_b1_s, if_pos rfl, rc_outside, if_neg (show ¬ (1 + nI j) < 0 from h2.1), if_pos (show 1 + nI j ≤ 50 from h2.2.1), pr_b1_s, if_pos rfl, pr_lt_s, pr_lt_s]
theorem v_splice {i j t d : Nat} {f : pr_M} (h3 : f 1 3 = 2) (h4 : f 1 4 = nI t) (hd : f (14 + 1) 0 = nI d) (ht : t < 100) (hd9 : d ≤ 9) (hi : i < 401) (hj : j < 8) :
    F_X8_splice 0 (nI i - 200) (1 + nI j) f = some (nI d + 1, pr_up (pr_up (pr_up f 1 7 (nI t)) 1 8 (nI i - 200)) 1 9 (1 + nI j)) := by
  have h2 := i_manyN hj 1 50 (by decide) (by decide) (by decide)
  have e : nI t + nI d + 1 - nI t = nI (d + 1) := by rw [nI_add, nI_1, pk_sub (by omega), show t + d + 1 - t = d + 1 by omega]
  have e1 : (2 : Int32) - 1 = 1 := by decide
  generalize hg : pr_up (pr_up (pr_up f 1 7 (nI t)) 1 8 (nI i - 200)) 1 9 (1 + nI j) = g
  have g3 : g 1 3 = 2 := by rw [← hg]; simp (disch := omega) only [rd_n]; exact h3
  have g4 : g 1 4 = nI t := by rw [← hg]; simp (disch := omega) only [rd_n]; exact h4
  have g7 : g 1 7 = nI t := by rw [← hg]; simp (disch := omega) only [rd_n, rd_e]
  have g9 : g 1 9 = 1 + nI j := by rw [← hg]; simp (disch := omega) only [rd_n, rd_e]
  have gd : g (14 + 1) 0 = nI d := by rw [← hg]; simp (disch := omega) only [rd_n]; exact hd
  unfold F_X8_splice F_X3_startSplice
  rw [v_isDist hi hj, pr_b1_s, if_neg t10, Nat.zero_add, pr_lt_s, pr_lt_s, pr_lt_s, pr_bd_s, h4, hg]
  unfold F_X3_repeatsToLastUnit
  rw [g9, if_neg (ri_pos0 h2.2.2), g3, e1, c_way1 g3, pr_b1_s, g7, g4, gd, e, if_pos (show 0 < nI (d + 1) from nI_lt (a := 0) (by omega) (by omega)), pr_b1_s, nI_1]
/-- an event leaves all but what it is about -/
def ev_ex (c z : Nat) : Prop := (c = 1 ∧ (z = 5 ∨ z = 7 ∨ z = 8 ∨ z = 9)) ∨ ((c = 7 ∨ c = 16) ∧ (z = 5 ∨ z = 6 ∨ z = 7)) ∨ (c = 20 ∧ (z = 1 ∨ z = 2 ∨ z = 3)) ∨ ((c = 203 ∨ c = 204) ∧ (z = 0 ∨ z = 1 ∨ z = 4))
theorem Iv_upd {f g : pr_M} {t s d : Nat} {x13 x14 x15 x16 y13 y14 y15 : Int32} (I : Iv f t s d x13 x14 x15 x16) (H : ∀ c z, ¬ ev_ex c z → g c z = f c z) (hsp : spl g t y13) (hsv : ¬ g 1 9 = 0 → g 1 8 = y14 ∧ g 1 9 = y15 ∧ 0 < y15) (d0 : dst g 5 203) (d1 : dst g 14 204)
    (n0 : g (5 + 2) 7 ≤ 0 → g (5 + 2) 7 = 0) (n1 : g (14 + 2) 7 ≤ 0 → g (14 + 2) 7 = 0) (n2 : g (14 + 6) 1 ≤ 0 → g (14 + 6) 1 = 0) (n3 : g (14 + 6) 3 ≤ 0 → g (14 + 6) 3 = 0) (hf : g (14 + 6) 2 = g 204 4) : Iv g t s d y13 y14 y15 x16 := by
  obtain ⟨⟨h3, h4, h6⟩, -, ⟨hd, hs⟩, ⟨rd0, nn0, -, ak0⟩, ⟨rd1, nn1, -, ak1⟩, ⟨-, hw⟩, hr, hl, hto⟩ := I
  have N : ∀ c z, ¬ ((c = 1 ∧ (z = 5 ∨ z = 7 ∨ z = 8 ∨ z = 9)) ∨ ((c = 7 ∨ c = 16) ∧ (z = 5 ∨ z = 6 ∨ z = 7)) ∨ (c = 20 ∧ (z = 1 ∨ z = 2 ∨ z = 3)) ∨ ((c = 203 ∨ c = 204) ∧ (z = 0 ∨ z = 1 ∨ z = 4))) → g c z = f c z := H
  refine ⟨⟨?_, ?_, ?_⟩, ⟨hsp, hsv⟩, ⟨?_, ?_⟩, ⟨?_, ?_, d0, ?_⟩, ⟨?_, ?_, d1, ?_⟩, ⟨hf, ?_⟩, ?_, ?_, ?_⟩
  · rw [N _ _ (by omega)]; exact h3
  · rw [N _ _ (by omega)]; exact h4
  · rw [N _ _ (by omega)]; exact h6
  · rw [N _ _ (by omega)]; exact hd
  · rw [N _ _ (by omega)]; exact hs
  · unfold rdy at rd0 ⊢
    rw [N (5 + 1) 1 (by omega), N (5 + 1) 9 (by omega)]; exact rd0
  · intro j hj
    rcases hj with rfl | rfl | rfl | rfl
    · show g (5 + 5) 4 ≤ 0 → g (5 + 5) 4 = 0
      rw [N _ _ (by omega)]; exact nn0 7 (by omega)
    · exact n0
    · show g (5 + 6) 1 ≤ 0 → g (5 + 6) 1 = 0
      rw [N _ _ (by omega)]; exact nn0 11 (by omega)
    · show g (5 + 6) 3 ≤ 0 → g (5 + 6) 3 = 0
      rw [N _ _ (by omega)]; exact nn0 12 (by omega)
  · unfold adk at ak0 ⊢
    rw [N (5 + 5) 2 (by omega), N (5 + 5) 7 (by omega), N (5 + 5) 8 (by omega), N 203 2 (by omega), N 203 3 (by omega)]; exact ak0
  · unfold rdy at rd1 ⊢
    rw [N (14 + 1) 1 (by omega), N (14 + 1) 9 (by omega)]; exact rd1
  · intro j hj
    rcases hj with rfl | rfl | rfl | rfl
    · show g (14 + 5) 4 ≤ 0 → g (14 + 5) 4 = 0
      rw [N _ _ (by omega)]; exact nn1 7 (by omega)
    · exact n1
    · exact n2
    · exact n3
  · unfold adk at ak1 ⊢
    rw [N (14 + 5) 2 (by omega), N (14 + 5) 7 (by omega), N (14 + 5) 8 (by omega), N 204 2 (by omega), N 204 3 (by omega)]; exact ak1
  · rw [N _ _ (by omega)]; exact hw
  · intro j hj
    rw [N (5 + 2 + 1) j (by omega), N (14 + 2 + 1) j (by omega), N (14 + 2 + 2) j (by omega), N (1 + 2) j (by omega), N 205 j (by omega), N 206 j (by omega), N 208 j (by omega), N 209 j (by omega)]
    exact hr j hj
  · rw [N _ _ (by omega)]; exact hl
  · rw [N (1 + 3) 0 (by omega), N (1 + 3) 2 (by omega)]; exact hto
