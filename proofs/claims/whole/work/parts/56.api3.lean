theorem rm_restart {u : Nat} {b : pr_M} {r : Int32} (hu : u < 5) : L_X9_restart_22 0 (nI u) r pr_fuel 14 b = some ((), (pr_up (pr_up (pr_up (pr_up (pr_up (pr_up (pr_up b 1 (353 * u + 14) 0) 1 (353 * u + 15) 0) 1 (353 * u + 16) 0) 1 (353 * u + 17) 0) 1 (353 * u + 18) 0) 1 (353 * u + 19) 0) 1 (353 * u + 20) 0)) := by
  have e14 : (14 : Int32) = 14 := by decide
  have c14 : ¬ (20 : Int32) < 14 := by decide
  have e15 : (14 + 1 : Int32) = 15 := by decide
  have c15 : ¬ (20 : Int32) < 14 + 1 := by decide
  have e16 : (14 + 1 + 1 : Int32) = 16 := by decide
  have c16 : ¬ (20 : Int32) < 14 + 1 + 1 := by decide
  have e17 : (14 + 1 + 1 + 1 : Int32) = 17 := by decide
  have c17 : ¬ (20 : Int32) < 14 + 1 + 1 + 1 := by decide
  have e18 : (14 + 1 + 1 + 1 + 1 : Int32) = 18 := by decide
  have c18 : ¬ (20 : Int32) < 14 + 1 + 1 + 1 + 1 := by decide
  have e19 : (14 + 1 + 1 + 1 + 1 + 1 : Int32) = 19 := by decide
  have c19 : ¬ (20 : Int32) < 14 + 1 + 1 + 1 + 1 + 1 := by decide
  have e20 : (14 + 1 + 1 + 1 + 1 + 1 + 1 : Int32) = 20 := by decide
  have c20 : ¬ (20 : Int32) < 14 + 1 + 1 + 1 + 1 + 1 + 1 := by decide
  have c21 : (20 : Int32) < 14 + 1 + 1 + 1 + 1 + 1 + 1 + 1 := by decide
  rw [show pr_fuel = 3992 + 1 + 1 + 1 + 1 + 1 + 1 + 1 + 1 from rfl]
  rw [L_X9_restart_22, if_neg c14, rm_lay_14 _ _ hu, pr_bd_s]
  rw [L_X9_restart_22, if_neg c15, e15, rm_lay_15 _ _ hu, pr_bd_s, ← e15]
  rw [L_X9_restart_22, if_neg c16, e16, rm_lay_16 _ _ hu, pr_bd_s, ← e16]
  rw [L_X9_restart_22, if_neg c17, e17, rm_lay_17 _ _ hu, pr_bd_s, ← e17]
  rw [L_X9_restart_22, if_neg c18, e18, rm_lay_18 _ _ hu, pr_bd_s, ← e18]
  rw [L_X9_restart_22, if_neg c19, e19, rm_lay_19 _ _ hu, pr_bd_s, ← e19]
  rw [L_X9_restart_22, if_neg c20, e20, rm_lay_20 _ _ hu, pr_bd_s, ← e20]
  rw [L_X9_restart_22, if_pos c21]
theorem s_restart {a b : pr_M} (h : rr a b) (x : Int32) : owe (F_X8_restart 0 x a) (F_X9_restart 0 x b) := by
  obtain ⟨t, ht, n, hn⟩ := h.1
  unfold F_X8_restart F_X9_restart
  rcases ap_unit hn x with ⟨u, hu, hu5, rfl, e1, e2⟩ | ⟨e1, e2, -⟩
  · rw [e1, e2, pr_b1_s, pr_b1_s, if_neg (by decide)]
    unfold pr_op pr_gd
    dsimp only
    rw [if_pos (lc_u hu5), rm_of_14 _ hu5, pr_b1_s, rm_restart hu5, pr_bd_s]
    unfold F_X0_clear
    simp only [pr_lt_s, pr_bd_s]
    have K := k_of hn hu
    refine ⟨_, _, _, by rw [show a (1 + 1 + 3 + 9 * u + 5) 0 = b 1 (353 * u + 14) from K.1.2.2.1.1], rfl, rr_unit h ht hn hu (uk_clear K) (fun s hs => by simp (disch := omega) only [rd_n]) (fun k h1 h2 => by simp (disch := omega) only [rd_n]) (fun c s hc => by simp (disch := omega) only [rd_n]) (fun c k hc => by simp (disch := omega) only [rd_n]) (Or.inl (by simp (disch := omega) only [rd_n]))⟩
  · rw [e1, e2, pr_b1_s, pr_b1_s, if_pos rfl]
    exact owe_same h _ rfl rfl
theorem s_adjust {a b : pr_M} (h : rr a b) (x y z : Int32) : owe (F_X8_adjust 0 x y z a) (F_X9_adjust 0 x y z b) := by
  obtain ⟨t, ht, n, hn⟩ := h.1
  unfold F_X8_adjust F_X9_adjust
  rcases ap_unit hn x with ⟨u, hu, hu5, rfl, e1, e2⟩ | ⟨e1, e2, -⟩
  · rw [e1, e2, pr_b1_s, pr_b1_s, if_neg (by decide), rc_outside, rm_in]
    unfold pr_op
    dsimp only
    rw [show pr_gd (pr_LC[1 + 1 + 3 + 9 * u]? = some (7, 0)) = fun (X : Option (Int32 × pr_M)) => X from by funext X; exact if_pos (lc_u hu5)]
    dsimp only
    rw [pr_b1_s]
    have K := k_of hn hu
    obtain ⟨k2, k3, k4, -⟩ := K.1.2.1
    dsimp only [ru_U, ru_V, uq] at k2 k3 k4
    by_cases c1 : y < 0
    · have hy0 : ¬ y = 0 := by rintro rfl; exact absurd c1 (by decide)
      have hy1 : ¬ y = 1 := by rintro rfl; exact absurd c1 (by decide)
      rw [if_pos c1, if_neg (by decide), if_neg hy0, if_neg hy1, pr_b1_s, pr_b1_s, if_pos c1, if_pos rfl]
      exact owe_same h _ rfl rfl
    · rw [if_neg c1]
      by_cases c2 : y ≤ 2
      · have h3 : y = 0 ∨ y = 1 ∨ y = 2 := by
          obtain ⟨j, hj, rfl⟩ := nI_of2 (M := 2) (n := 2) (by decide) c1 c2
          rcases (show j = 0 ∨ j = 1 ∨ j = 2 by omega) with rfl | rfl | rfl
          · exact Or.inl rfl
          · exact Or.inr (Or.inl rfl)
          · exact Or.inr (Or.inr rfl)
        rw [if_pos c2, if_pos rfl]
        rcases h3 with rfl | rfl | rfl
        · have g : pr_x3.getD (Int32.toNatClampNeg 0) 0 = 5000 := by decide +kernel
          have g2 : ∀ (X : Option (Int32 × pr_M)), pr_gd (¬ (((0 : Int32)) < 0 ∨ 3 ≤ Int32.toNatClampNeg 0)) X = X := fun X => if_pos (by decide +kernel)
          have p : (11 : Int32) + 0 = 11 := by decide
          rw [g2, g, if_pos rfl, pr_b1_s, pr_b1_s, if_neg (show ¬ ((0 : Int32)) < 0 by decide), if_neg (show ¬ (2 : Int32) < 0 by decide), if_neg (by decide), rc_outside, rm_in, pr_b1_s, pr_b1_s, p]
          by_cases c3 : z < -5000
          · rw [if_pos c3, if_pos c3, if_neg (by decide), if_pos rfl]
            exact owe_same h _ rfl rfl
          · rw [if_neg c3, if_neg c3]
            by_cases c4 : z ≤ 5000
            · have q1 : F_X4_byHand (1 + 1 + 3 + 9 * u + 2) 0 a = some (a (1 + 1 + 3 + 9 * u + 2) 2) := by
                unfold F_X4_byHand
                rw [if_pos rfl]
              have q2 : F_X4_changeByHand (1 + 1 + 3 + 9 * u + 2) 0 z a = some ((), pr_up a (1 + 1 + 3 + 9 * u + 2) 2 z) := by
                unfold F_X4_changeByHand
                rw [if_pos rfl, pr_lt_s]
              rw [if_pos c4, if_neg (Int32.not_lt.mpr c4), if_pos rfl, if_neg (show ¬ (1 : Int32) = 0 by decide), q1, q2, pr_b1_s, pr_bd_s, rm_of_11 _ hu5, pr_b1_s, rm_lay_11 _ _ hu5, pr_bd_s]
              refine ⟨_, _, _, by rw [k2], rfl, rr_unit h ht hn hu (uk_phase z K) (fun s hs => by simp (disch := omega) only [rd_n]) (fun k h1 h2 => by simp (disch := omega) only [rd_n]) (fun c s hc => by simp (disch := omega) only [rd_n]) (fun c k hc => by simp (disch := omega) only [rd_n]) (Or.inl (by simp (disch := omega) only [rd_n]))⟩
            · rw [if_neg c4, if_pos (Int32.not_le.mp c4), if_neg (by decide), if_pos rfl]
              exact owe_same h _ rfl rfl
        · have g : pr_x3.getD (Int32.toNatClampNeg 1) 0 = 3000 := by decide +kernel
          have g2 : ∀ (X : Option (Int32 × pr_M)), pr_gd (¬ (((1 : Int32)) < 0 ∨ 3 ≤ Int32.toNatClampNeg 1)) X = X := fun X => if_pos (by decide +kernel)
          have p : (11 : Int32) + 1 = 12 := by decide
          rw [g2, g, if_neg (by decide), if_pos rfl, pr_b1_s, pr_b1_s, if_neg (show ¬ ((1 : Int32)) < 0 by decide), if_neg (show ¬ (2 : Int32) < 1 by decide), if_neg (by decide), rc_outside, rm_in, pr_b1_s, pr_b1_s, p]
          by_cases c3 : z < -3000
          · rw [if_pos c3, if_pos c3, if_neg (by decide), if_pos rfl]
            exact owe_same h _ rfl rfl
          · rw [if_neg c3, if_neg c3]
            by_cases c4 : z ≤ 3000
            · have q1 : F_X4_byHand (1 + 1 + 3 + 9 * u + 2) 1 a = some (a (1 + 1 + 3 + 9 * u + 2) 3) := by
                unfold F_X4_byHand
                rw [if_neg (by decide), if_pos rfl]
              have q2 : F_X4_changeByHand (1 + 1 + 3 + 9 * u + 2) 1 z a = some ((), pr_up a (1 + 1 + 3 + 9 * u + 2) 3 z) := by
                unfold F_X4_changeByHand
                rw [if_neg (by decide), if_pos rfl, pr_lt_s]
              rw [if_pos c4, if_neg (Int32.not_lt.mpr c4), if_pos rfl, if_neg (show ¬ (1 : Int32) = 0 by decide), q1, q2, pr_b1_s, pr_bd_s, rm_of_12 _ hu5, pr_b1_s, rm_lay_12 _ _ hu5, pr_bd_s]
              refine ⟨_, _, _, by rw [k3], rfl, rr_unit h ht hn hu (uk_skew z K) (fun s hs => by simp (disch := omega) only [rd_n]) (fun k h1 h2 => by simp (disch := omega) only [rd_n]) (fun c s hc => by simp (disch := omega) only [rd_n]) (fun c k hc => by simp (disch := omega) only [rd_n]) (Or.inl (by simp (disch := omega) only [rd_n]))⟩
            · rw [if_neg c4, if_pos (Int32.not_le.mp c4), if_neg (by decide), if_pos rfl]
              exact owe_same h _ rfl rfl
        · have g : pr_x3.getD (Int32.toNatClampNeg 2) 0 = 2000 := by decide +kernel
          have g2 : ∀ (X : Option (Int32 × pr_M)), pr_gd (¬ (((2 : Int32)) < 0 ∨ 3 ≤ Int32.toNatClampNeg 2)) X = X := fun X => if_pos (by decide +kernel)
          have p : (11 : Int32) + 2 = 13 := by decide
          rw [g2, g, if_neg (by decide), if_neg (by decide), pr_b1_s, pr_b1_s, if_neg (show ¬ ((2 : Int32)) < 0 by decide), if_neg (show ¬ (2 : Int32) < 2 by decide), if_neg (by decide), rc_outside, rm_in, pr_b1_s, pr_b1_s, p]
          by_cases c3 : z < -2000
          · rw [if_pos c3, if_pos c3, if_neg (by decide), if_pos rfl]
            exact owe_same h _ rfl rfl
          · rw [if_neg c3, if_neg c3]
            by_cases c4 : z ≤ 2000
            · have q1 : F_X4_byHand (1 + 1 + 3 + 9 * u + 2) 2 a = some (a (1 + 1 + 3 + 9 * u + 2) 4) := by
                unfold F_X4_byHand
                rw [if_neg (by decide), if_neg (by decide)]
              have q2 : F_X4_changeByHand (1 + 1 + 3 + 9 * u + 2) 2 z a = some ((), pr_up a (1 + 1 + 3 + 9 * u + 2) 4 z) := by
                unfold F_X4_changeByHand
                rw [if_neg (by decide), if_neg (by decide), pr_lt_s]
              rw [if_pos c4, if_neg (Int32.not_lt.mpr c4), if_pos rfl, if_neg (show ¬ (1 : Int32) = 0 by decide), q1, q2, pr_b1_s, pr_bd_s, rm_of_13 _ hu5, pr_b1_s, rm_lay_13 _ _ hu5, pr_bd_s]
              refine ⟨_, _, _, by rw [k4], rfl, rr_unit h ht hn hu (uk_tilt z K) (fun s hs => by simp (disch := omega) only [rd_n]) (fun k h1 h2 => by simp (disch := omega) only [rd_n]) (fun c s hc => by simp (disch := omega) only [rd_n]) (fun c k hc => by simp (disch := omega) only [rd_n]) (Or.inl (by simp (disch := omega) only [rd_n]))⟩
            · rw [if_neg c4, if_pos (Int32.not_le.mp c4), if_neg (by decide), if_pos rfl]
              exact owe_same h _ rfl rfl
      · have hy0 : ¬ y = 0 := by rintro rfl; exact absurd (show (0 : Int32) ≤ 2 by decide) c2
        have hy1 : ¬ y = 1 := by rintro rfl; exact absurd (show (1 : Int32) ≤ 2 by decide) c2
        rw [if_neg c2, if_neg (by decide), if_neg hy0, if_neg hy1, pr_b1_s, pr_b1_s, if_neg c1, if_pos (Int32.not_le.mp c2), if_pos rfl]
        exact owe_same h _ rfl rfl
  · rw [e1, e2, pr_b1_s, pr_b1_s, if_pos rfl]
    exact owe_same h _ rfl rfl
/-- a setting takes a value -/
def okS (j : Nat) (v : Int32) : Prop := ¬ v < pr_x0.getD j 0 ∧ v ≤ pr_x1.getD j 0
theorem ap_takes (x v : Int32) (a b : pr_M) : (∃ j, j < 11 ∧ x = nI j ∧ okS j v ∧ F_X8_isSettingValue x v a = some 1 ∧ F_X9_takes x v b = some 1) ∨ (F_X8_isSettingValue x v a = some 0 ∧ F_X9_takes x v b = some 0) := by
  by_cases c1 : x < 0
  · right
    have ne : ∀ k : Nat, k < 11 → ¬ x = nI k := fun k hk e => by rw [e] at c1; exact nI_pos (by omega) c1
    constructor
    · unfold F_X8_isSettingValue
      rw [if_pos c1]
    · unfold F_X9_takes
      rw [if_neg (show ¬ x = 0 from ne 0 (by decide)), if_neg (show ¬ x = 1 from ne 1 (by decide)), if_neg (show ¬ x = 2 from ne 2 (by decide)), if_neg (show ¬ x = 3 from ne 3 (by decide)), if_neg (show ¬ x = 4 from ne 4 (by decide)), if_neg (show ¬ x = 5 from ne 5 (by decide)), if_neg (show ¬ x = 6 from ne 6 (by decide)), if_neg (show ¬ x = 7 from ne 7 (by decide)), if_neg (show ¬ x = 8 from ne 8 (by decide)), if_neg (show ¬ x = 9 from ne 9 (by decide)), if_neg (show ¬ x = 10 from ne 10 (by decide))]
  · obtain ⟨j, hj, rfl⟩ := nI_of c1
    by_cases c2 : j < 11
    · have hC : F_X8_isSettingValue (nI j) v a = some (if v < pr_x0.getD j 0 then 0 else if v ≤ pr_x1.getD j 0 then 1 else 0) := by
        unfold F_X8_isSettingValue
        rw [if_neg c1, if_pos (show nI j < 11 from nI_lt c2 (by decide)), pr_gd_i c2 (by decide), rc_outside, pr_b1_s, ri_cl hj]
        by_cases d1 : v < pr_x0.getD j 0
        · rw [if_pos d1, if_pos d1, if_neg (by decide)]
        · rw [if_neg d1, if_neg d1]
          by_cases d2 : v ≤ pr_x1.getD j 0
          · rw [if_pos d2, if_pos d2, if_pos rfl]
          · rw [if_neg d2, if_neg d2, if_neg (by decide)]
      have hM : F_X9_takes (nI j) v b = some (if v < pr_x0.getD j 0 then 0 else if v ≤ pr_x1.getD j 0 then 1 else 0) := by
        have g : ∀ l m : Int32, (pr_b1 (F_X9_in v l m b) fun r => pr_gd (r = 0 ∨ r = 1) (some r)) = some (if v < l then 0 else if v ≤ m then 1 else 0) := fun l m => by
          rw [rm_in, pr_b1_s]
          unfold pr_gd
          by_cases d1 : v < l
          · rw [if_pos d1, if_pos (Or.inl rfl), if_pos d1]
          · rw [if_neg d1, if_neg d1]
            by_cases d2 : v ≤ m
            · rw [if_neg (Int32.not_lt.mpr d2), if_pos (Or.inr rfl), if_pos d2]
            · rw [if_pos (Int32.not_le.mp d2), if_pos (Or.inl rfl), if_neg d2]
        unfold F_X9_takes
        rcases (show j = 0 ∨ j = 1 ∨ j = 2 ∨ j = 3 ∨ j = 4 ∨ j = 5 ∨ j = 6 ∨ j = 7 ∨ j = 8 ∨ j = 9 ∨ j = 10 by omega) with rfl | rfl | rfl | rfl | rfl | rfl | rfl | rfl | rfl | rfl | rfl
        · rw [if_pos (show nI 0 = 0 by decide), g]; rfl
        · rw [if_neg (show ¬ nI 1 = 0 by decide), if_pos (show nI 1 = 1 by decide), g]; rfl
        · rw [if_neg (show ¬ nI 2 = 0 by decide), if_neg (show ¬ nI 2 = 1 by decide), if_pos (show nI 2 = 2 by decide), g]; rfl
        · rw [if_neg (show ¬ nI 3 = 0 by decide), if_neg (show ¬ nI 3 = 1 by decide), if_neg (show ¬ nI 3 = 2 by decide), if_pos (show nI 3 = 3 by decide), g]; rfl
        · rw [if_neg (show ¬ nI 4 = 0 by decide), if_neg (show ¬ nI 4 = 1 by decide), if_neg (show ¬ nI 4 = 2 by decide), if_neg (show ¬ nI 4 = 3 by decide), if_pos (show nI 4 = 4 by decide), g]; rfl
        · rw [if_neg (show ¬ nI 5 = 0 by decide), if_neg (show ¬ nI 5 = 1 by decide), if_neg (show ¬ nI 5 = 2 by decide), if_neg (show ¬ nI 5 = 3 by decide), if_neg (show ¬ nI 5 = 4 by decide), if_pos (show nI 5 = 5 by decide), g]; rfl
        · rw [if_neg (show ¬ nI 6 = 0 by decide), if_neg (show ¬ nI 6 = 1 by decide), if_neg (show ¬ nI 6 = 2 by decide), if_neg (show ¬ nI 6 = 3 by decide), if_neg (show ¬ nI 6 = 4 by decide), if_neg (show ¬ nI 6 = 5 by decide), if_pos (show nI 6 = 6 by decide), g]; rfl
        · rw [if_neg (show ¬ nI 7 = 0 by decide), if_neg (show ¬ nI 7 = 1 by decide), if_neg (show ¬ nI 7 = 2 by decide), if_neg (show ¬ nI 7 = 3 by decide), if_neg (show ¬ nI 7 = 4 by decide), if_neg (show ¬ nI 7 = 5 by decide), if_neg (show ¬ nI 7 = 6 by decide), if_pos (show nI 7 = 7 by decide), g]; rfl
        · rw [if_neg (show ¬ nI 8 = 0 by decide), if_neg (show ¬ nI 8 = 1 by decide), if_neg (show ¬ nI 8 = 2 by decide), if_neg (show ¬ nI 8 = 3 by decide), if_neg (show ¬ nI 8 = 4 by decide), if_neg (show ¬ nI 8 = 5 by decide), if_neg (show ¬ nI 8 = 6 by decide), if_neg (show ¬ nI 8 = 7 by decide), if_pos (show nI 8 = 8 by decide), g]; rfl
        · rw [if_neg (show ¬ nI 9 = 0 by decide), if_neg (show ¬ nI 9 = 1 by decide), if_neg (show ¬ nI 9 = 2 by decide), if_neg (show ¬ nI 9 = 3 by decide), if_neg (show ¬ nI 9 = 4 by decide), if_neg (show ¬ nI 9 = 5 by decide), if_neg (show ¬ nI 9 = 6 by decide), if_neg (show ¬ nI 9 = 7 by decide), if_neg (show ¬ nI 9 = 8 by decide), if_pos (show nI 9 = 9 by decide), g]; rfl
        · rw [if_neg (show ¬ nI 10 = 0 by decide), if_neg (show ¬ nI 10 = 1 by decide), if_neg (show ¬ nI 10 = 2 by decide), if_neg (show ¬ nI 10 = 3 by decide), if_neg (show ¬ nI 10 = 4 by decide), if_neg (show ¬ nI 10 = 5 by decide), if_neg (show ¬ nI 10 = 6 by decide), if_neg (show ¬ nI 10 = 7 by decide), if_neg (show ¬ nI 10 = 8 by decide), if_neg (show ¬ nI 10 = 9 by decide), if_pos (show nI 10 = 10 by decide), rm_in, pr_b1_s]
          show _ = some (if v < -500 then 0 else if v ≤ 500 then 1 else 0)
          by_cases d1 : v < -500
          · rw [if_pos d1, if_pos rfl, if_pos d1]
          · rw [if_neg d1, if_neg d1]
            by_cases d2 : v ≤ 500
            · rw [if_neg (Int32.not_lt.mpr d2), if_neg (by decide), if_pos d2]
            · rw [if_pos (Int32.not_le.mp d2), if_pos rfl, if_neg d2]
      rw [hC, hM]
      by_cases d1 : v < pr_x0.getD j 0
      · right; rw [if_pos d1]; exact ⟨rfl, rfl⟩
      · by_cases d2 : v ≤ pr_x1.getD j 0
        · left; rw [if_neg d1, if_pos d2]; exact ⟨j, c2, rfl, ⟨d1, d2⟩, rfl, rfl⟩
        · right; rw [if_neg d1, if_neg d2]; exact ⟨rfl, rfl⟩
    · right
      have ne : ∀ k : Nat, k < 11 → ¬ nI j = nI k := fun k hk e => by
        have := (nI_eq hj (by omega)).mp e
        omega
      constructor
      · unfold F_X8_isSettingValue
        rw [if_neg c1, if_neg (show ¬ nI j < 11 from nI_nlt (a := j) (b := 11) (by omega) (by omega))]
      · unfold F_X9_takes
        rw [if_neg (show ¬ nI j = 0 from ne 0 (by decide)), if_neg (show ¬ nI j = 1 from ne 1 (by decide)), if_neg (show ¬ nI j = 2 from ne 2 (by decide)), if_neg (show ¬ nI j = 3 from ne 3 (by decide)), if_neg (show ¬ nI j = 4 from ne 4 (by decide)), if_neg (show ¬ nI j = 5 from ne 5 (by decide)), if_neg (show ¬ nI j = 6 from ne 6 (by decide)), if_neg (show ¬ nI j = 7 from ne 7 (by decide)), if_neg (show ¬ nI j = 8 from ne 8 (by decide)), if_neg (show ¬ nI j = 9 from ne 9 (by decide)), if_neg (show ¬ nI j = 10 from ne 10 (by decide))]
theorem okS_d {v : Int32} {j M : Nat} (hj : j < 11) (h0 : pr_x0.getD j 0 = 1) (h1 : (pr_x1.getD j 0).toInt = M) (h : okS j v) : ∃ d, v = nI d ∧ 1 ≤ d ∧ d ≤ M := by
  obtain ⟨a1, a2⟩ := h
  rw [h0] at a1
  have a3 : ¬ v < 0 := fun c => a1 (Int32.lt_trans c (by decide))
  obtain ⟨d, hd, rfl⟩ := nI_of2 h1 a3 a2
  refine ⟨d, rfl, ?_, hd⟩
  rcases Nat.eq_zero_or_pos d with e | e
  · subst e; exact absurd (show (nI 0 : Int32) < 1 by decide) a1
  · exact e
theorem uk_set {a b : pr_M} {q u t T i : Nat} {x : Int32} (hi : i < 11) (hx : okS i x) (K : ru_k (ru_U a q) (ru_V b u) t T) : ru_k (ru_U (pr_up a (q + 1) i x) q) (ru_V (pr_up b 1 (353 * u + i) x) u) t T := by
  obtain ⟨⟨a1, a2, a8, a15⟩, hb, ⟨c1, c2, c3, c4⟩, ⟨kk, l1, l2, l3, l4⟩, hr, ho⟩ := K
  dsimp only [ru_U, ru_V, ru_b] at *
  refine ⟨⟨fun j hj => ?_, ?_, ?_, ?_⟩, fun h => ?_, ⟨?_, ?_, ?_, ?_⟩, ⟨kk, ?_, ?_, l3, fun j h1 h2 => ?_⟩, fun i h1 h2 => ?_, fun hT => ?_⟩
  · dsimp only [ru_U, ru_V]
    by_cases e : j = i
    · subst e; rw [rd_e ⟨rfl, rfl⟩, rd_e ⟨rfl, rfl⟩]
    · rw [rd_n (by omega), rd_n (by omega)]; exact a1 j hj
  · dsimp only [ru_U, ru_V]; simp (disch := omega) only [rd_n]; exact a2
  · dsimp only [ru_U, ru_V]; simp (disch := omega) only [rd_n]; exact a8
  · dsimp only [ru_U, ru_V]; simp (disch := omega) only [rd_n]; exact a15
  · dsimp only [ru_U, ru_V] at h ⊢; simp (disch := omega) only [rd_n] at h ⊢; exact hb h
  · dsimp only [ru_U, ru_V]
    by_cases e : i = 0
    · subst e; rw [rd_e ⟨rfl, rfl⟩]; exact okS_d (by decide) (by decide +kernel) (by decide +kernel) hx
    · rw [rd_n (by omega)]; exact c1
  · dsimp only [ru_U, ru_V]
    by_cases e : i = 1
    · subst e; rw [rd_e ⟨rfl, rfl⟩]; exact okS_d (by decide) (by decide +kernel) (by decide +kernel) hx
    · rw [rd_n (by omega)]; exact c2
  · dsimp only [ru_U, ru_V]; simp (disch := omega) only [rd_n]; exact c3
  · dsimp only [ru_U, ru_V]; simp (disch := omega) only [rd_n]; exact c4
  · dsimp only [ru_U, ru_V]; simp (disch := omega) only [rd_n]; exact l1
  · dsimp only [ru_U, ru_V]; simp (disch := omega) only [rd_n]; exact l2
  · dsimp only [ru_U, ru_V]; simp (disch := omega) only [rd_n]; exact l4 j h1 h2
  · dsimp only [ru_U, ru_V]; simp (disch := omega) only [rd_n]; exact hr i h1 h2
  · dsimp only [ru_U, ru_V]; simp (disch := omega) only [rd_n]; exact ho hT
theorem s_set {a b : pr_M} (h : rr a b) (x y z : Int32) : owe (F_X8_set 0 x y z a) (F_X9_set 0 x y z b) := by
  obtain ⟨t, ht, n, hn⟩ := h.1
  unfold F_X8_set F_X9_set
  rcases ap_unit hn x with ⟨u, hu, hu5, rfl, e1, e2⟩ | ⟨e1, e2, -⟩
  · rw [e1, e2, pr_b1_s, pr_b1_s, if_neg (by decide)]
    unfold pr_op
    dsimp only
    rw [show pr_gd (pr_LC[1 + 1 + 3 + 9 * u]? = some (7, 0)) = fun (X : Option (Int32 × pr_M)) => X from by funext X; exact if_pos (lc_u hu5)]
    dsimp only
    have K := k_of hn hu
    have tt := t_of hn
    rcases ap_takes y z a b with ⟨j, hj, rfl, hok, d1, d2⟩ | ⟨d1, d2⟩
    · rw [d1, d2, pr_b1_s, pr_b1_s, if_neg (show ¬ (1 : Int32) = 0 by decide), if_neg (show ¬ (1 : Int32) = 0 by decide)]
      have ea : a (1 + 1 + 3 + 9 * u + 1) j = b 1 (353 * u + j) := K.1.1 j hj
      have fin : (j ≠ 0 ∨ t = 0) → owe (pr_b1 (F_X7_setting (1 + 1 + 3 + 9 * u) (nI j) a) fun r13 => pr_bd (F_X7_changeSetting (1 + 1 + 3 + 9 * u) (nI j) z a) fun _ f16 => some (r13, f16)) (pr_b1 (F_X9_of 0 (nI u) (nI j) b) fun r9 => pr_bd (F_X9_lay 0 (nI u) (nI j) z b) fun _ f12 => some (r9, f12)) := fun hd => by
        rw [rc_setting _ hj, rc_change _ _ hj, pr_b1_s, pr_bd_s, rm_of _ hu5 (by omega), rm_lay _ _ hu5 (by omega), pr_b1_s, pr_bd_s]
        refine ⟨_, _, _, by rw [ea], rfl, rr_unit h ht hn hu (uk_set hj hok K) (fun s hs => by simp (disch := omega) only [rd_n]) (fun k h1 h2 => by simp (disch := omega) only [rd_n]) (fun c s hc => by simp (disch := omega) only [rd_n]) (fun c k hc => by simp (disch := omega) only [rd_n]) ?_⟩
        rcases hd with hd | hd
        · exact Or.inl (rd_n (by omega))
        · exact Or.inr hd
      unfold F_X8_isPlace
      by_cases c1 : 1 < j
      · rw [if_neg (show ¬ nI j = 0 from nI_ne0 (by omega) (by omega)), if_neg (fun e => by have := (nI_eq (b := 1) (show j < 2 ^ 31 by omega) (by decide)).mp e; omega), pr_b1_s, if_pos rfl, if_pos (show (1 : Int32) < nI j from nI_lt (a := 1) c1 (by omega))]
        exact fin (Or.inl (by omega))
      · have hp : (if nI j = 0 then some (1 : Int32) else if nI j = 1 then some 1 else some 0) = some 1 := by
          rcases (show j = 0 ∨ j = 1 by omega) with rfl | rfl <;> decide
        rw [hp, pr_b1_s, if_neg (show ¬ (1 : Int32) = 0 by decide), if_neg (show ¬ (1 : Int32) < nI j from nI_nlt (b := j) (a := 1) (by omega) (by decide)), Nat.zero_add, tt.1, ri_cl_1765, tt.2]
        by_cases c2 : nI t = 0
        · rw [if_pos c2, if_pos c2]
          have t0 : t = 0 := (nI_eq (b := 0) (by omega) (by decide)).mp c2
          exact fin (Or.inr t0)
        · rw [if_neg c2, if_neg c2]
          exact owe_same h _ rfl rfl
    · rw [d1, d2, pr_b1_s, pr_b1_s, if_pos rfl, if_pos rfl]
      exact owe_same h _ rfl rfl
  · rw [e1, e2, pr_b1_s, pr_b1_s, if_pos rfl]
    exact owe_same h _ rfl rfl
/-- a pure call: both sides answer alike -/
abbrev owe1 (C : Option Int32) (M : Option Int32) : Prop := ∃ r, C = some r ∧ M = some r
theorem s_get {a b : pr_M} (h : rr a b) (x y : Int32) : owe1 (F_X8_get 0 x y a) (F_X9_get 0 x y b) := by
  obtain ⟨t, ht, n, hn⟩ := h.1
  unfold F_X8_get F_X9_get
  rcases ap_unit hn x with ⟨u, hu, hu5, rfl, e1, e2⟩ | ⟨e1, e2, -⟩
  · rw [e1, e2, pr_b1_s, pr_b1_s, if_neg (by decide), rc_outside, rm_in]
    unfold pr_op pr_gd
    dsimp only
    rw [if_pos (lc_u hu5), pr_b1_s, pr_b1_s]
    by_cases c1 : y < 0
    · rw [if_pos c1, if_pos c1, if_neg (by decide), if_pos rfl]
      exact ⟨_, rfl, rfl⟩
    · rw [if_neg c1, if_neg c1]
      by_cases c2 : y ≤ 10
      · obtain ⟨j, hj, rfl⟩ := nI_of2 (M := 10) (n := 10) (by decide) c1 c2
        rw [if_pos c2, if_neg (Int32.not_lt.mpr c2), if_pos rfl, if_neg (by decide), rc_setting _ (by omega), pr_b1_s, rm_of _ hu5 (by omega), pr_b1_s]
        exact ⟨_, rfl, by rw [show a (1 + 1 + 3 + 9 * u + 1) j = b 1 (353 * u + j) from (k_of hn hu).1.1 j (by omega)]⟩
      · rw [if_neg c2, if_pos (Int32.not_le.mp c2), if_neg (by decide), if_pos rfl]
        exact ⟨_, rfl, rfl⟩
  · rw [e1, e2, pr_b1_s, pr_b1_s, if_pos rfl]
    exact ⟨_, rfl, rfl⟩
