/-! ===== the law's isPassed ===== -/
theorem l_less {x : Int32} (h : x ≤ 0 → x = 0) : x - (if x ≤ 0 then 0 else 1) = ri_less x := by
  unfold ri_less
  by_cases c : x ≤ 0
  · rw [if_pos c, if_pos c, h c]; decide
  · rw [if_neg c, if_neg c]
theorem l_cmp {u : Int32} {q z : Nat} {v : Int32} {g : pr_M} (h : UQ u q) (h3 : g 1 3 = 2) (hv : F_X3_wayOf 1 u g = some v) (hz : ∀ j, j < 14 → st g q v j = g z j) : ∀ (m i N : Nat), i + m = 14 → m < N → L_L_isPassed_111 0 u z N (nI i) g = some (1, g)
  | 0, i, N, hi, hN => by
    obtain ⟨N, rfl⟩ : ∃ j, N = j + 1 := ⟨N - 1, by omega⟩
    rw [L_L_isPassed_111, if_pos (show (14 : Int32) ≤ nI i from nI_le (a := 14) (by omega) (by omega))]
  | m + 1, i, N, hi, hN => by
    obtain ⟨N, rfl⟩ : ∃ j, N = j + 1 := ⟨N - 1, by omega⟩
    rw [L_L_isPassed_111, if_neg (show ¬ (14 : Int32) ≤ nI i from nI_ge (b := 14) (by omega) (by decide)), l_state h h3 hv (by omega), pr_b1_s, pr_gd_i (by omega) (by decide), ri_cl (by omega), if_pos (hz i (by omega)), nI_1]
    exact l_cmp h h3 hv hz m (i + 1) N (by omega) (by omega)
set_option maxHeartbeats 4000000 in
theorem l_passed {u : Int32} {q z w : Nat} {f : pr_M} {A B v : Int32} (h : UQ u q) (hz : 50 ≤ z) (hw : 50 ≤ w) (hzw : z ≠ w) (h3 : f 1 3 = 2) (hv : ∀ g : pr_M, (∀ c j, c ≠ z → g c j = f c j) → F_X3_wayOf 1 u g = some v)
    (hN : ∀ j, j < 13 → nu f q j = eN A B (f z) j) (hAB : 0 < f z 5 → A = f w 2 ∧ B = f w 3) (h7 : f z 7 ≤ 0 → f z 7 = 0) (h10 : f z 10 ≤ 0 → f z 10 = 0) (h11 : f z 11 ≤ 0 → f z 11 = 0) (h12 : f z 12 ≤ 0 → f z 12 = 0) (h13 : f z 13 = v) :
    ∃ g, F_L_isPassed 0 u z w f = some (1, g) ∧ ∀ c j, c ≠ z → g c j = f c j := by
  have hq : q ≤ 14 := by rcases h with ⟨-, rfl⟩ | ⟨-, rfl⟩ <;> decide
  -- the wait
  have s1 : ∃ f2 : pr_M, (pr_bd (α := Unit) (if f z 5 ≤ 0 then some ((), f) else pr_lt (pr_up f z 5 (f z 5 - 1)) fun f4 => pr_b1 (α := Int32) (if f4 z 5 = 0 then some (f4 w 2) else some 0) fun v6 => pr_lt (pr_up f4 z 8 (f4 z 8 + v6)) fun f8 => pr_b1 (α := Int32) (if f8 z 5 = 0 then some (f8 w 3) else some 0) fun v10 => pr_lt (pr_up f8 z 9 (f8 z 9 + v10)) fun f12 => some ((), f12)) fun (_ : Unit) (f2 : pr_M) => some f2) = some f2 ∧
      f2 z 5 = eN A B (f z) 5 ∧ f2 z 8 = eN A B (f z) 8 ∧ f2 z 9 = eN A B (f z) 9 ∧ ∀ c j, (c ≠ z ∨ (j ≠ 5 ∧ j ≠ 8 ∧ j ≠ 9)) → f2 c j = f c j := by
    by_cases c5 : f z 5 ≤ 0
    · refine ⟨f, by rw [if_pos c5, pr_bd_s], ?_, ?_, ?_, fun _ _ _ => rfl⟩ <;> simp only [eN, if_pos c5]
    · obtain ⟨hA, hB⟩ := hAB (ri_pos c5)
      by_cases c0 : f z 5 - 1 = 0
      · refine ⟨?_, ?_, ?_⟩
        rotate_left
        · simp (disch := omega) only [if_neg c5, pr_lt_s, rd_n, rd_e, c0, if_true, pr_b1_s, pr_bd_s]
          exact rfl
        refine ⟨?_, ?_, ?_, fun c j hc => ?_⟩ <;> simp (disch := omega) only [eN, if_neg c5, if_pos c0, rd_n, rd_e, hA, hB, c0, if_true]
      · refine ⟨?_, ?_, ?_⟩
        rotate_left
        · simp (disch := omega) only [if_neg c5, pr_lt_s, rd_n, rd_e, if_neg c0, pr_b1_s, pr_bd_s]
          exact rfl
        refine ⟨?_, ?_, ?_, fun c j hc => ?_⟩ <;> simp (disch := omega) only [eN, if_neg c5, if_neg c0, rd_n, rd_e, Int32.add_zero]
  obtain ⟨f2, E1, p5, p8, p9, P⟩ := s1
  obtain ⟨_, f2', E1', E1''⟩ := pr_bd_some E1
  have ef : f2' = f2 := Option.some.inj E1''
  subst ef
  have q7 : f2' z 7 = f z 7 := P _ _ (by omega)
  have q10 : f2' z 10 = f z 10 := P _ _ (by omega)
  have q11 : f2' z 11 = f z 11 := P _ _ (by omega)
  have q12 : f2' z 12 = f z 12 := P _ _ (by omega)
  have i1 : (10 : Int32) + 1 = 11 := by decide
  have i2 : (11 : Int32) + 1 = 12 := by decide
  have i3 : (12 : Int32) + 1 = 13 := by decide
  have g10 : ¬ ((10 : Int32) < 0 ∨ 14 ≤ Int32.toNatClampNeg 10) := by decide +kernel
  have g11 : ¬ ((11 : Int32) < 0 ∨ 14 ≤ Int32.toNatClampNeg 11) := by decide +kernel
  have g12 : ¬ ((12 : Int32) < 0 ∨ 14 ≤ Int32.toNatClampNeg 12) := by decide +kernel
  generalize hg : pr_up (pr_up (pr_up (pr_up f2' z 7 (ri_less (f z 7))) z 10 (ri_less (f z 10))) z 11 (ri_less (f z 11))) z 12 (ri_less (f z 12)) = g
  have G : ∀ c j, (c ≠ z ∨ (j ≠ 7 ∧ j ≠ 10 ∧ j ≠ 11 ∧ j ≠ 12)) → g c j = f2' c j := fun c j hc => by
    rw [← hg]; simp (disch := omega) only [rd_n]
  have GF : ∀ c j, c ≠ z → g c j = f c j := fun c j hc => by rw [G c j (by omega), P c j (by omega)]
  have gz : ∀ j, j < 13 → g z j = eN A B (f z) j := fun j hj => by
    rcases k13 hj with rfl | rfl | rfl | rfl | rfl | rfl | rfl | rfl | rfl | rfl | rfl | rfl | rfl
    · rw [G _ _ (by omega), P _ _ (by omega)]; rfl
    · rw [G _ _ (by omega), P _ _ (by omega)]; rfl
    · rw [G _ _ (by omega), P _ _ (by omega)]; rfl
    · rw [G _ _ (by omega), P _ _ (by omega)]; rfl
    · rw [G _ _ (by omega), P _ _ (by omega)]; rfl
    · rw [G _ _ (by omega)]; exact p5
    · rw [G _ _ (by omega), P _ _ (by omega)]; rfl
    · rw [← hg]; simp (disch := omega) only [rd_n, rd_e]; rfl
    · rw [G _ _ (by omega)]; exact p8
    · rw [G _ _ (by omega)]; exact p9
    · rw [← hg]; simp (disch := omega) only [rd_n, rd_e]; rfl
    · rw [← hg]; simp (disch := omega) only [rd_n, rd_e]; rfl
    · rw [← hg]; simp (disch := omega) only [rd_n, rd_e]; rfl
  have step : ∀ (b : pr_M) (x : Int32) (j N : Nat), ¬ (13 : Int32) ≤ x → ¬ (x < 0 ∨ 14 ≤ Int32.toNatClampNeg x) → Int32.toNatClampNeg x = j → (b z j ≤ 0 → b z j = 0) → L_L_isPassed_76 0 u z (N + 1) x b = L_L_isPassed_76 0 u z N (x + 1) (pr_up b z j (ri_less (b z j))) := fun b x j N hx hx2 hj hb => by
    rw [L_L_isPassed_76, if_neg hx, pr_gdT hx2, hj, l_if, pr_b1_s, l_less hb, pr_lt_s]
  have e76 : L_L_isPassed_76 0 u z pr_fuel 10 (pr_up f2' z 7 (ri_less (f z 7))) = some ((), g) := by
    rw [show pr_fuel = 3996 + 1 + 1 + 1 + 1 from rfl, step _ 10 10 _ (by decide) g10 ri_cl_10 (by rw [rd_n (by omega), q10]; exact h10), i1, step _ 11 11 _ (by decide) g11 ri_cl_11 (by rw [rd_n (by omega), rd_n (by omega), q11]; exact h11), i2, step _ 12 12 _ (by decide) g12 ri_cl_12 (by rw [rd_n (by omega), rd_n (by omega), rd_n (by omega), q12]; exact h12), i3, L_L_isPassed_76, if_pos (by decide)]
    rw [rd_n (c := z) (j := 10) (by omega), q10, rd_n (c := z) (j := 11) (by omega), rd_n (c := z) (j := 11) (by omega), q11, rd_n (c := z) (j := 12) (by omega), rd_n (c := z) (j := 12) (by omega), rd_n (c := z) (j := 12) (by omega), q12, hg]
  refine ⟨g, ?_, GF⟩
  unfold F_L_isPassed
  rw [ri_cl_5, ri_cl_2, ri_cl_8, ri_cl_3, ri_cl_9, ri_cl_7, E1', pr_bd_s, l_if, pr_b1_s, l_less (by rw [q7]; exact h7), pr_lt_s, q7, e76, pr_bd_s]
  refine l_cmp h (by rw [GF _ _ (by omega)]; exact h3) (hv g GF) (fun j hj => ?_) 14 0 pr_fuel rfl (by decide)
  unfold st
  by_cases e : j = 13
  · subst e
    rw [if_pos rfl, G _ _ (by omega), P _ _ (by omega), h13]
  · rw [if_neg e, nu_same (a := f) (fun k s _ => GF _ _ (by omega)), hN j (by omega), gz j (by omega)]
