/-! ===== the law's small methods over its rows ===== -/
/-- the 14 numbers of a unit -/
def st (a : pr_M) (q : Nat) (way : Int32) : Nat → Int32 := fun j => if j = 13 then way else nu a q j
theorem nu_same {a b : pr_M} {q : Nat} (h : ∀ j s, j < 9 → b (q + j) s = a (q + j) s) : nu b q = nu a q := by
  funext j
  match j with
  | 0 | 1 | 2 | 3 | 4 | 5 | 6 | 7 | 8 | 9 | 10 | 11 | 12 => exact h _ _ (by decide)
  | j + 13 => rfl
theorem l_state {u : Int32} {q j : Nat} {f : pr_M} {v : Int32} (h : UQ u q) (h3 : f 1 3 = 2) (hv : F_X3_wayOf 1 u f = some v) (hj : j < 14) : F_X8_state 0 u (nI j) f = some (st f q v j) := by
  unfold st
  by_cases e : j = 13
  · subst e
    rw [if_pos rfl, c_st13 h h3 hv]
  · rw [if_neg e, c_state h h3 (by omega)]
theorem l_lay_l {u : Int32} {q z : Nat} {f : pr_M} {v : Int32} (h : UQ u q) (hz : 50 ≤ z) (h3 : f 1 3 = 2) (hv : ∀ g : pr_M, (∀ c j, c ≠ z → g c j = f c j) → F_X3_wayOf 1 u g = some v) : ∀ (m i N : Nat) (g : pr_M), i + m = 14 → m < N → (∀ c j, c ≠ z → g c j = f c j) → (∀ j, j < i → g z j = st f q v j) →
    ∃ g', L_L_lay_2 0 u z N (nI i) g = some ((), g') ∧ (∀ j, j < 14 → g' z j = st f q v j) ∧ (∀ c j, c ≠ z → g' c j = f c j)
  | 0, i, N, g, hi, hN, hg, hr => by
    obtain ⟨N, rfl⟩ : ∃ j, N = j + 1 := ⟨N - 1, by omega⟩
    rw [L_L_lay_2, if_pos (show (14 : Int32) ≤ nI i from nI_le (a := 14) (by omega) (by omega))]
    exact ⟨g, rfl, fun j hj => hr j (by omega), hg⟩
  | m + 1, i, N, g, hi, hN, hg, hr => by
    obtain ⟨N, rfl⟩ : ∃ j, N = j + 1 := ⟨N - 1, by omega⟩
    have hq : q ≤ 14 := by rcases h with ⟨-, rfl⟩ | ⟨-, rfl⟩ <;> decide
    have e1 : nu g q = nu f q := nu_same fun j s hj => hg _ _ (by omega)
    have e2 : st g q v i = st f q v i := by unfold st; rw [e1]
    rw [L_L_lay_2, if_neg (show ¬ (14 : Int32) ≤ nI i from nI_ge (b := 14) (by omega) (by decide)), l_state h (by rw [hg _ _ (by omega)]; exact h3) (hv g hg) (by omega), pr_b1_s, pr_gd_i (by omega) (by decide), ri_cl (by omega), pr_lt_s, nI_1, e2]
    refine l_lay_l h hz h3 hv m (i + 1) N _ (by omega) (by omega) (fun c j hc => by rw [rd_n (by omega), hg c j hc]) (fun j hj => ?_)
    by_cases e : j = i
    · rw [e, rd_e ⟨rfl, rfl⟩]
    · rw [rd_n (by omega), hr j (by omega)]
theorem l_lay {u : Int32} {q z : Nat} {f : pr_M} {v : Int32} (h : UQ u q) (hz : 50 ≤ z) (h3 : f 1 3 = 2) (hv : ∀ g : pr_M, (∀ c j, c ≠ z → g c j = f c j) → F_X3_wayOf 1 u g = some v) :
    ∃ g', F_L_lay 0 u z f = some ((), g') ∧ (∀ j, j < 14 → g' z j = st f q v j) ∧ (∀ c j, c ≠ z → g' c j = f c j) := by
  obtain ⟨g', e, e1, e2⟩ := l_lay_l h hz h3 hv 14 0 pr_fuel f rfl (by decide) (fun _ _ _ => rfl) (fun j hj => absurd hj (Nat.not_lt_zero j))
  refine ⟨g', ?_, e1, e2⟩
  unfold F_L_lay
  rw [show L_L_lay_2 0 u z pr_fuel 0 f = some ((), g') from e, pr_bd_s]
theorem l_comes {u : Int32} {q z w : Nat} {am du : Int32} {f : pr_M} (h : UQ u q) (hz : 50 ≤ z) (hw : 50 ≤ w) (hzw : z ≠ w) (h3 : f 1 3 = 2) :
    ∃ g, F_L_comes 0 u z w am du f = some ((), g) ∧ (∀ j, j < 13 → g z j = cN du (f (q + 1) 1 + f (q + 1) 9) (f z) j) ∧ g z 13 = f z 13 ∧ g w 0 = am ∧ g w 1 = du ∧ (∀ c j, c ≠ z → (c ≠ w ∨ (j ≠ 0 ∧ j ≠ 1)) → g c j = f c j) := by
  have hq : q ≤ 14 := by rcases h with ⟨-, rfl⟩ | ⟨-, rfl⟩ <;> decide
  have c10 : Int32.toNatClampNeg 10 = 10 := by decide +kernel
  have c7 : Int32.toNatClampNeg 7 = 7 := by decide +kernel
  refine ⟨?_, ?_, ?_⟩
  rotate_left
  · unfold F_L_comes
    simp only [pr_lt_s, ri_cl_0, ri_cl_1, ri_cl_4, c10, c7]
    rw [c_get_1 h (by simp (disch := omega) only [rd_n]; exact h3), pr_b1_s, c_get_9 h (by simp (disch := omega) only [rd_n]; exact h3), pr_b1_s]
  refine ⟨fun j hj => ?_, ?_, ?_, ?_, fun c j h1 h2 => ?_⟩
  · rcases k13 hj with rfl | rfl | rfl | rfl | rfl | rfl | rfl | rfl | rfl | rfl | rfl | rfl | rfl <;> simp only [cN] <;> simp (disch := omega) only [rd_n, rd_e]
  all_goals simp (disch := omega) only [rd_n, rd_e]
/-- what is left of a disturbance is no less than 0, and known to the law -/
def dist_ok (le am du x y : Int32) : Prop := (le ≤ 0 → le = 0) ∧ (0 < le → am = x ∧ du = y ∧ 0 < du)
theorem l_value {z w : Nat} {f : pr_M} {am du : Int32} (h : dist_ok (f z 10) am du (f w 0) (f w 1)) : F_L_value z w f = some (rv_dis am (f z 10) du) := by
  have c10 : Int32.toNatClampNeg 10 = 10 := by decide +kernel
  unfold F_L_value rv_dis
  rw [c10, ri_cl_0, ri_cl_1]
  by_cases e : f z 10 ≤ 0
  · rw [if_pos (h.1 e), if_pos e]
  · obtain ⟨e1, e2, e3⟩ := h.2 (ri_pos e)
    rw [if_neg (fun c => e (by rw [c]; decide)), if_neg e, pr_gdT (by rw [← e2]; exact ri_pos0 e3), e1, e2]
theorem l_printed {u : Int32} {q z w pO pS t : Nat} {f : pr_M} {ch am du : Int32} (h : UQ u q) (hz : 50 ≤ z) (hO : 50 ≤ pO) (hS : 50 ≤ pS) (hOS : pO ≠ pS) (hzO : z ≠ pO) (hzS : z ≠ pS) (ht : t < 48) (h3 : f 1 3 = 2) (h4 : f 1 4 = nI (t + 1)) (hd : dist_ok (f z 10) am du (f w 0) (f w 1))
    (e1 : f (q + 2 + 1) t = p_off (f z) am du (f (q + 1) 10) ch) (e2 : f (q + 2 + 2) t = p_sk (f z)) :
    F_L_isPrinted 0 u z w pO pS (nI t) ch f = some (1, pr_up (pr_up f pO t (f (q + 2 + 1) t)) pS t (f (q + 2 + 2) t)) := by
  have hq : q ≤ 14 := by rcases h with ⟨-, rfl⟩ | ⟨-, rfl⟩ <;> decide
  have hp : f z 0 + rv_dis am (f z 10) du + (f (q + 1) 10 - f z 3) * ch / 100 = f (q + 2 + 1) t := e1.symm
  have hs : f z 2 + f z 1 = f (q + 2 + 2) t := e2.symm
  unfold F_L_isPrinted
  rw [l_value hd, pr_b1_s, c_get_10 h h3, pr_b1_s, pr_gd_i ht (by decide), ri_cl (by omega), pr_lt_s, ri_cl_0, ri_cl_3, hp, pr_lt_s, ri_cl_2, ri_cl_1, rd_n (c := z) (j := 2) (by omega), rd_n (c := z) (j := 1) (by omega), hs]
  rw [c_seen0 (t := t) h (by simp (disch := omega) only [rd_n]; exact h3) (by simp (disch := omega) only [rd_n]; exact h4) (by omega), pr_b1_s]
  simp (disch := omega) only [rd_n, rd_e]
  rw [if_pos trivial, c_seen1 (t := t) h (by simp (disch := omega) only [rd_n]; exact h3) (by simp (disch := omega) only [rd_n]; exact h4) (by omega), pr_b1_s]
  simp (disch := omega) only [rd_n, rd_e]
  rw [if_pos trivial]
