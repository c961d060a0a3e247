/-! ===== the law's loop ===== -/
abbrev j_L (L : Nat) (xs : Nat → Int32) (d s : Nat) : Nat → Int32 → Int32 → Int32 → Int32 → Int32 → pr_M → Option (Int32 × pr_M) := L_L_law_111 L xs 0 201 202 203 204 205 206 207 208 209 (nI d) (nI s)
theorem spl_same {f g : pr_M} {t : Nat} {x : Int32} (h : spl f t x) (h7 : g 1 7 = f 1 7) (h9 : g 1 9 = f 1 9) : spl g t x := by
  unfold spl at h ⊢
  rw [h7, h9]
  exact h
set_option maxHeartbeats 4000000 in
theorem j_head {L : Nat} {xs : Nat → Int32} {f : pr_M} {t s d : Nat} {x13 x14 x15 x16 : Int32} (hL : L ≤ 260) (I : Iv f t s d x13 x14 x15 x16) (ht : t < 40) (hd1 : 1 ≤ d) (hd9 : d ≤ 9) (hs1 : 1 ≤ s) (hs9 : s ≤ 9) :
    ∃ g y13 y14 y15 y16, (∀ n, j_L L xs d s (n + 1) x13 x14 x15 x16 (nI t) f = j_L L xs d s n y13 y14 y15 y16 (nI (t + 1)) g) ∧ Iv g (t + 1) s d y13 y14 y15 y16 := by
  obtain ⟨kd, hk, ek⟩ := l_cell (L := L) (xs := xs) (k := 3 * t + 26) (N := 12) hL (by omega) (by decide) (by decide)
  obtain ⟨i, hi, ei⟩ := l_cell (L := L) (xs := xs) (k := 3 * t + 27) (N := 401) hL (by omega) (by decide) (by decide)
  obtain ⟨j, hj, ej⟩ := l_cell (L := L) (xs := xs) (k := 3 * t + 28) (N := 8) hL (by omega) (by decide) (by decide)
  have k1 : (3 : Int32) * nI t + 26 = nI (3 * t + 26) := by rw [show (3 : Int32) = nI 3 from rfl, pk_mul, show (26 : Int32) = nI 26 from rfl, nI_add]
  have k2 : (3 : Int32) * nI t + 27 = nI (3 * t + 27) := by rw [show (3 : Int32) = nI 3 from rfl, pk_mul, show (27 : Int32) = nI 27 from rfl, nI_add]
  have k3 : (3 : Int32) * nI t + 28 = nI (3 * t + 28) := by rw [show (3 : Int32) = nI 3 from rfl, pk_mul, show (28 : Int32) = nI 28 from rfl, nI_add]
  have ek' : ∀ g : pr_M, F_L_cell L xs (nI (3 * t + 26)) 12 g = some (nI kd) := ek
  have ei' : ∀ g : pr_M, F_L_cell L xs (nI (3 * t + 27)) 401 g = some (nI i) := ei
  have ej' : ∀ g : pr_M, F_L_cell L xs (nI (3 * t + 28)) 8 g = some (nI j) := ej
  have h40 : ¬ (40 : Int32) ≤ nI t := nI_ge (b := 40) ht (by decide)
  have go : ∀ (f' : pr_M) (y13 y14 y15 : Int32), Iv f' t s d y13 y14 y15 x16 → (∀ n, j_L L xs d s (n + 1) x13 x14 x15 x16 (nI t) f = J_L_law_319 L xs 0 201 202 203 204 205 206 207 208 209 (nI d) (nI s) y13 y14 y15 x16 (nI t) (j_L L xs d s n) f') →
      ∃ g y13 y14 y15 y16, (∀ n, j_L L xs d s (n + 1) x13 x14 x15 x16 (nI t) f = j_L L xs d s n y13 y14 y15 y16 (nI (t + 1)) g) ∧ Iv g (t + 1) s d y13 y14 y15 y16 := by
    intro f' y13 y14 y15 I' E
    obtain ⟨g, EG, IG⟩ := j_step I' ht hd1 hd9 hs1 hs9
    exact ⟨g, _, _, _, _, fun n => by rw [E n, EG], IG⟩
  have I0 := I
  obtain ⟨⟨h3, h4, h6⟩, ⟨hsp, hsv⟩, ⟨hd, hs⟩, ⟨rd0, nn0, ds0, ak0⟩, ⟨rd1, nn1, ds1, ak1⟩, ⟨hf, hw⟩, hr, hl, hto⟩ := I
  have m0 : f (5 + 2) 7 ≤ 0 → f (5 + 2) 7 = 0 := nn0 10 (by omega)
  have m1 : f (14 + 2) 7 ≤ 0 → f (14 + 2) 7 = 0 := nn1 10 (by omega)
  have m2 : f (14 + 6) 1 ≤ 0 → f (14 + 6) 1 = 0 := nn1 11 (by omega)
  have m3 : f (14 + 6) 3 ≤ 0 → f (14 + 6) 3 = 0 := nn1 12 (by omega)
  have mp := (i_manyN hj 0 50 (by decide) (by decide) (by decide)).2.2
  have mn : ∀ {P : Prop}, 1 + nI j ≤ 0 → P := fun h => absurd h (Int32.not_le.mpr mp)
  have q0 : ¬ (1 : Int32) = 0 := by decide
  rcases (show kd = 0 ∨ kd = 1 ∨ kd = 2 ∨ kd = 3 ∨ kd = 4 ∨ kd = 5 ∨ 6 ≤ kd by omega) with rfl | rfl | rfl | rfl | rfl | rfl | h6k
  · -- speed
    obtain ⟨m, hm, em⟩ := i_absN hi
    refine go (pr_up f 1 5 (nI m)) x13 x14 x15 (Iv_upd I0 (fun c z hc => rd_n (by unfold ev_ex at hc; omega)) (spl_same hsp (rd_n (by omega)) (rd_n (by omega))) (by simp (disch := omega) only [rd_n]; exact hsv) (by unfold dst; simp (disch := omega) only [rd_n]; exact ds0) (by unfold dst; simp (disch := omega) only [rd_n]; exact ds1) (by simp (disch := omega) only [rd_n]; exact m0) (by simp (disch := omega) only [rd_n]; exact m1) (by simp (disch := omega) only [rd_n]; exact m2) (by simp (disch := omega) only [rd_n]; exact m3) (by simp (disch := omega) only [rd_n]; exact hf)) (fun n => ?_)
    show L_L_law_111 _ _ _ _ _ _ _ _ _ _ _ _ _ _ (n + 1) _ _ _ _ _ _ = _
    rw [L_L_law_111, if_neg h40, k1, ek', pr_b1_s, k2, ei', pr_b1_s, k3, ej', pr_b1_s, if_pos (show nI 0 = 0 from rfl), l_size, pr_b1_s, em, v_speed hm, pr_bd_s]
  · -- unit 0 is disturbed
    obtain ⟨r, er⟩ := v_disturb uq0 h3 hi hj
    refine go (pr_up (pr_up (pr_up (pr_up (pr_up f (5 + 2) 5 (nI i - 200)) (5 + 2) 6 (1 + nI j)) (5 + 2) 7 (1 + nI j)) 203 0 (nI i - 200)) 203 1 (1 + nI j)) x13 x14 x15 (Iv_upd I0 (fun c z hc => by unfold ev_ex at hc; simp (disch := omega) only [rd_n]) (spl_same hsp (by simp (disch := omega) only [rd_n]) (by simp (disch := omega) only [rd_n])) (by simp (disch := omega) only [rd_n]; exact hsv) (fun _ => ⟨?_, ?_, ?_⟩) (by unfold dst; simp (disch := omega) only [rd_n]; exact ds1) (fun h => ?_) (by simp (disch := omega) only [rd_n]; exact m1) (by simp (disch := omega) only [rd_n]; exact m2) (by simp (disch := omega) only [rd_n]; exact m3) (by simp (disch := omega) only [rd_n]; exact hf)) (fun n => ?_)
    · simp (disch := omega) only [rd_n, rd_e]
    · simp (disch := omega) only [rd_n, rd_e]
    · simp (disch := omega) only [rd_n, rd_e]; exact mp
    · simp (disch := omega) only [rd_n, rd_e] at h; exact mn h
    · show L_L_law_111 _ _ _ _ _ _ _ _ _ _ _ _ _ _ (n + 1) _ _ _ _ _ _ = _
      rw [L_L_law_111, if_neg h40, k1, ek', pr_b1_s, k2, ei', pr_b1_s, k3, ej', pr_b1_s, if_neg (show ¬ nI 1 = 0 by decide), if_pos (show nI 1 = 1 from rfl), show nI 1 - 1 = 0 by decide, er, pr_bd_s, pr_lt_s, pr_lt_s, ri_cl_0, ri_cl_1]
  · -- unit 1
    obtain ⟨r, er⟩ := v_disturb uq1 h3 hi hj
    refine go (pr_up (pr_up (pr_up (pr_up (pr_up f (14 + 2) 5 (nI i - 200)) (14 + 2) 6 (1 + nI j)) (14 + 2) 7 (1 + nI j)) 204 0 (nI i - 200)) 204 1 (1 + nI j)) x13 x14 x15 (Iv_upd I0 (fun c z hc => by unfold ev_ex at hc; simp (disch := omega) only [rd_n]) (spl_same hsp (by simp (disch := omega) only [rd_n]) (by simp (disch := omega) only [rd_n])) (by simp (disch := omega) only [rd_n]; exact hsv) (by unfold dst; simp (disch := omega) only [rd_n]; exact ds0) (fun _ => ⟨?_, ?_, ?_⟩) (by simp (disch := omega) only [rd_n]; exact m0) (fun h => ?_) (by simp (disch := omega) only [rd_n]; exact m2) (by simp (disch := omega) only [rd_n]; exact m3) (by simp (disch := omega) only [rd_n]; exact hf)) (fun n => ?_)
    · simp (disch := omega) only [rd_n, rd_e]
    · simp (disch := omega) only [rd_n, rd_e]
    · simp (disch := omega) only [rd_n, rd_e]; exact mp
    · simp (disch := omega) only [rd_n, rd_e] at h; exact mn h
    · show L_L_law_111 _ _ _ _ _ _ _ _ _ _ _ _ _ _ (n + 1) _ _ _ _ _ _ = _
      rw [L_L_law_111, if_neg h40, k1, ek', pr_b1_s, k2, ei', pr_b1_s, k3, ej', pr_b1_s, if_neg (show ¬ nI 2 = 0 by decide), if_neg (show ¬ nI 2 = 1 by decide), if_pos (show nI 2 = 2 from rfl), show nI 2 - 1 = 1 by decide, er, pr_bd_s, pr_lt_s, pr_lt_s, ri_cl_0, ri_cl_1]
  · -- marks are hidden
    obtain ⟨r, er⟩ := v_hide h3 hj
    refine go (pr_up f (14 + 6) 1 (1 + nI j)) x13 x14 x15 (Iv_upd I0 (fun c z hc => by unfold ev_ex at hc; simp (disch := omega) only [rd_n]) (spl_same hsp (by simp (disch := omega) only [rd_n]) (by simp (disch := omega) only [rd_n])) (by simp (disch := omega) only [rd_n]; exact hsv) (by unfold dst; simp (disch := omega) only [rd_n]; exact ds0) (by unfold dst; simp (disch := omega) only [rd_n]; exact ds1) (by simp (disch := omega) only [rd_n]; exact m0) (by simp (disch := omega) only [rd_n]; exact m1) (fun h => ?_) (by simp (disch := omega) only [rd_n]; exact m3) (by simp (disch := omega) only [rd_n]; exact hf)) (fun n => ?_)
    · simp (disch := omega) only [rd_n, rd_e] at h; exact mn h
    · show L_L_law_111 _ _ _ _ _ _ _ _ _ _ _ _ _ _ (n + 1) _ _ _ _ _ _ = _
      rw [L_L_law_111, if_neg h40, k1, ek', pr_b1_s, k2, ei', pr_b1_s, k3, ej', pr_b1_s, if_neg (show ¬ nI 3 = 0 by decide), if_neg (show ¬ nI 3 = 1 by decide), if_neg (show ¬ nI 3 = 2 by decide), if_pos (show nI 3 = 3 from rfl), er, pr_bd_s]
  · -- a false mark
    obtain ⟨r, er⟩ := v_false h3 hi hj
    refine go (pr_up (pr_up (pr_up f (14 + 6) 2 (nI i - 200)) (14 + 6) 3 (1 + nI j)) 204 4 (nI i - 200)) x13 x14 x15 (Iv_upd I0 (fun c z hc => by unfold ev_ex at hc; simp (disch := omega) only [rd_n]) (spl_same hsp (by simp (disch := omega) only [rd_n]) (by simp (disch := omega) only [rd_n])) (by simp (disch := omega) only [rd_n]; exact hsv) (by unfold dst; simp (disch := omega) only [rd_n]; exact ds0) (by unfold dst; simp (disch := omega) only [rd_n]; exact ds1) (by simp (disch := omega) only [rd_n]; exact m0) (by simp (disch := omega) only [rd_n]; exact m1) (by simp (disch := omega) only [rd_n]; exact m2) (fun h => ?_) (by simp (disch := omega) only [rd_n, rd_e])) (fun n => ?_)
    · simp (disch := omega) only [rd_n, rd_e] at h; exact mn h
    · show L_L_law_111 _ _ _ _ _ _ _ _ _ _ _ _ _ _ (n + 1) _ _ _ _ _ _ = _
      rw [L_L_law_111, if_neg h40, k1, ek', pr_b1_s, k2, ei', pr_b1_s, k3, ej', pr_b1_s, if_neg (show ¬ nI 4 = 0 by decide), if_neg (show ¬ nI 4 = 1 by decide), if_neg (show ¬ nI 4 = 2 by decide), if_neg (show ¬ nI 4 = 3 by decide), if_pos (show nI 4 = 4 from rfl), er, pr_bd_s, pr_lt_s, ri_cl_4]
  · -- a splice starts
    have er := v_splice h3 h4 hd (show t < 100 by omega) hd9 hi hj
    refine go (pr_up (pr_up (pr_up f 1 7 (nI t)) 1 8 (nI i - 200)) 1 9 (1 + nI j)) 0 (nI i - 200) (1 + nI j) (Iv_upd I0 (fun c z hc => by unfold ev_ex at hc; simp (disch := omega) only [rd_n]) (Or.inr ⟨?_, t, Nat.le_refl _, ?_, by rw [Nat.sub_self]; rfl⟩) (fun _ => ⟨?_, ?_, mp⟩) (by unfold dst; simp (disch := omega) only [rd_n]; exact ds0) (by unfold dst; simp (disch := omega) only [rd_n]; exact ds1) (by simp (disch := omega) only [rd_n]; exact m0) (by simp (disch := omega) only [rd_n]; exact m1) (by simp (disch := omega) only [rd_n]; exact m2) (by simp (disch := omega) only [rd_n]; exact m3) (by simp (disch := omega) only [rd_n]; exact hf)) (fun n => ?_)
    · simp (disch := omega) only [rd_n, rd_e]; exact ri_pos0 mp
    · simp (disch := omega) only [rd_n, rd_e]
    · simp (disch := omega) only [rd_n, rd_e]
    · simp (disch := omega) only [rd_n, rd_e]
    · show L_L_law_111 _ _ _ _ _ _ _ _ _ _ _ _ _ _ (n + 1) _ _ _ _ _ _ = _
      rw [L_L_law_111, if_neg h40, k1, ek', pr_b1_s, k2, ei', pr_b1_s, k3, ej', pr_b1_s, if_neg (show ¬ nI 5 = 0 by decide), if_neg (show ¬ nI 5 = 1 by decide), if_neg (show ¬ nI 5 = 2 by decide), if_neg (show ¬ nI 5 = 3 by decide), if_neg (show ¬ nI 5 = 4 by decide), if_pos (show nI 5 = 5 from rfl), er, pr_bd_s, if_pos rfl]
  · -- nothing
    have ne : ∀ k : Nat, k < 6 → ¬ nI kd = nI k := fun k hk6 h => by
      have := (nI_eq (by omega) (by omega)).mp h
      omega
    refine go f x13 x14 x15 I0 (fun n => ?_)
    show L_L_law_111 _ _ _ _ _ _ _ _ _ _ _ _ _ _ (n + 1) _ _ _ _ _ _ = _
    rw [L_L_law_111, if_neg h40, k1, ek', pr_b1_s, k2, ei', pr_b1_s, k3, ej', pr_b1_s, if_neg (show ¬ nI kd = 0 from ne 0 (by decide)), if_neg (show ¬ nI kd = 1 from ne 1 (by decide)), if_neg (show ¬ nI kd = 2 from ne 2 (by decide)), if_neg (show ¬ nI kd = 3 from ne 3 (by decide)), if_neg (show ¬ nI kd = 4 from ne 4 (by decide)), if_neg (show ¬ nI kd = 5 from ne 5 (by decide))]
theorem v_err1 {f : pr_M} {n : Nat} (h3 : f 1 3 = 2) (hl : f (14 + 7) 1 = nI n) (hn : n < 60) : F_X8_errors 0 1 60 2 f = some (nI n) := by
  have hl' : f (14 + 6 + 1) 1 = nI n := hl
  unfold F_X8_errors F_X3_controlledUnitAt
  rw [Nat.zero_add, if_neg (by decide), c_unit uq1 h3, pr_b1_s, pr_op_S, pr_gdT (c_lc uq1), pr_b1_s, pr_op_S, pr_gdT (c_lc uq1), rc_outside, if_neg (by decide), if_pos (by decide), pr_b1_s, if_pos rfl, if_neg (by decide), if_neg (by decide), if_pos rfl]
  unfold F_X1_kept
  rw [pr_b1_s, if_neg (show ¬ (60 : Int32) < 60 by decide), hl', if_pos (show nI n < 60 from nI_lt (b := 60) hn (by decide))]
theorem v_err0 {f : pr_M} : F_X8_errors 0 0 1 0 f = some (-1000000001) := by
  unfold F_X8_errors F_X3_controlledUnitAt
  rw [if_pos rfl, pr_b1_s, pr_op_N]
theorem v_tot0 {f : pr_M} : F_X8_total 0 0 f = some (f (1 + 3) 0) := by
  unfold F_X8_total
  rw [rc_outside, if_neg (by decide), if_pos (by decide), pr_b1_s, if_pos rfl, pr_gdT (by decide +kernel), ri_cl_0, Nat.zero_add]
theorem v_tot2 {f : pr_M} : F_X8_total 0 2 f = some (f (1 + 3) 2) := by
  unfold F_X8_total
  rw [rc_outside, if_neg (by decide), if_pos (by decide), pr_b1_s, if_pos rfl, pr_gdT (by decide +kernel), ri_cl_2, Nat.zero_add]
theorem j_fin {L n : Nat} {xs : Nat → Int32} {f : pr_M} {s d : Nat} {x13 x14 x15 x16 : Int32} (I : Iv f 40 s d x13 x14 x15 x16) (hd1 : 1 ≤ d) (hd9 : d ≤ 9) (hs1 : 1 ≤ s) (hs9 : s ≤ 9) : j_L L xs d s (n + 1) x13 x14 x15 x16 (nI 40) f = some (1, f) := by
  obtain ⟨⟨h3, h4, h6⟩, ⟨hsp, hsv⟩, ⟨hd, hs⟩, -, -, -, -, hl, hto⟩ := I
  have e1 : (40 : Int32) - nI s - nI d = nI (40 - (s + d)) := by
    rw [show (40 : Int32) = nI 40 from rfl, pk_sub (by omega), pk_sub (by omega), show 40 - s - d = 40 - (s + d) by omega]
  have e21 : (2 : Int32) - 1 = 1 := by decide
  have e0 : nI 0 = 0 := rfl
  have hc : F_X8_count 0 3 f = some (if x13 < 0 then 0 else if x13 ≤ nI d then nI d + 1 - x13 else 0) := by
    unfold F_X8_count F_X3_repeatsToLastUnit
    rw [if_neg (by decide), if_neg (by decide), if_neg (by decide), if_pos rfl, Nat.zero_add]
    rcases hsp with ⟨h9, rfl⟩ | ⟨h9, s0, hs0, h7, rfl⟩
    · rw [if_pos h9, pr_b1_s, if_pos (by decide)]
    · rw [if_neg h9, h3, e21, c_way1 h3, pr_b1_s, pr_b1_s, h7, h4, hd, nI_add, nI_1, if_neg (nI_pos (by omega)), nI_1]
      by_cases c : 40 - s0 ≤ d
      · rw [if_pos (nI_le c (by omega)), pk_sub (by omega), pk_sub (by omega), if_pos (show 0 < nI (s0 + d + 1 - 40) from nI_lt (a := 0) (by omega) (by omega)), show s0 + d + 1 - 40 = d + 1 - (40 - s0) by omega]
      · rw [if_neg (nI_ge (by omega) (by omega))]
        by_cases c2 : s0 + d + 1 = 40
        · rw [c2, pk_sub (Nat.le_refl 40), Nat.sub_self, if_neg (by decide)]
        · rw [if_neg (fun h => Int32.lt_irrefl (Int32.lt_trans h (pk_sneg (by omega) (by omega))))]
  show L_L_law_111 _ _ _ _ _ _ _ _ _ _ _ _ _ _ (n + 1) _ _ _ _ _ _ = _
  rw [L_L_law_111, if_pos (show (40 : Int32) ≤ nI 40 by decide), e1, v_err1 h3 hl (by omega), pr_b1_s, if_pos rfl, v_tot0, pr_b1_s, v_tot2, pr_b1_s, if_pos hto, v_err0, pr_b1_s, if_pos rfl, hc, pr_b1_s, l_if, l_if, pr_b1_s, if_pos rfl]
theorem j_loop {L : Nat} {xs : Nat → Int32} {s d : Nat} (hL : L ≤ 260) (hd1 : 1 ≤ d) (hd9 : d ≤ 9) (hs1 : 1 ≤ s) (hs9 : s ≤ 9) : ∀ (m t n : Nat) (f : pr_M) (x13 x14 x15 x16 : Int32), t + m = 40 → m < n → Iv f t s d x13 x14 x15 x16 → ∃ g, j_L L xs d s n x13 x14 x15 x16 (nI t) f = some (1, g)
  | 0, t, n, f, x13, x14, x15, x16, hm, hn, I => by
    obtain ⟨n, rfl⟩ : ∃ j, n = j + 1 := ⟨n - 1, by omega⟩
    obtain rfl : t = 40 := by omega
    exact ⟨f, j_fin I hd1 hd9 hs1 hs9⟩
  | m + 1, t, n, f, x13, x14, x15, x16, hm, hn, I => by
    obtain ⟨n, rfl⟩ : ∃ j, n = j + 1 := ⟨n - 1, by omega⟩
    obtain ⟨g, y13, y14, y15, y16, E, IG⟩ := j_head (L := L) (xs := xs) hL I (by omega) hd1 hd9 hs1 hs9
    obtain ⟨g2, E2⟩ := j_loop hL hd1 hd9 hs1 hs9 m (t + 1) n g y13 y14 y15 y16 (by omega) (by omega) IG
    exact ⟨g2, by rw [E n, E2]⟩
