/-! ===== what is tried in the copy: forecast, attempt, best gain ===== -/
theorem rr_try {a a' b b' : pr_M} (h : rr a b) (hA : ∀ c s, (c < 50 ∨ 99 ≤ c) → a' c s = a c s) (hB : ∀ k, k < 1906 → b' 1 k = b 1 k) (hO : ∀ c k, c ≠ 1 → c ≠ 2 → b' c k = b c k) : rr a' b' := by
  obtain ⟨⟨t, ht, n, hn⟩, h1, h2, h3⟩ := h
  exact ⟨⟨t, ht, n, rpn_same hn (fun c s _ g => hA _ _ (by omega)) hB⟩, sl_same (by decide) h1 (fun s => hA _ _ (by omega)) (fun c s g _ => hA _ _ (by omega)) (fun j _ => hO _ _ (by decide) (by decide)) (hO _ _ (by decide) (by decide)), sl_same (by decide) h2 (fun s => hA _ _ (by omega)) (fun c s g _ => hA _ _ (by omega)) (fun j _ => hO _ _ (by decide) (by decide)) (hO _ _ (by decide) (by decide)), pd_f h3 (fun c s g => hA _ _ (by omega)) (hO _ _ (by decide) (by decide)) (fun j => hO _ _ (by decide) (by decide))⟩
theorem op_repN {a b : pr_M} {p n t : Nat} (ht : t ≤ 199999) (h : rpn a b p n t) :
    ∃ a' b', F_X3_makeRepeat p a = some ((), a') ∧ F_X9_makeRepeat 0 b = some ((), b') ∧ rpn a' b' p n (t + 1) ∧ (∀ c s, (c < p ∨ p + 49 ≤ c) → a' c s = a c s) ∧ (∀ c k, c ≠ 1 → b' c k = b c k) ∧ (∀ u, 1 ≤ u → u < n → F_X9_isSeen 0 (nI u) b = some (a' (uq p u + 6) 4)) := by
  obtain ⟨a', b', e1, e2, r, A, B, S, -, h66, -⟩ := op_repeat (p := p) ht (rp_of h)
  obtain ⟨n', hn'⟩ := r
  have e : n' = n := (nI_eq (by have := hn'.2.1; omega) (by have := h.2.1; omega)).mp (hn'.2.2.2.1.symm.trans (h66.trans h.2.2.2.1))
  subst e
  exact ⟨a', b', e1, e2, hn', A, B, fun u g1 g2 => S u n' h.2.2.2.1 h.2.1 g1 g2⟩
theorem lc_c {u : Nat} (hu : u < 5) : pr_LC[50 + 1 + 3 + 9 * u]? = some (7, 0) := by
  have key : ∀ u, u < 5 → pr_LC[50 + 1 + 3 + 9 * u]? = some (7, 0) := by decide +kernel
  exact key u hu
theorem rc_unit {a b : pr_M} {p n t u : Nat} (h : rpn a b p n t) (hu : u < n) : F_X3_unitAt p (nI u) a = some (some (p + 1 + 3 + 9 * u)) := by
  obtain ⟨h1, h2, h3, -⟩ := h
  unfold F_X3_unitAt
  rw [h3, if_neg (nI_pos (by omega)), if_neg (nI_ge hu (by omega)), ri_ug (by omega), ri_cl (by omega)]
/-- what the sensor saw after a repeat, as both sides hold it -/
theorem tr_seen {a b : pr_M} {p n t u : Nat} (h : rpn a b p n (t + 1)) (hu : u < n) (h4 : ¬ a (uq p u + 6) 4 = 0) : b 1 (353 * u + 31) = a (uq p u + 6) 5 := by
  have S := h.2.2.2.2.2.2.2.2.2.2.2.2.1 (Nat.succ_pos t) u hu
  unfold ru_s at S
  dsimp only [ru_U, ru_V] at S
  rcases S with ⟨g4, -⟩ | ⟨-, s31, -⟩
  · exact absurd g4 h4
  · exact s31
theorem ps_l : ∀ (m i N : Nat) (b : pr_M), i + m = 1906 → m < N → (∀ j, j < i → b 2 j = b 1 j) → ∃ b', L_X9_putAside_2 0 N (nI i) b = some ((), b') ∧ (∀ j, j < 1906 → b' 2 j = b 1 j) ∧ (∀ c j, c ≠ 2 → b' c j = b c j)
  | 0, i, N, b, hi, h1, h => by
    obtain ⟨N, rfl⟩ : ∃ j, N = j + 1 := ⟨N - 1, by omega⟩
    have hik : i = 1906 := by omega
    subst hik
    rw [L_X9_putAside_2, if_pos (show (1906 : Int32) ≤ nI 1906 by decide)]
    exact ⟨_, rfl, h, fun _ _ _ => rfl⟩
  | m + 1, i, N, b, hi, h1, h => by
    obtain ⟨N, rfl⟩ : ∃ j, N = j + 1 := ⟨N - 1, by omega⟩
    obtain ⟨b', e, e1, e2⟩ := ps_l m (i + 1) N (pr_up b 2 i (b 1 i)) (by omega) (by omega) (fun j hj => by
      by_cases c : j = i
      · subst c; rw [rd_e ⟨rfl, rfl⟩, rd_n (by omega)]
      · rw [rd_n (by omega), rd_n (by omega)]; exact h j (by omega))
    rw [L_X9_putAside_2, if_neg (show ¬ (1906 : Int32) ≤ nI i from nI_ge (b := 1906) (by omega) (by decide)), pr_gd_i (by omega) (by decide), ri_cl (by omega), pr_lt_s, nI_1, Nat.zero_add, Nat.zero_add, e]
    exact ⟨_, rfl, fun j hj => by rw [e1 j hj, rd_n (by omega)], fun c j hc => by rw [e2 c j hc, rd_n (by omega)]⟩
theorem pb_l : ∀ (m i N : Nat) (b : pr_M), i + m = 1906 → m < N → (∀ j, j < i → b 1 j = b 2 j) → ∃ b', L_X9_putBack_2 0 N (nI i) b = some ((), b') ∧ (∀ j, j < 1906 → b' 1 j = b 2 j) ∧ (∀ c j, c ≠ 1 → b' c j = b c j)
  | 0, i, N, b, hi, h1, h => by
    obtain ⟨N, rfl⟩ : ∃ j, N = j + 1 := ⟨N - 1, by omega⟩
    have hik : i = 1906 := by omega
    subst hik
    rw [L_X9_putBack_2, if_pos (show (1906 : Int32) ≤ nI 1906 by decide)]
    exact ⟨_, rfl, h, fun _ _ _ => rfl⟩
  | m + 1, i, N, b, hi, h1, h => by
    obtain ⟨N, rfl⟩ : ∃ j, N = j + 1 := ⟨N - 1, by omega⟩
    obtain ⟨b', e, e1, e2⟩ := pb_l m (i + 1) N (pr_up b 1 i (b 2 i)) (by omega) (by omega) (fun j hj => by
      by_cases c : j = i
      · subst c; rw [rd_e ⟨rfl, rfl⟩, rd_n (by omega)]
      · rw [rd_n (by omega), rd_n (by omega)]; exact h j (by omega))
    rw [L_X9_putBack_2, if_neg (show ¬ (1906 : Int32) ≤ nI i from nI_ge (b := 1906) (by omega) (by decide)), pr_gd_i (by omega) (by decide), ri_cl (by omega), pr_lt_s, nI_1, Nat.zero_add, Nat.zero_add, e]
    exact ⟨_, rfl, fun j hj => by rw [e1 j hj, rd_n (by omega)], fun c j hc => by rw [e2 c j hc, rd_n (by omega)]⟩
theorem ps_all (b : pr_M) : ∃ b', F_X9_putAside 0 b = some ((), b') ∧ (∀ j, j < 1906 → b' 2 j = b 1 j) ∧ (∀ c j, c ≠ 2 → b' c j = b c j) := by
  obtain ⟨b', e, e1, e2⟩ := ps_l 1906 0 pr_fuel b rfl (by decide) (fun j hj => absurd hj (Nat.not_lt_zero j))
  unfold F_X9_putAside
  rw [show L_X9_putAside_2 0 pr_fuel 0 b = some ((), b') from e, pr_bd_s]
  exact ⟨_, rfl, e1, e2⟩
theorem pb_all (b : pr_M) : ∃ b', F_X9_putBack 0 b = some ((), b') ∧ (∀ j, j < 1906 → b' 1 j = b 2 j) ∧ (∀ c j, c ≠ 1 → b' c j = b c j) := by
  obtain ⟨b', e, e1, e2⟩ := pb_l 1906 0 pr_fuel b rfl (by decide) (fun j hj => absurd hj (Nat.not_lt_zero j))
  unfold F_X9_putBack
  rw [show L_X9_putBack_2 0 pr_fuel 0 b = some ((), b') from e, pr_bd_s]
  exact ⟨_, rfl, e1, e2⟩
theorem fc_l {u n z : Nat} {y : Int32} (hu1 : 1 ≤ u) (hu : u < n) (hu5 : u < 5) (hz : z ≤ 300) : ∀ (m i N N' t : Nat) (cnt : Int32) (a b : pr_M), i + m = z + 1 → m < N → m < N' → t + m ≤ 200000 → rpn a b 50 n t →
    ∃ r a' b', L_X8_forecast_63 0 (nI u) y (nI z) N cnt (nI i) a = some (r, a') ∧ L_X9_comesBack_6 0 (nI u) y (nI z) N' cnt (nI i) b = some (r, b') ∧ (∀ c s, (c < 50 ∨ 99 ≤ c) → a' c s = a c s) ∧ (∀ c k, c ≠ 1 → b' c k = b c k)
  | 0, i, N, N', t, cnt, a, b, hi, h1, h2, ht, h => by
    obtain ⟨N, rfl⟩ : ∃ j, N = j + 1 := ⟨N - 1, by omega⟩
    obtain ⟨N', rfl⟩ : ∃ j, N' = j + 1 := ⟨N' - 1, by omega⟩
    rw [L_X8_forecast_63, L_X9_comesBack_6, if_pos (nI_lt (by omega) (by omega)), if_pos (nI_lt (by omega) (by omega))]
    exact ⟨_, _, _, rfl, rfl, fun _ _ _ => rfl, fun _ _ _ => rfl⟩
  | m + 1, i, N, N', t, cnt, a, b, hi, h1, h2, ht, h => by
    obtain ⟨N, rfl⟩ : ∃ j, N = j + 1 := ⟨N - 1, by omega⟩
    obtain ⟨N', rfl⟩ : ∃ j, N' = j + 1 := ⟨N' - 1, by omega⟩
    obtain ⟨a1, b1, e1, e2, r1, A1, B1, S1⟩ := op_repN (p := 50) (by omega) h
    rw [L_X8_forecast_63, L_X9_comesBack_6, if_neg (nI_nlt (by omega) (by omega)), if_neg (nI_nlt (by omega) (by omega)), Nat.zero_add, e1, S1 u hu1 hu, pr_b1_s, e2, pr_bd_s, pr_bd_s]
    have hW : F_X3_isWithin 50 (nI u) y a1 = some (if a1 (uq 50 u + 6) 4 = 0 then 0 else if y < (if 0 ≤ a1 (uq 50 u + 6) 5 then a1 (uq 50 u + 6) 5 else 0 - a1 (uq 50 u + 6) 5) then 0 else 1) := by
      unfold F_X3_isWithin
      rw [rc_unit r1 hu, pr_b1_s]
      unfold pr_op pr_gd
      dsimp only [uq]
      rw [if_pos (lc_c hu5)]
      by_cases c : a1 (50 + 1 + 3 + 9 * u + 6) 4 = 0
      · rw [if_pos c, if_pos c]
      · rw [if_neg c, if_neg c]
        by_cases c2 : y < (if 0 ≤ a1 (50 + 1 + 3 + 9 * u + 6) 5 then a1 (50 + 1 + 3 + 9 * u + 6) 5 else 0 - a1 (50 + 1 + 3 + 9 * u + 6) 5)
        · rw [if_pos c2, if_pos c2]
        · rw [if_neg c2, if_neg c2]
    rw [hW, pr_b1_s]
    obtain ⟨v, hv⟩ : ∃ v : Int32, v = if a1 (uq 50 u + 6) 4 = 0 then 0 else if y < (if 0 ≤ a1 (uq 50 u + 6) 5 then a1 (uq 50 u + 6) 5 else 0 - a1 (uq 50 u + 6) 5) then 0 else cnt + 1 := ⟨_, rfl⟩
    have v1 : (if (if a1 (uq 50 u + 6) 4 = 0 then (0 : Int32) else if y < (if 0 ≤ a1 (uq 50 u + 6) 5 then a1 (uq 50 u + 6) 5 else 0 - a1 (uq 50 u + 6) 5) then 0 else 1) = 0 then some (0 : Int32) else some (cnt + 1)) = some v := by
      rw [hv]
      by_cases c : a1 (uq 50 u + 6) 4 = 0
      · rw [if_pos c, if_pos c, if_pos rfl]
      · rw [if_neg c, if_neg c]
        by_cases c2 : y < (if 0 ≤ a1 (uq 50 u + 6) 5 then a1 (uq 50 u + 6) 5 else 0 - a1 (uq 50 u + 6) 5)
        · rw [if_pos c2, if_pos c2, if_pos rfl]
        · rw [if_neg c2, if_neg c2, if_neg (show ¬ (1 : Int32) = 0 by decide)]
    have v2 : (if a1 (uq 50 u + 6) 4 = 0 then some (0 : Int32) else pr_b1 (F_X9_of 0 (nI u) 31 b1) fun r7010 => pr_b1 (F_X9_size r7010 b1) fun r7012 => if y < r7012 then some 0 else some (cnt + 1)) = some v := by
      rw [hv]
      by_cases c : a1 (uq 50 u + 6) 4 = 0
      · rw [if_pos c, if_pos c]
      · rw [if_neg c, if_neg c, rm_of_31 _ hu5, pr_b1_s, rm_size, pr_b1_s, tr_seen r1 hu c]
        by_cases c2 : y < (if 0 ≤ a1 (uq 50 u + 6) 5 then a1 (uq 50 u + 6) 5 else 0 - a1 (uq 50 u + 6) 5)
        · rw [if_pos c2, if_pos c2]
        · rw [if_neg c2, if_neg c2]
    rw [v1, v2, pr_b1_s, pr_b1_s]
    by_cases c5 : v = 5
    · rw [if_pos c5, if_pos c5]
      exact ⟨_, _, _, rfl, rfl, fun c s hc => A1 c s (by omega), B1⟩
    · rw [if_neg c5, if_neg c5, nI_1]
      obtain ⟨r, a', b', f1, f2, f3, f4⟩ := fc_l hu1 hu hu5 hz m (i + 1) N N' (t + 1) v a1 b1 (by omega) (by omega) (by omega) (by omega) r1
      exact ⟨r, a', b', f1, f2, fun c s hc => by rw [f3 c s hc, A1 c s (by omega)], fun c k hc => by rw [f4 c k hc, B1 c k hc]⟩
theorem tr_l {u n d : Nat} (hu1 : 1 ≤ u) (hu : u < n) (hu5 : u < 5) (hd : d ≤ 300) : ∀ (m i N N' t : Nat) (s : Int32) (a b : pr_M), i + m = d → m < N → m < N' → t + m ≤ 200000 → rpn a b 50 n t →
    ∃ r a' b', L_X3_sumErrorsIn_33 50 (nI d) (50 + 1 + 3 + 9 * u) N s (nI i) a = some (r, a') ∧ L_X9_tried_17 0 (nI u) (nI d) N' s (nI i) b = some (r, b') ∧ (∀ c s, (c < 50 ∨ 99 ≤ c) → a' c s = a c s) ∧ (∀ c k, c ≠ 1 → b' c k = b c k)
  | 0, i, N, N', t, s, a, b, hi, h1, h2, ht, h => by
    obtain ⟨N, rfl⟩ : ∃ j, N = j + 1 := ⟨N - 1, by omega⟩
    obtain ⟨N', rfl⟩ : ∃ j, N' = j + 1 := ⟨N' - 1, by omega⟩
    rw [L_X3_sumErrorsIn_33, L_X9_tried_17, if_pos (nI_le (by omega) (by omega)), if_pos (nI_le (by omega) (by omega))]
    exact ⟨_, _, _, rfl, rfl, fun _ _ _ => rfl, fun _ _ _ => rfl⟩
  | m + 1, i, N, N', t, s, a, b, hi, h1, h2, ht, h => by
    obtain ⟨N, rfl⟩ : ∃ j, N = j + 1 := ⟨N - 1, by omega⟩
    obtain ⟨N', rfl⟩ : ∃ j, N' = j + 1 := ⟨N' - 1, by omega⟩
    obtain ⟨a1, b1, e1, e2, r1, A1, B1, S1⟩ := op_repN (p := 50) (by omega) h
    rw [L_X3_sumErrorsIn_33, L_X9_tried_17, if_neg (nI_ge (by omega) (by omega)), if_neg (nI_ge (by omega) (by omega)), e1, S1 u hu1 hu, pr_b1_s, e2, pr_bd_s, pr_bd_s, nI_1]
    have fin : ∀ v : Int32, ∃ r a' b', L_X3_sumErrorsIn_33 50 (nI d) (50 + 1 + 3 + 9 * u) N v (nI (i + 1)) a1 = some (r, a') ∧ L_X9_tried_17 0 (nI u) (nI d) N' v (nI (i + 1)) b1 = some (r, b') ∧ (∀ c s, (c < 50 ∨ 99 ≤ c) → a' c s = a c s) ∧ (∀ c k, c ≠ 1 → b' c k = b c k) := fun v => by
      obtain ⟨r, a', b', f1, f2, f3, f4⟩ := tr_l hu1 hu hu5 hd m (i + 1) N N' (t + 1) v a1 b1 (by omega) (by omega) (by omega) (by omega) r1
      exact ⟨r, a', b', f1, f2, fun c s hc => by rw [f3 c s hc, A1 c s (by omega)], fun c k hc => by rw [f4 c k hc, B1 c k hc]⟩
    by_cases c : a1 (50 + 1 + 3 + 9 * u + 6) 4 = 0
    · rw [if_pos c, if_pos c, pr_b1_s, Int32.add_zero]
      exact fin s
    · rw [if_neg c, if_neg c, rm_of_31 _ hu5, pr_b1_s, rm_size, pr_b1_s, pr_b1_s, tr_seen r1 hu c]
      exact fin _
theorem op_tried {a b : pr_M} {n t u j d : Nat} {v : Int32} (hn : rpn a b 1 n t) (ht : t ≤ 100000) (hu1 : 1 ≤ u) (hu : u < n) (hj2 : 2 ≤ j) (hj : j < 11) (hv : okS j v) (hd : d ≤ 300) :
    ∃ r a' b', F_X3_sumErrorsIn 50 1 (nI u) (nI j) v (nI d) a = some (r, a') ∧ F_X9_tried 0 (nI u) (nI j) v (nI d) b = some (r, b') ∧ (∀ c s, (c < 50 ∨ 99 ≤ c) → a' c s = a c s) ∧ (∀ k, k < 1906 → b' 1 k = b 1 k) ∧ (∀ c k, c ≠ 1 → c ≠ 2 → b' c k = b c k) := by
  have hu5 : u < 5 := by have := hn.2.1; omega
  obtain ⟨a1, c1, c2, c3⟩ := op_copy (p := 50) (q := 1) (by omega) hn
  obtain ⟨b1, p1, p2, p3⟩ := ps_all b
  have hn1 : rpn a1 b1 50 n t := rpn_same c2 (fun _ _ _ _ => rfl) (fun k _ => p3 _ _ (by decide))
  have hn2 : rpn (pr_up a1 (50 + 1 + 3 + 9 * u + 1) j v) (pr_up b1 1 (353 * u + j) v) 50 n t := by
    refine rpn_unit hn1 hu (uk_set hj hv (hn1.2.2.2.2.2.2.2.2.2.2.2.1 u hu)) (fun h0 => ?_) ?_ ?_ (fun c s hc => rd_n (by dsimp only [uq] at hc; omega)) (fun c k hc => rd_n (by omega)) (Or.inl (rd_n (by omega)))
    · have S := hn1.2.2.2.2.2.2.2.2.2.2.2.2.1 h0 u hu
      unfold ru_s ru_z at S ⊢
      dsimp only [ru_U, ru_V, uq] at S ⊢
      simp (disch := omega) only [rd_n]
      exact S
    · exact rd_n (by dsimp only [uq]; omega)
    · exact rd_n (by dsimp only [uq]; omega)
  obtain ⟨r, a', b2, f1, f2, f3, f4⟩ := tr_l hu1 hu hu5 hd d 0 pr_fuel pr_fuel t 0 _ _ (by omega) (by show d < 4000; omega) (by show d < 4000; omega) (by omega) hn2
  obtain ⟨b3, q1, q2, q3⟩ := pb_all b2
  refine ⟨r, a', b3, ?_, ?_, fun c s hc => ?_, fun k hk => ?_, fun c k g1 g2 => ?_⟩
  · unfold F_X3_sumErrorsIn
    rw [c1, pr_bd_s, rc_unit c2 hu, pr_b1_s]
    unfold pr_op pr_gd
    dsimp only
    rw [if_pos (lc_c hu5), rc_change _ _ hj, pr_bd_s, show L_X3_sumErrorsIn_33 50 (nI d) (50 + 1 + 3 + 9 * u) pr_fuel 0 0 (pr_up a1 (50 + 1 + 3 + 9 * u + 1) j v) = some (r, a') from f1, pr_bd_s]
  · unfold F_X9_tried
    rw [p1, pr_bd_s, rm_lay _ _ hu5 (by omega), pr_bd_s, show L_X9_tried_17 0 (nI u) (nI d) pr_fuel 0 0 (pr_up b1 1 (353 * u + j) v) = some (r, b2) from f2, pr_bd_s, q1, pr_bd_s]
  · rw [f3 c s hc, rd_n (by omega), c3 c s (by omega)]
  · rw [q2 k hk, f4 _ _ (by decide), rd_n (by omega), p2 k hk]
  · rw [q3 _ _ g1, f4 _ _ g1, rd_n (by omega), p3 _ _ g2]
