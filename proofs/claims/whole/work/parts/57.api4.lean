theorem rc_way_l {a b : pr_M} {p n u : Nat} (hn5 : n ≤ 5) (hu : u < n) (h3 : a p 3 = nI n) (h : wy_ok b (n - 1)) (hk : ∀ u, u < n → a (uq p u + 1) 0 = b 1 (353 * u + 0)) : ∀ (m k N : Nat), k + m = u + 1 → 1 ≤ k → m < N → L_X3_wayOf_4 p (nI u) N (nI (wy b (k - 1))) (nI k) a = some (nI (wy b u))
  | 0, k, N, hk1, h1, hN => by
    obtain ⟨N, rfl⟩ : ∃ j, N = j + 1 := ⟨N - 1, by omega⟩
    have hk' : k = u + 1 := by omega
    subst hk'
    rw [L_X3_wayOf_4, if_pos (nI_lt (by omega) (by omega)), Nat.add_sub_cancel]
  | m + 1, k, N, hk1, h1, hN => by
    obtain ⟨N, rfl⟩ : ∃ j, N = j + 1 := ⟨N - 1, by omega⟩
    obtain ⟨d, e1, e2, e3⟩ := h k h1 (by omega)
    have hd0 : a (p + 1 + 3 + 9 * k + 1) 0 = nI d := by rw [← e1]; exact hk k (by omega)
    rw [L_X3_wayOf_4, if_neg (nI_nlt (by omega) (by omega)), h3, if_neg (nI_ge (by omega) (by omega)), ri_ug (by omega), ri_cl (by omega), rc_set_0, pr_b1_s, hd0, nI_add, ← wy_s h1 e1 e3, nI_1]
    have := rc_way_l hn5 hu h3 h hk m (k + 1) N (by omega) (by omega) (by omega)
    rw [Nat.add_sub_cancel] at this
    exact this
theorem rc_way {a b : pr_M} {p n u : Nat} (hn5 : n ≤ 5) (hu : u < n) (h3 : a p 3 = nI n) (h : wy_ok b (n - 1)) (hk : ∀ u, u < n → a (uq p u + 1) 0 = b 1 (353 * u + 0)) : F_X3_wayOf p (nI u) a = some (nI (wy b u)) := by
  have := rc_way_l hn5 hu h3 h hk u 1 pr_fuel (by omega) (by omega) (by show u < 4000; omega)
  unfold F_X3_wayOf
  rw [show (0 : Int32) = nI (wy b (1 - 1)) from rfl, show (1 : Int32) = nI 1 from rfl, this, pr_b1_s]
theorem ap_way {a b : pr_M} {n t u : Nat} (hn : rpn a b 1 n t) (hu : u < n) : F_X3_wayOf 1 (nI u) a = some (nI (wy b u)) ∧ F_X9_way 0 (nI u) b = some (nI (wy b u)) := by
  have hk := hn.2.2.2.2.2.2.2.2.2.2.2.1
  have hw := wok_of hk
  have h5 := hn.2.1
  exact ⟨rc_way h5 hu hn.2.2.1 hw (fun u hu => (hk u hu).1.1 0 (by decide)), rm_way (by omega) (wy_ok_le hw (by omega))⟩
/-- the repeats until the splice is at the last unit -/
theorem ap_last {a b : pr_M} {n t : Nat} (hn : rpn a b 1 n t) (ht : t ≤ 200000) : ∃ r, F_X3_repeatsToLastUnit 1 a = some r ∧ (if b 1 1771 = 0 then some 0 else pr_b1 (F_X9_way 0 (b 1 1766 - 1) b) fun r11 => some ((r11 + 2) - b 1 1771)) = some r := by
  obtain ⟨h1, h2, h3, h4, h5, h6, h7, h8, hsp, h10, h11, hk, -⟩ := id hn
  have hw := wok_of hk
  have hwl := (wy_le hw).2
  have hC := (ap_way hn (u := n - 1) (by omega)).1
  have hM := (ap_way hn (u := n - 1) (by omega)).2
  unfold F_X3_repeatsToLastUnit
  rw [h3, h4, ri_neg1 (by omega)]
  rcases hsp with ⟨g1, g2⟩ | ⟨s, g7, hs, g9, hh⟩
  · rw [if_pos g1, if_pos g2]
    exact ⟨0, rfl, rfl⟩
  · rw [if_neg g9, hC, pr_b1_s, g7, h5, nI_add, nI_1]
    rcases hh with ⟨e71, hle, -⟩ | ⟨e71, hgt⟩
    · have e1 : nI (s + wy b (n - 1) + 1) - nI t = nI (s + wy b (n - 1) + 1 - t) := pk_sub (by omega)
      have e2 : nI (wy b (n - 1)) + 2 - nI (t - s + 1) = nI (s + wy b (n - 1) + 1 - t) := by
        rw [show (2 : Int32) = nI 2 from rfl, nI_add, pk_sub (by omega)]
        congr 1
        omega
      rw [e1, if_pos (show (0 : Int32) < nI (s + wy b (n - 1) + 1 - t) from nI_lt (a := 0) (by omega) (by omega)), e71, if_neg (nI_ne0 (by omega) (by omega)), hM, pr_b1_s, e2]
      exact ⟨_, rfl, rfl⟩
    · rw [if_pos e71]
      refine ⟨0, ?_, rfl⟩
      rcases (show t = s + wy b (n - 1) + 1 ∨ s + wy b (n - 1) + 1 < t by omega) with e | e
      · rw [← e, Int32.sub_self, if_neg (by decide)]
      · rw [if_neg (fun c => absurd (pk_sneg (a := s + wy b (n - 1) + 1) (b := t) (by omega) e) (Int32.not_lt.mpr (Int32.le_of_lt c)))]
theorem s_count {a b : pr_M} (h : rr a b) (x : Int32) : owe1 (F_X8_count 0 x a) (F_X9_count 0 x b) := by
  obtain ⟨t, ht, n, hn⟩ := h.1
  obtain ⟨len, p1, p2, p3, -⟩ := h.2.2.2
  obtain ⟨h1, h2, h3, h4, h5, h6, h7, -⟩ := id hn
  obtain ⟨r, r1, r2⟩ := ap_last hn (by omega)
  unfold F_X8_count F_X9_count
  simp only [Nat.zero_add, ri_cl_1765, ri_cl_1766, ri_cl_1767, ri_cl_1771]
  by_cases c0 : x = 0
  · rw [if_pos c0, if_pos c0]; exact ⟨_, rfl, by rw [h5, h6]⟩
  · rw [if_neg c0, if_neg c0]
    by_cases c1 : x = 1
    · rw [if_pos c1, if_pos c1]; exact ⟨_, rfl, by rw [h3, h4]⟩
    · rw [if_neg c1, if_neg c1]
      by_cases c2 : x = 2
      · rw [if_pos c2, if_pos c2]; exact ⟨_, rfl, by rw [h7]⟩
      · rw [if_neg c2, if_neg c2]
        by_cases c3 : x = 3
        · rw [if_pos c3, if_pos c3, r1, pr_b1_s, r2]; exact ⟨_, rfl, rfl⟩
        · rw [if_neg c3, if_neg c3]
          by_cases c4 : x = 4
          · rw [if_pos c4, if_pos c4]; exact ⟨_, rfl, by rw [p2, p3]⟩
          · rw [if_neg c4, if_neg c4]; exact ⟨_, rfl, rfl⟩
theorem s_total {a b : pr_M} (h : rr a b) (x : Int32) : owe1 (F_X8_total 0 x a) (F_X9_total 0 x b) := by
  obtain ⟨t, ht, n, hn⟩ := h.1
  have hto := hn.2.2.2.2.2.2.2.2.2.1
  unfold F_X8_total F_X9_total
  rw [rc_outside, rm_in, pr_b1_s, pr_b1_s]
  by_cases c1 : x < 0
  · rw [if_pos c1, if_pos c1, if_neg (by decide), if_pos rfl]; exact ⟨_, rfl, rfl⟩
  · rw [if_neg c1, if_neg c1]
    by_cases c2 : x ≤ 5
    · obtain ⟨j, hj, rfl⟩ := nI_of2 (M := 5) (n := 5) (by decide) c1 c2
      rw [if_pos c2, if_neg (Int32.not_lt.mpr c2), if_pos rfl, if_neg (by decide), pr_gd_i (show j < 6 by omega) (by decide), ri_cl (by omega), show (1772 : Int32) + nI j = nI (1772 + j) from nI_add 1772 j, pr_gd_i (show 1772 + j < 1906 by omega) (by decide), ri_cl (by omega)]
      exact ⟨_, rfl, by rw [show a (0 + 1 + 3) j = b 1 (1772 + j) from hto j (by omega)]⟩
    · rw [if_neg c2, if_pos (Int32.not_le.mp c2), if_neg (by decide), if_pos rfl]; exact ⟨_, rfl, rfl⟩
theorem s_splice {a b : pr_M} (h : rr a b) (x y : Int32) : owe (F_X8_splice 0 x y a) (F_X9_splice 0 x y b) := by
  obtain ⟨t, ht, n, hn⟩ := h.1
  unfold F_X8_splice F_X9_splice
  rcases ap_dist x y a b with ⟨hd, d1, d2⟩ | ⟨d1, d2⟩
  · rw [d1, d2, pr_b1_s, pr_b1_s, if_neg (show ¬ (1 : Int32) = 0 by decide), if_neg (show ¬ (1 : Int32) = 0 by decide)]
    have hy : ¬ y = 0 := by
      rintro rfl
      exact hd.2.2.1 (by decide)
    obtain ⟨h1, h2, h3, h4, h5, h6, h7, h8, h9, h10, h11, h12, h13, h14, h15⟩ := id hn
    have hn2 : rpn (pr_up (pr_up (pr_up a 1 7 (nI t)) 1 8 x) 1 9 y) (pr_up (pr_up (pr_up b 1 1769 x) 1 1770 y) 1 1771 1) 1 n t := by
      refine ⟨h1, h2, ?_, ?_, ?_, ?_, ?_, ?_, Or.inr ⟨t, ?_, Nat.le_refl _, ?_, Or.inl ⟨?_, ?_, ?_, ?_⟩⟩, fun j hj => ?_, fun i g1 g2 => ?_, fun u hu => ?_, fun ht u hu => ?_, fun u hu => ?_, ?_⟩
      · simp (disch := omega) only [rd_n]; exact h3
      · simp (disch := omega) only [rd_n]; exact h4
      · simp (disch := omega) only [rd_n]; exact h5
      · simp (disch := omega) only [rd_n]; exact h6
      · simp (disch := omega) only [rd_n]; exact h7
      · simp (disch := omega) only [rd_n]; exact h8
      · simp (disch := omega) only [rd_n, rd_e]
      · rw [rd_e ⟨rfl, rfl⟩]; exact hy
      · rw [rd_e ⟨rfl, rfl⟩, Nat.sub_self]; rfl
      · rw [Nat.sub_self]; exact Nat.zero_le _
      · simp (disch := omega) only [rd_n, rd_e]
      · simp (disch := omega) only [rd_n, rd_e]
      · simp (disch := omega) only [rd_n]; exact h10 j hj
      · simp (disch := omega) only [rd_n]; exact h11 i g1 g2
      · exact ru_k_same (h12 u hu) (fun j s hj => by dsimp only [ru_U, uq]; simp (disch := omega) only [rd_n]) (fun k hk => by dsimp only [ru_V]; simp (disch := omega) only [rd_n])
      · exact ru_s_same (h13 ht u hu) (fun j s hj => by dsimp only [ru_U, uq]; simp (disch := omega) only [rd_n]) (fun k hk => by dsimp only [ru_V]; simp (disch := omega) only [rd_n])
      · dsimp only [uq]; simp (disch := omega) only [rd_n]; exact h14 u hu
      · dsimp only [uq]; simp (disch := omega) only [rd_n]; exact h15
    obtain ⟨r, r1, r2⟩ := ap_last hn2 (by omega)
    have hr : rr (pr_up (pr_up (pr_up a 1 7 (nI t)) 1 8 x) 1 9 y) (pr_up (pr_up (pr_up b 1 1769 x) 1 1770 y) 1 1771 1) := rr_press h ht (rp_of hn2) (fun c s hc => by simp (disch := omega) only [rd_n]) (fun c s hc => by simp (disch := omega) only [rd_n])
    have e3 : b 1 1766 = nI n := h4
    have hw2 := (ap_way hn2 (u := n - 1) (by omega)).2
    have e66 : (pr_up (pr_up (pr_up b 1 1769 x) 1 1770 y) 1 1771 1) 1 1766 = nI n := by simp (disch := omega) only [rd_n]; exact h4
    rw [rd_e ⟨rfl, rfl⟩, if_neg (by decide), e66, ri_neg1 (by omega), hw2, pr_b1_s] at r2
    have er : nI (wy (pr_up (pr_up (pr_up b 1 1769 x) 1 1770 y) 1 1771 1) (n - 1)) + 2 - 1 = nI (wy (pr_up (pr_up (pr_up b 1 1769 x) 1 1770 y) 1 1771 1) (n - 1)) + 1 := by
      rw [show (2 : Int32) = nI 2 from rfl, nI_add, show nI (wy (pr_up (pr_up (pr_up b 1 1769 x) 1 1770 y) 1 1771 1) (n - 1) + 2) - 1 = nI (wy (pr_up (pr_up (pr_up b 1 1769 x) 1 1770 y) 1 1771 1) (n - 1) + 1) from nI_pred _, nI_1]
    rw [er] at r2
    refine ⟨r, _, _, ?_, ?_, hr⟩
    · unfold F_X3_startSplice
      rw [Nat.zero_add, h5, pr_lt_s, pr_lt_s, pr_lt_s, pr_bd_s, r1, pr_b1_s]
    · unfold F_X9_startSplice
      rw [pr_lt_s, pr_lt_s, pr_lt_s, Nat.zero_add, ri_cl_1769, ri_cl_1770, ri_cl_1771, ri_cl_1766, e66, ri_neg1 (by omega), hw2, pr_b1_s, pr_bd_s, (Option.some.inj r2)]
  · rw [d1, d2, pr_b1_s, pr_b1_s, if_pos rfl, if_pos rfl]
    exact owe_same h _ rfl rfl
theorem s_state {a b : pr_M} (h : rr a b) (x y : Int32) : owe1 (F_X8_state 0 x y a) (F_X9_state 0 x y b) := by
  obtain ⟨t, ht, n, hn⟩ := h.1
  unfold F_X8_state F_X9_state
  rcases ap_unit hn x with ⟨u, hu, hu5, rfl, e1, e2⟩ | ⟨e1, e2, -⟩
  · rw [e1, e2, pr_b1_s, pr_b1_s, if_neg (show ¬ (1 : Int32) = 0 by decide), rm_in]
    unfold pr_op pr_gd
    dsimp only
    rw [if_pos (lc_u hu5), pr_b1_s]
    obtain ⟨⟨-, ⟨a2, a3, a4, a5, a6, a7⟩, ⟨a8, a9, a10, a11, a12, a13, a14⟩, ⟨a15, a16, a17⟩⟩, -⟩ := k_of hn hu
    dsimp only [ru_U, ru_V, uq] at *
    have hw := ap_way hn hu
    have no : ∀ k : Nat, k < 2 ^ 31 → (y < 0 ∨ 13 < y) → k ≤ 13 → ¬ y = nI k := fun k hk hy h13 e => by
      rw [e] at hy
      rcases hy with hy | hy
      · exact nI_pos hk hy
      · exact nI_nlt (a := 13) (b := k) h13 (by decide) hy
    by_cases hbig : y < 0 ∨ 13 < y
    · have r5 : (if y < 0 then (0 : Int32) else if 9 < y then 0 else 1) = 0 := by
        rcases hbig with c | c
        · rw [if_pos c]
        · rw [if_neg (fun c2 => absurd (Int32.lt_trans c2 (Int32.lt_trans (by decide) c)) (Int32.lt_irrefl)), if_pos (Int32.lt_trans (by decide) c)]
      rw [r5, if_pos rfl]
      rw [if_neg (show ¬ y = 0 from no 0 (by decide) hbig (by decide)), if_neg (show ¬ y = 1 from no 1 (by decide) hbig (by decide)), if_neg (show ¬ y = 2 from no 2 (by decide) hbig (by decide)), if_neg (show ¬ y = 3 from no 3 (by decide) hbig (by decide)), if_neg (show ¬ y = 4 from no 4 (by decide) hbig (by decide)), if_neg (show ¬ y = 5 from no 5 (by decide) hbig (by decide)), if_neg (show ¬ y = 6 from no 6 (by decide) hbig (by decide)), if_neg (show ¬ y = 7 from no 7 (by decide) hbig (by decide)), if_neg (show ¬ y = 8 from no 8 (by decide) hbig (by decide)), if_neg (show ¬ y = 9 from no 9 (by decide) hbig (by decide)), if_neg (show ¬ y = 10 from no 10 (by decide) hbig (by decide)), if_neg (show ¬ y = 11 from no 11 (by decide) hbig (by decide)), if_neg (show ¬ y = 12 from no 12 (by decide) hbig (by decide)), if_neg (show ¬ y = 13 from no 13 (by decide) hbig (by decide)), if_neg (show ¬ y = 10 from no 10 (by decide) hbig (by decide)), if_neg (show ¬ y = 11 from no 11 (by decide) hbig (by decide)), if_neg (show ¬ y = 12 from no 12 (by decide) hbig (by decide)), if_neg (show ¬ y = 13 from no 13 (by decide) hbig (by decide))]
      exact ⟨_, rfl, rfl⟩
    · obtain ⟨j, hj, rfl⟩ := nI_of2 (M := 13) (n := 13) (by decide) (fun c => hbig (Or.inl c)) (Int32.not_lt.mp fun c => hbig (Or.inr c))
      rcases (show j = 0 ∨ j = 1 ∨ j = 2 ∨ j = 3 ∨ j = 4 ∨ j = 5 ∨ j = 6 ∨ j = 7 ∨ j = 8 ∨ j = 9 ∨ j = 10 ∨ j = 11 ∨ j = 12 ∨ j = 13 by omega) with rfl | rfl | rfl | rfl | rfl | rfl | rfl | rfl | rfl | rfl | rfl | rfl | rfl | rfl
      · have q1 : F_X4_byHand (1 + 1 + 3 + 9 * u + 2) (nI 0) a = some (a (1 + 1 + 3 + 9 * u + 2) 2) := by
          unfold F_X4_byHand
          rw [if_pos (show nI 0 = 0 by decide)]
        rw [q1, if_pos (show nI 0 = 0 by decide), pr_b1_s, if_neg (show ¬ nI 0 < 0 by decide), if_neg (show ¬ (9 : Int32) < nI 0 by decide), if_neg (show ¬ (1 : Int32) = 0 by decide), show (11 : Int32) + nI 0 = 11 by decide, rm_of_11 _ hu5, pr_b1_s]
        exact ⟨_, rfl, by rw [a2]⟩
      · have q1 : F_X4_byHand (1 + 1 + 3 + 9 * u + 2) (nI 1) a = some (a (1 + 1 + 3 + 9 * u + 2) 3) := by
          unfold F_X4_byHand
          rw [if_neg (show ¬ nI 1 = 0 by decide), if_pos (show nI 1 = 1 by decide)]
        rw [q1, if_neg (show ¬ nI 1 = 0 by decide), if_pos (show nI 1 = 1 by decide), pr_b1_s, if_neg (show ¬ nI 1 < 0 by decide), if_neg (show ¬ (9 : Int32) < nI 1 by decide), if_neg (show ¬ (1 : Int32) = 0 by decide), show (11 : Int32) + nI 1 = 12 by decide, rm_of_12 _ hu5, pr_b1_s]
        exact ⟨_, rfl, by rw [a3]⟩
      · have q1 : F_X4_byHand (1 + 1 + 3 + 9 * u + 2) (nI 2) a = some (a (1 + 1 + 3 + 9 * u + 2) 4) := by
          unfold F_X4_byHand
          rw [if_neg (show ¬ nI 2 = 0 by decide), if_neg (show ¬ nI 2 = 1 by decide)]
        rw [q1, if_neg (show ¬ nI 2 = 0 by decide), if_neg (show ¬ nI 2 = 1 by decide), if_pos (show nI 2 = 2 by decide), pr_b1_s, if_neg (show ¬ nI 2 < 0 by decide), if_neg (show ¬ (9 : Int32) < nI 2 by decide), if_neg (show ¬ (1 : Int32) = 0 by decide), show (11 : Int32) + nI 2 = 13 by decide, rm_of_13 _ hu5, pr_b1_s]
        exact ⟨_, rfl, by rw [a4]⟩
      · rw [if_neg (show ¬ nI 3 = 0 by decide), if_neg (show ¬ nI 3 = 1 by decide), if_neg (show ¬ nI 3 = 2 by decide), if_pos (show nI 3 = 3 by decide), if_neg (show ¬ nI 3 < 0 by decide), if_neg (show ¬ (9 : Int32) < nI 3 by decide), if_neg (show ¬ (1 : Int32) = 0 by decide), show (11 : Int32) + nI 3 = 14 by decide, rm_of_14 _ hu5, pr_b1_s]
        exact ⟨_, rfl, by rw [a8]⟩
      · rw [if_neg (show ¬ nI 4 = 0 by decide), if_neg (show ¬ nI 4 = 1 by decide), if_neg (show ¬ nI 4 = 2 by decide), if_neg (show ¬ nI 4 = 3 by decide), if_pos (show nI 4 = 4 by decide), if_neg (show ¬ nI 4 < 0 by decide), if_neg (show ¬ (9 : Int32) < nI 4 by decide), if_neg (show ¬ (1 : Int32) = 0 by decide), show (11 : Int32) + nI 4 = 15 by decide, rm_of_15 _ hu5, pr_b1_s]
        exact ⟨_, rfl, by rw [a9]⟩
      · rw [if_neg (show ¬ nI 5 = 0 by decide), if_neg (show ¬ nI 5 = 1 by decide), if_neg (show ¬ nI 5 = 2 by decide), if_neg (show ¬ nI 5 = 3 by decide), if_neg (show ¬ nI 5 = 4 by decide), if_pos (show nI 5 = 5 by decide), if_neg (show ¬ nI 5 < 0 by decide), if_neg (show ¬ (9 : Int32) < nI 5 by decide), if_neg (show ¬ (1 : Int32) = 0 by decide), show (11 : Int32) + nI 5 = 16 by decide, rm_of_16 _ hu5, pr_b1_s]
        exact ⟨_, rfl, by rw [a10]⟩
      · rw [if_neg (show ¬ nI 6 = 0 by decide), if_neg (show ¬ nI 6 = 1 by decide), if_neg (show ¬ nI 6 = 2 by decide), if_neg (show ¬ nI 6 = 3 by decide), if_neg (show ¬ nI 6 = 4 by decide), if_neg (show ¬ nI 6 = 5 by decide), if_pos (show nI 6 = 6 by decide), if_neg (show ¬ nI 6 < 0 by decide), if_neg (show ¬ (9 : Int32) < nI 6 by decide), if_neg (show ¬ (1 : Int32) = 0 by decide), show (11 : Int32) + nI 6 = 17 by decide, rm_of_17 _ hu5, pr_b1_s]
        exact ⟨_, rfl, by rw [a11]⟩
      · rw [if_neg (show ¬ nI 7 = 0 by decide), if_neg (show ¬ nI 7 = 1 by decide), if_neg (show ¬ nI 7 = 2 by decide), if_neg (show ¬ nI 7 = 3 by decide), if_neg (show ¬ nI 7 = 4 by decide), if_neg (show ¬ nI 7 = 5 by decide), if_neg (show ¬ nI 7 = 6 by decide), if_pos (show nI 7 = 7 by decide), if_neg (show ¬ nI 7 < 0 by decide), if_neg (show ¬ (9 : Int32) < nI 7 by decide), if_neg (show ¬ (1 : Int32) = 0 by decide), show (11 : Int32) + nI 7 = 18 by decide, rm_of_18 _ hu5, pr_b1_s]
        exact ⟨_, rfl, by rw [a12]⟩
      · rw [if_neg (show ¬ nI 8 = 0 by decide), if_neg (show ¬ nI 8 = 1 by decide), if_neg (show ¬ nI 8 = 2 by decide), if_neg (show ¬ nI 8 = 3 by decide), if_neg (show ¬ nI 8 = 4 by decide), if_neg (show ¬ nI 8 = 5 by decide), if_neg (show ¬ nI 8 = 6 by decide), if_neg (show ¬ nI 8 = 7 by decide), if_pos (show nI 8 = 8 by decide), if_neg (show ¬ nI 8 < 0 by decide), if_neg (show ¬ (9 : Int32) < nI 8 by decide), if_neg (show ¬ (1 : Int32) = 0 by decide), show (11 : Int32) + nI 8 = 19 by decide, rm_of_19 _ hu5, pr_b1_s]
        exact ⟨_, rfl, by rw [a13]⟩
      · rw [if_neg (show ¬ nI 9 = 0 by decide), if_neg (show ¬ nI 9 = 1 by decide), if_neg (show ¬ nI 9 = 2 by decide), if_neg (show ¬ nI 9 = 3 by decide), if_neg (show ¬ nI 9 = 4 by decide), if_neg (show ¬ nI 9 = 5 by decide), if_neg (show ¬ nI 9 = 6 by decide), if_neg (show ¬ nI 9 = 7 by decide), if_neg (show ¬ nI 9 = 8 by decide), if_pos (show nI 9 = 9 by decide), if_neg (show ¬ nI 9 < 0 by decide), if_neg (show ¬ (9 : Int32) < nI 9 by decide), if_neg (show ¬ (1 : Int32) = 0 by decide), show (11 : Int32) + nI 9 = 20 by decide, rm_of_20 _ hu5, pr_b1_s]
        exact ⟨_, rfl, by rw [a14]⟩
      · rw [if_neg (show ¬ nI 10 = 0 by decide), if_neg (show ¬ nI 10 = 1 by decide), if_neg (show ¬ nI 10 = 2 by decide), if_neg (show ¬ nI 10 = 3 by decide), if_neg (show ¬ nI 10 = 4 by decide), if_neg (show ¬ nI 10 = 5 by decide), if_neg (show ¬ nI 10 = 6 by decide), if_neg (show ¬ nI 10 = 7 by decide), if_neg (show ¬ nI 10 = 8 by decide), if_neg (show ¬ nI 10 = 9 by decide), if_pos (show nI 10 = 10 by decide), if_neg (show ¬ nI 10 < 0 by decide), if_pos (show (9 : Int32) < nI 10 by decide), if_pos rfl, if_pos (show nI 10 = 10 by decide), rm_of_23 _ hu5, pr_b1_s]
        exact ⟨_, rfl, by rw [a7]⟩
      · rw [if_neg (show ¬ nI 11 = 0 by decide), if_neg (show ¬ nI 11 = 1 by decide), if_neg (show ¬ nI 11 = 2 by decide), if_neg (show ¬ nI 11 = 3 by decide), if_neg (show ¬ nI 11 = 4 by decide), if_neg (show ¬ nI 11 = 5 by decide), if_neg (show ¬ nI 11 = 6 by decide), if_neg (show ¬ nI 11 = 7 by decide), if_neg (show ¬ nI 11 = 8 by decide), if_neg (show ¬ nI 11 = 9 by decide), if_neg (show ¬ nI 11 = 10 by decide), if_pos (show nI 11 = 11 by decide), if_neg (show ¬ nI 11 < 0 by decide), if_pos (show (9 : Int32) < nI 11 by decide), if_pos rfl, if_neg (show ¬ nI 11 = 10 by decide), if_pos (show nI 11 = 11 by decide), rm_of_24 _ hu5, pr_b1_s]
        exact ⟨_, rfl, by rw [a15]⟩
      · rw [if_neg (show ¬ nI 12 = 0 by decide), if_neg (show ¬ nI 12 = 1 by decide), if_neg (show ¬ nI 12 = 2 by decide), if_neg (show ¬ nI 12 = 3 by decide), if_neg (show ¬ nI 12 = 4 by decide), if_neg (show ¬ nI 12 = 5 by decide), if_neg (show ¬ nI 12 = 6 by decide), if_neg (show ¬ nI 12 = 7 by decide), if_neg (show ¬ nI 12 = 8 by decide), if_neg (show ¬ nI 12 = 9 by decide), if_neg (show ¬ nI 12 = 10 by decide), if_neg (show ¬ nI 12 = 11 by decide), if_pos (show nI 12 = 12 by decide), if_neg (show ¬ nI 12 < 0 by decide), if_pos (show (9 : Int32) < nI 12 by decide), if_pos rfl, if_neg (show ¬ nI 12 = 10 by decide), if_neg (show ¬ nI 12 = 11 by decide), if_pos (show nI 12 = 12 by decide), rm_of_26 _ hu5, pr_b1_s]
        exact ⟨_, rfl, by rw [a17]⟩
      · rw [if_neg (show ¬ nI 13 = 0 by decide), if_neg (show ¬ nI 13 = 1 by decide), if_neg (show ¬ nI 13 = 2 by decide), if_neg (show ¬ nI 13 = 3 by decide), if_neg (show ¬ nI 13 = 4 by decide), if_neg (show ¬ nI 13 = 5 by decide), if_neg (show ¬ nI 13 = 6 by decide), if_neg (show ¬ nI 13 = 7 by decide), if_neg (show ¬ nI 13 = 8 by decide), if_neg (show ¬ nI 13 = 9 by decide), if_neg (show ¬ nI 13 = 10 by decide), if_neg (show ¬ nI 13 = 11 by decide), if_neg (show ¬ nI 13 = 12 by decide), if_pos (show nI 13 = 13 by decide), if_neg (show ¬ nI 13 < 0 by decide), if_pos (show (9 : Int32) < nI 13 by decide), if_pos rfl, if_neg (show ¬ nI 13 = 10 by decide), if_neg (show ¬ nI 13 = 11 by decide), if_neg (show ¬ nI 13 = 12 by decide), if_pos (show nI 13 = 13 by decide), Nat.zero_add, hw.1, hw.2, pr_b1_s]
        exact ⟨_, rfl, rfl⟩
  · rw [e1, e2, pr_b1_s, pr_b1_s, if_pos rfl]
    exact ⟨_, rfl, rfl⟩
theorem s_seen {a b : pr_M} (h : rr a b) (x y : Int32) : owe1 (F_X8_seen 0 x y a) (F_X9_seen 0 x y b) := by
  obtain ⟨t, ht, n, hn⟩ := h.1
  unfold F_X8_seen F_X9_seen
  rcases ap_unit hn x with ⟨u, hu, hu5, rfl, e1, e2⟩ | ⟨e1, e2, -⟩
  · rw [e1, e2, pr_b1_s, pr_b1_s, if_neg (show ¬ (1 : Int32) = 0 by decide), rc_outside, rm_in]
    unfold pr_op pr_gd
    dsimp only
    rw [if_pos (lc_u hu5), pr_b1_s, pr_b1_s, Nat.zero_add, ri_cl_1765, (t_of hn).1, (t_of hn).2]
    by_cases c1 : y < 0
    · rw [if_pos c1, if_pos c1, if_neg (show ¬ (1 : Int32) = 0 by decide), if_pos rfl]; exact ⟨_, rfl, rfl⟩
    · rw [if_neg c1, if_neg c1]
      by_cases c2 : y ≤ 6
      · rw [if_pos c2, if_neg (Int32.not_lt.mpr c2), if_pos rfl, if_neg (show ¬ (1 : Int32) = 0 by decide)]
        by_cases c3 : t = 0
        · subst c3
          rw [if_pos (show nI 0 = 0 by decide), if_pos (show nI 0 = 0 by decide)]; exact ⟨_, rfl, rfl⟩
        · have ct : ¬ nI t = 0 := nI_ne0 (by omega) (by omega)
          obtain ⟨j, hj, rfl⟩ := nI_of2 (M := 6) (n := 6) (by decide) c1 c2
          have K := k_of hn hu
          have hm : (t - 1) % 128 < 128 := Nat.mod_lt _ (by decide)
          obtain ⟨o1, o2⟩ := K.2.2.2.2.2 (by omega)
          obtain ⟨r1, r2⟩ := K.2.2.2.2.1 ((t - 1) % 128) hm (by omega)
          have S := hn.2.2.2.2.2.2.2.2.2.2.2.2.1 (by omega) u hu
          have tm : nI t - 1 = nI (t - 1) := ri_neg1 (by omega)
          unfold ru_s ru_z at S
          dsimp only [ru_U, ru_V, uq, ri_no] at o1 o2 r1 r2 S
          rw [if_neg ct, if_neg ct, tm]
          rcases (show j = 0 ∨ j = 1 ∨ j = 2 ∨ j = 3 ∨ j = 4 ∨ j = 5 ∨ j = 6 by omega) with rfl | rfl | rfl | rfl | rfl | rfl | rfl
          · rw [if_pos (show nI 0 = 0 by decide), rc_offset (by omega), pr_b1_s, show (29 : Int32) + nI 0 = 29 by decide, rm_of_29 _ hu5, pr_b1_s]
            exact ⟨_, rfl, by rw [o1, ← r1]⟩
          · rw [if_neg (show ¬ nI 1 = 0 by decide), if_pos (show nI 1 = 1 by decide), rc_skew (by omega), pr_b1_s, show (29 : Int32) + nI 1 = 30 by decide, rm_of_30 _ hu5, pr_b1_s]
            exact ⟨_, rfl, by rw [o2, ← r2]⟩
          · have q1 : F_X5_sight (1 + 1 + 3 + 9 * u + 6) (nI 2) a = some (a (1 + 1 + 3 + 9 * u + 6) 5) := by
              unfold F_X5_sight
              rw [if_pos (show nI 2 = 2 by decide)]
            rw [if_neg (show ¬ nI 2 = 0 by decide), if_neg (show ¬ nI 2 = 1 by decide), q1, show (29 : Int32) + nI 2 = 31 by decide, rm_of_31 _ hu5, pr_b1_s]
            rw [if_neg (show ¬ (4 : Int32) < nI 2 by decide), pr_b1_s]
            rcases S with ⟨g4, g7, g31, g32, g33, g34, g35⟩ | ⟨g4, s31, s32, s33, s34⟩
            · rw [g4, if_pos rfl]; exact ⟨_, rfl, by rw [g31, pr_b1_s]⟩
            · rw [g4, if_neg (show ¬ (1 : Int32) = 0 by decide), pr_b1_s]; exact ⟨_, rfl, by rw [s31]⟩
          · have q1 : F_X5_sight (1 + 1 + 3 + 9 * u + 6) (nI 3) a = some (a (1 + 1 + 3 + 9 * u + 6) 6) := by
              unfold F_X5_sight
              rw [if_neg (show ¬ nI 3 = 2 by decide), if_pos (show nI 3 = 3 by decide)]
            rw [if_neg (show ¬ nI 3 = 0 by decide), if_neg (show ¬ nI 3 = 1 by decide), q1, show (29 : Int32) + nI 3 = 32 by decide, rm_of_32 _ hu5, pr_b1_s]
            rw [if_neg (show ¬ (4 : Int32) < nI 3 by decide), pr_b1_s]
            rcases S with ⟨g4, g7, g31, g32, g33, g34, g35⟩ | ⟨g4, s31, s32, s33, s34⟩
            · rw [g4, if_pos rfl]; exact ⟨_, rfl, by rw [g32, pr_b1_s]⟩
            · rw [g4, if_neg (show ¬ (1 : Int32) = 0 by decide), pr_b1_s]; exact ⟨_, rfl, by rw [s32]⟩
          · have q1 : F_X5_sight (1 + 1 + 3 + 9 * u + 6) (nI 4) a = some (a (1 + 1 + 3 + 9 * u + 6) 7) := by
              unfold F_X5_sight
              rw [if_neg (show ¬ nI 4 = 2 by decide), if_neg (show ¬ nI 4 = 3 by decide), if_pos (show nI 4 = 4 by decide)]
            rw [if_neg (show ¬ nI 4 = 0 by decide), if_neg (show ¬ nI 4 = 1 by decide), q1, show (29 : Int32) + nI 4 = 33 by decide, rm_of_33 _ hu5, pr_b1_s]
            rw [if_neg (show ¬ (4 : Int32) < nI 4 by decide), pr_b1_s]
            rcases S with ⟨g4, g7, g31, g32, g33, g34, g35⟩ | ⟨g4, s31, s32, s33, s34⟩
            · rw [g4, if_pos rfl]; exact ⟨_, rfl, by rw [g33, pr_b1_s]⟩
            · rw [g4, if_neg (show ¬ (1 : Int32) = 0 by decide), pr_b1_s]; exact ⟨_, rfl, by rw [s33]⟩
          · have q1 : F_X5_sight (1 + 1 + 3 + 9 * u + 6) (nI 5) a = some (a (1 + 1 + 3 + 9 * u + 6) 8) := by
              unfold F_X5_sight
              rw [if_neg (show ¬ nI 5 = 2 by decide), if_neg (show ¬ nI 5 = 3 by decide), if_neg (show ¬ nI 5 = 4 by decide), if_pos (show nI 5 = 5 by decide)]
            rw [if_neg (show ¬ nI 5 = 0 by decide), if_neg (show ¬ nI 5 = 1 by decide), q1, show (29 : Int32) + nI 5 = 34 by decide, rm_of_34 _ hu5, pr_b1_s]
            rw [if_pos (show (4 : Int32) < nI 5 by decide)]
            rcases S with ⟨g4, g7, g31, g32, g33, g34, g35⟩ | ⟨g4, s31, s32, s33, ⟨g7, g34, g35⟩ | ⟨g7, s34, s35⟩⟩
            · rw [g7, if_pos rfl, pr_b1_s, if_pos rfl]; exact ⟨_, rfl, by rw [g34, pr_b1_s]⟩
            · rw [g7, if_pos rfl, pr_b1_s, if_pos rfl]; exact ⟨_, rfl, by rw [g34, pr_b1_s]⟩
            · have g8 : ¬ a (1 + 1 + 3 + 9 * u + 6) 7 = 0 := by rcases g7 with e | e <;> rw [e] <;> decide
              rw [if_neg g8, pr_b1_s, if_neg (show ¬ (1 : Int32) = 0 by decide), pr_b1_s]; exact ⟨_, rfl, by rw [s34]⟩
          · have q1 : F_X5_sight (1 + 1 + 3 + 9 * u + 6) (nI 6) a = some (a (1 + 1 + 3 + 9 * u + 6) 9) := by
              unfold F_X5_sight
              rw [if_neg (show ¬ nI 6 = 2 by decide), if_neg (show ¬ nI 6 = 3 by decide), if_neg (show ¬ nI 6 = 4 by decide), if_neg (show ¬ nI 6 = 5 by decide)]
            rw [if_neg (show ¬ nI 6 = 0 by decide), if_neg (show ¬ nI 6 = 1 by decide), q1, show (29 : Int32) + nI 6 = 35 by decide, rm_of_35 _ hu5, pr_b1_s]
            rw [if_pos (show (4 : Int32) < nI 6 by decide)]
            rcases S with ⟨g4, g7, g31, g32, g33, g34, g35⟩ | ⟨g4, s31, s32, s33, ⟨g7, g34, g35⟩ | ⟨g7, s34, s35⟩⟩
            · rw [g7, if_pos rfl, pr_b1_s, if_pos rfl]; exact ⟨_, rfl, by rw [g35, pr_b1_s]⟩
            · rw [g7, if_pos rfl, pr_b1_s, if_pos rfl]; exact ⟨_, rfl, by rw [g35, pr_b1_s]⟩
            · have g8 : ¬ a (1 + 1 + 3 + 9 * u + 6) 7 = 0 := by rcases g7 with e | e <;> rw [e] <;> decide
              rw [if_neg g8, pr_b1_s, if_neg (show ¬ (1 : Int32) = 0 by decide), pr_b1_s]; exact ⟨_, rfl, by rw [s35]⟩
      · rw [if_neg c2, if_pos (Int32.not_le.mp c2), if_neg (show ¬ (1 : Int32) = 0 by decide), if_pos rfl]; exact ⟨_, rfl, rfl⟩
  · rw [e1, e2, pr_b1_s, pr_b1_s, if_pos rfl]
    exact ⟨_, rfl, rfl⟩
