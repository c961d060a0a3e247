/-! ===== forecast, attempt, best gain: the calls ===== -/
theorem rg_in {x : Int32} (l h : Nat) (hl : l < 2 ^ 31) (hh : h < 2 ^ 31) (a b : pr_M) : (∃ k, l ≤ k ∧ k ≤ h ∧ x = nI k ∧ F_X8_isOutside x (nI l) (nI h) a = some 0 ∧ F_X9_in x (nI l) (nI h) b = some 1) ∨ (F_X8_isOutside x (nI l) (nI h) a = some 1 ∧ F_X9_in x (nI l) (nI h) b = some 0) := by
  rw [rc_outside, rm_in]
  by_cases c1 : x < nI l
  · right; rw [if_pos c1, if_pos c1]; exact ⟨rfl, rfl⟩
  · rw [if_neg c1, if_neg c1]
    by_cases c2 : x ≤ nI h
    · left
      have c0 : ¬ x < 0 := fun c => c1 (by
        rcases Nat.eq_zero_or_pos l with e | e
        · subst e; exact c
        · exact Int32.lt_trans c (nI_lt (a := 0) e hl))
      obtain ⟨k, hk, rfl⟩ := nI_of2 (M := nI h) (n := h) (nI_toInt hh) c0 c2
      rw [if_pos c2, if_neg (Int32.not_lt.mpr c2)]
      refine ⟨k, ?_, hk, rfl, rfl, rfl⟩
      rcases Nat.lt_or_ge k l with e | e
      · exact absurd (nI_lt e hl) c1
      · exact e
    · right; rw [if_neg c2, if_pos (Int32.not_le.mp c2)]; exact ⟨rfl, rfl⟩
theorem s_forecast {a b : pr_M} (h : rr a b) (x y z : Int32) : owe (F_X8_forecast 0 x y z a) (F_X9_forecast 0 x y z b) := by
  obtain ⟨t, ht, n, hn⟩ := h.1
  unfold F_X8_forecast F_X9_forecast F_X9_comesBack
  rcases ap_ctl hn x with ⟨u, hu1, hu, hu5, rfl, e1, e2⟩ | ⟨e1, e2⟩
  · rw [e1, e2, pr_b1_s, pr_b1_s, if_neg (show ¬ (1 : Int32) = 0 by decide)]
    unfold pr_op
    dsimp only
    rw [show pr_gd (pr_LC[1 + 1 + 3 + 9 * u]? = some (7, 0)) = fun (X : Option (Int32 × pr_M)) => X from by funext X; exact if_pos (lc_u hu5)]
    dsimp only
    rcases rg_in (x := y) 0 1000 (by decide) (by decide) a b with ⟨ky, -, -, hy, d1, d2⟩ | ⟨d1, d2⟩
    · rw [show F_X8_isOutside y 0 1000 a = some 0 from d1, show F_X9_in y 0 1000 b = some 1 from d2, pr_b1_s, pr_b1_s, if_pos rfl, if_neg (show ¬ (1 : Int32) = 0 by decide)]
      rcases rg_in (x := z) 5 300 (by decide) (by decide) a b with ⟨kz, -, hz, rfl, g1, g2⟩ | ⟨g1, g2⟩
      · rw [show F_X8_isOutside (nI kz) 5 300 a = some 0 from g1, show F_X9_in (nI kz) 5 300 b = some 1 from g2, pr_b1_s, pr_b1_s, if_pos rfl, if_neg (show ¬ (1 : Int32) = 0 by decide)]
        obtain ⟨a1, c1, c2, c3⟩ := op_copy (p := 50) (q := 1) (by omega) hn
        obtain ⟨b1, p1, p2, p3⟩ := ps_all b
        have hn1 : rpn a1 b1 50 n t := rpn_same c2 (fun _ _ _ _ => rfl) (fun k _ => p3 _ _ (by decide))
        obtain ⟨r, a', b2, f1, f2, f3, f4⟩ := fc_l (y := y) hu1 hu hu5 hz kz 1 pr_fuel pr_fuel t 0 a1 b1 (by omega) (by show kz < 4000; omega) (by show kz < 4000; omega) (by omega) hn1
        obtain ⟨b3, q1, q2, q3⟩ := pb_all b2
        rw [Nat.zero_add, Nat.zero_add, c1, p1, pr_bd_s, pr_bd_s, show L_X8_forecast_63 0 (nI u) y (nI kz) pr_fuel 0 1 a1 = some (r, a') from f1, show L_X9_comesBack_6 0 (nI u) y (nI kz) pr_fuel 0 1 b1 = some (r, b2) from f2, pr_bd_s, q1, pr_bd_s]
        refine ⟨_, _, _, rfl, rfl, rr_try h (fun c s hc => ?_) (fun k hk => ?_) (fun c k g1 g2 => ?_)⟩
        · rw [f3 c s hc, c3 c s (by omega)]
        · rw [q2 k hk, f4 _ _ (by decide), p2 k hk]
        · rw [q3 _ _ g1, f4 _ _ g1, p3 _ _ g2]
      · rw [show F_X8_isOutside z 5 300 a = some 1 from g1, show F_X9_in z 5 300 b = some 0 from g2, pr_b1_s, pr_b1_s, if_neg (show ¬ (1 : Int32) = 0 by decide), if_pos rfl]
        exact owe_same h _ rfl rfl
    · rw [show F_X8_isOutside y 0 1000 a = some 1 from d1, show F_X9_in y 0 1000 b = some 0 from d2, pr_b1_s, pr_b1_s, if_neg (show ¬ (1 : Int32) = 0 by decide), if_pos rfl]
      exact owe_same h _ rfl rfl
  · rw [e1, e2, pr_b1_s, pr_b1_s, if_pos rfl]
    exact owe_same h _ rfl rfl
theorem rc_isPlace (x : Int32) (a : pr_M) : F_X8_isPlace x a = some (if x = 0 then 1 else if x = 1 then 1 else 0) := by
  unfold F_X8_isPlace
  by_cases c : x = 0
  · rw [if_pos c, if_pos c]
  · rw [if_neg c, if_neg c]
    by_cases c : x = 1
    · rw [if_pos c, if_pos c]
    · rw [if_neg c, if_neg c]
theorem s_attempt {a b : pr_M} (h : rr a b) (x y z w : Int32) : owe (F_X8_attempt 0 x y z w a) (F_X9_attempt 0 x y z w b) := by
  obtain ⟨t, ht, n, hn⟩ := h.1
  unfold F_X8_attempt F_X9_attempt
  rcases ap_ctl hn x with ⟨u, hu1, hu, hu5, rfl, e1, e2⟩ | ⟨e1, e2⟩
  · rw [e1, e2, pr_b1_s, pr_b1_s, if_neg (show ¬ (1 : Int32) = 0 by decide)]
    unfold pr_op
    dsimp only
    rw [show pr_gd (pr_LC[1 + 1 + 3 + 9 * u]? = some (7, 0)) = fun (X : Option (Int32 × pr_M)) => X from by funext X; exact if_pos (lc_u hu5)]
    dsimp only
    rw [rc_isPlace, pr_b1_s]
    rcases ap_takes y z a b with ⟨j, hj, rfl, hok, d1, d2⟩ | ⟨d1, d2⟩
    · rw [d1, d2, pr_b1_s, pr_b1_s, if_neg (show ¬ (1 : Int32) = 0 by decide), if_neg (show ¬ (1 : Int32) = 0 by decide)]
      by_cases hj2 : 2 ≤ j
      · rw [if_neg (show ¬ nI j = 0 from nI_ne0 (by omega) (by omega)), if_neg (show ¬ nI j = 1 from fun e => by have := (nI_eq (b := 1) (show j < 2 ^ 31 by omega) (by decide)).mp e; omega), if_pos rfl, if_neg (show ¬ nI j ≤ 1 from nI_ge (a := 1) (by omega) (by omega))]
        rcases rg_in (x := w) 1 300 (by decide) (by decide) a b with ⟨kw, -, hw, rfl, g1, g2⟩ | ⟨g1, g2⟩
        · rw [show F_X8_isOutside (nI kw) 1 300 a = some 0 from g1, show F_X9_in (nI kw) 1 300 b = some 1 from g2, pr_b1_s, pr_b1_s, if_pos rfl, if_neg (show ¬ (1 : Int32) = 0 by decide)]
          obtain ⟨r, a', b', f1, f2, f3, f4, f5⟩ := op_tried hn ht hu1 hu hj2 hj hok hw
          rw [Nat.zero_add, Nat.zero_add, f1, f2, pr_bd_s, pr_bd_s]
          exact ⟨_, _, _, rfl, rfl, rr_try h f3 f4 f5⟩
        · rw [show F_X8_isOutside w 1 300 a = some 1 from g1, show F_X9_in w 1 300 b = some 0 from g2, pr_b1_s, pr_b1_s, if_neg (show ¬ (1 : Int32) = 0 by decide), if_pos rfl]
          exact owe_same h _ rfl rfl
      · have hp : (if nI j = 0 then (1 : Int32) else if nI j = 1 then 1 else 0) = 1 := by
          rcases (show j = 0 ∨ j = 1 by omega) with rfl | rfl <;> decide
        rw [hp, if_neg (show ¬ (1 : Int32) = 0 by decide), if_pos (show nI j ≤ 1 from nI_le (b := 1) (by omega) (by decide))]
        exact owe_same h _ rfl rfl
    · rw [d1, d2, pr_b1_s, pr_b1_s, if_pos rfl, if_pos rfl]
      refine owe_same h (-1000000002) ?_ ?_
      · by_cases c : (if y = 0 then (1 : Int32) else if y = 1 then 1 else 0) = 0
        · rw [if_pos c]
        · rw [if_neg c]
      · by_cases c : y ≤ 1
        · rw [if_pos c]
        · rw [if_neg c]
  · rw [e1, e2, pr_b1_s, pr_b1_s, if_pos rfl]
    exact owe_same h _ rfl rfl
theorem bg_l {g s q d u n t : Nat} (hg : g + s * (q - 1) ≤ 256) (hd : d ≤ 300) (ht : t ≤ 100000) (hu1 : 1 ≤ u) (hu : u < n) : ∀ (m i N N' : Nat) (best le : Int32) (a b : pr_M), i + m = q → 1 ≤ i → m < N → m < N' → q ≤ 8 → rpn a b 1 n t →
    ∃ r a' b', L_X8_bestGain_116 0 (nI u) (nI g) (nI s) (nI q) (nI d) N best le (nI i) a = some (r, a') ∧ L_X9_bestGain_90 0 (nI u) (nI g) (nI s) (nI q) (nI d) N' best le (nI i) b = some (r, b') ∧ (∀ c s, (c < 50 ∨ 99 ≤ c) → a' c s = a c s) ∧ (∀ k, k < 1906 → b' 1 k = b 1 k) ∧ (∀ c k, c ≠ 1 → c ≠ 2 → b' c k = b c k)
  | 0, i, N, N', best, le, a, b, hi, hi1, h1, h2, hq, hn => by
    obtain ⟨N, rfl⟩ : ∃ j, N = j + 1 := ⟨N - 1, by omega⟩
    obtain ⟨N', rfl⟩ : ∃ j, N' = j + 1 := ⟨N' - 1, by omega⟩
    rw [L_X8_bestGain_116, L_X9_bestGain_90, if_pos (nI_le (by omega) (by omega)), if_pos (nI_le (by omega) (by omega))]
    exact ⟨_, _, _, rfl, rfl, fun _ _ _ => rfl, fun _ _ => rfl, fun _ _ _ _ => rfl⟩
  | m + 1, i, N, N', best, le, a, b, hi, hi1, h1, h2, hq, hn => by
    obtain ⟨N, rfl⟩ : ∃ j, N = j + 1 := ⟨N - 1, by omega⟩
    obtain ⟨N', rfl⟩ : ∃ j, N' = j + 1 := ⟨N' - 1, by omega⟩
    have hgi : g + s * i ≤ 256 := Nat.le_trans (Nat.add_le_add_left (Nat.mul_le_mul_left s (by omega)) g) hg
    have ev : nI g + nI s * nI i = nI (g + s * i) := by rw [pk_mul, nI_add]
    have hok : okS 4 (nI (g + s * i)) := ⟨show ¬ nI (g + s * i) < 0 from nI_pos (by omega), show nI (g + s * i) ≤ 256 from nI_le (b := 256) hgi (by decide)⟩
    obtain ⟨r, a1, b1, f1, f2, f3, f4, f5⟩ := op_tried (j := 4) hn ht hu1 hu (by decide) (by decide) hok hd
    have hn1 : rpn a1 b1 1 n t := rpn_same hn (fun c s _ g => f3 _ _ (by omega)) f4
    rw [L_X8_bestGain_116, L_X9_bestGain_90, if_neg (nI_ge (by omega) (by omega)), if_neg (nI_ge (by omega) (by omega)), ev, Nat.zero_add, Nat.zero_add, show F_X3_sumErrorsIn 50 1 (nI u) 4 (nI (g + s * i)) (nI d) a = some (r, a1) from f1, show F_X9_tried 0 (nI u) 4 (nI (g + s * i)) (nI d) b = some (r, b1) from f2, pr_bd_s, pr_bd_s, nI_1]
    have fin : ∀ best' le' : Int32, ∃ r a' b', L_X8_bestGain_116 0 (nI u) (nI g) (nI s) (nI q) (nI d) N best' le' (nI (i + 1)) a1 = some (r, a') ∧ L_X9_bestGain_90 0 (nI u) (nI g) (nI s) (nI q) (nI d) N' best' le' (nI (i + 1)) b1 = some (r, b') ∧ (∀ c s, (c < 50 ∨ 99 ≤ c) → a' c s = a c s) ∧ (∀ k, k < 1906 → b' 1 k = b 1 k) ∧ (∀ c k, c ≠ 1 → c ≠ 2 → b' c k = b c k) := fun best' le' => by
      obtain ⟨r', a', b', q1, q2, q3, q4, q5⟩ := bg_l hg hd ht hu1 hu m (i + 1) N N' best' le' a1 b1 (by omega) (by omega) (by omega) (by omega) hq hn1
      exact ⟨r', a', b', q1, q2, fun c s hc => by rw [q3 c s hc, f3 c s hc], fun k hk => by rw [q4 k hk, f4 k hk], fun c k c1 c2 => by rw [q5 c k c1 c2, f5 c k c1 c2]⟩
    by_cases c : le ≤ r
    · rw [if_pos c, if_pos c, if_pos c, pr_b1_s, pr_b1_s]
      exact fin best le
    · rw [if_neg c, if_neg c, if_neg c, pr_b1_s, pr_b1_s]
      exact fin _ _
theorem s_bestGain {a b : pr_M} (h : rr a b) (x y z w v : Int32) : owe (F_X8_bestGain 0 x y z w v a) (F_X9_bestGain 0 x y z w v b) := by
  obtain ⟨t, ht, n, hn⟩ := h.1
  unfold F_X8_bestGain F_X9_bestGain
  rcases ap_ctl hn x with ⟨u, hu1, hu, hu5, rfl, e1, e2⟩ | ⟨e1, e2⟩
  · rw [e1, e2, pr_b1_s, pr_b1_s, if_neg (show ¬ (1 : Int32) = 0 by decide)]
    unfold pr_op
    dsimp only
    rw [show pr_gd (pr_LC[1 + 1 + 3 + 9 * u]? = some (7, 0)) = fun (X : Option (Int32 × pr_M)) => X from by funext X; exact if_pos (lc_u hu5)]
    dsimp only
    rcases rg_in (x := y) 0 256 (by decide) (by decide) a b with ⟨g, -, hg, rfl, d1, d2⟩ | ⟨d1, d2⟩
    · rw [show F_X8_isOutside (nI g) 0 256 a = some 0 from d1, show F_X9_in (nI g) 0 256 b = some 1 from d2, pr_b1_s, pr_b1_s, if_pos rfl, if_neg (show ¬ (1 : Int32) = 0 by decide)]
      rcases rg_in (x := z) 1 128 (by decide) (by decide) a b with ⟨s, -, hs, rfl, d3, d4⟩ | ⟨d3, d4⟩
      · rw [show F_X8_isOutside (nI s) 1 128 a = some 0 from d3, show F_X9_in (nI s) 1 128 b = some 1 from d4, pr_b1_s, pr_b1_s, if_pos rfl, if_neg (show ¬ (1 : Int32) = 0 by decide)]
        rcases rg_in (x := w) 1 8 (by decide) (by decide) a b with ⟨q, hq1, hq, rfl, d5, d6⟩ | ⟨d5, d6⟩
        · rw [show F_X8_isOutside (nI q) 1 8 a = some 0 from d5, show F_X9_in (nI q) 1 8 b = some 1 from d6, pr_b1_s, pr_b1_s, if_pos rfl, if_neg (show ¬ (1 : Int32) = 0 by decide), ri_neg1 hq1, pk_mul, nI_add]
          have hsq : s * (q - 1) ≤ 128 * 7 := Nat.mul_le_mul hs (by omega)
          by_cases hgs : g + s * (q - 1) ≤ 256
          · rw [if_pos (show nI (g + s * (q - 1)) ≤ 256 from nI_le (b := 256) hgs (by decide)), if_neg (show ¬ (256 : Int32) < nI (g + s * (q - 1)) from nI_nlt (a := 256) hgs (by decide))]
            rcases rg_in (x := v) 1 300 (by decide) (by decide) a b with ⟨d, -, hd, rfl, d7, d8⟩ | ⟨d7, d8⟩
            · rw [show F_X8_isOutside (nI d) 1 300 a = some 0 from d7, show F_X9_in (nI d) 1 300 b = some 1 from d8, pr_b1_s, pr_b1_s, if_pos rfl, if_neg (show ¬ (1 : Int32) = 0 by decide)]
              have hok : okS 4 (nI g) := ⟨show ¬ nI g < 0 from nI_pos (by omega), show nI g ≤ 256 from nI_le (b := 256) hg (by decide)⟩
              obtain ⟨r, a1, b1, f1, f2, f3, f4, f5⟩ := op_tried (j := 4) hn ht hu1 hu (by decide) (by decide) hok hd
              have hn1 : rpn a1 b1 1 n t := rpn_same hn (fun c s _ g => f3 _ _ (by omega)) f4
              obtain ⟨r', a', b', q1, q2, q3, q4, q5⟩ := bg_l hgs hd ht hu1 hu (q - 1) 1 pr_fuel pr_fuel (nI g) r a1 b1 (by omega) (by omega) (by show q - 1 < 4000; omega) (by show q - 1 < 4000; omega) hq hn1
              rw [Nat.zero_add, Nat.zero_add, show F_X3_sumErrorsIn 50 1 (nI u) 4 (nI g) (nI d) a = some (r, a1) from f1, show F_X9_tried 0 (nI u) 4 (nI g) (nI d) b = some (r, b1) from f2, pr_bd_s, pr_bd_s, show L_X8_bestGain_116 0 (nI u) (nI g) (nI s) (nI q) (nI d) pr_fuel (nI g) r 1 a1 = some (r', a') from q1, show L_X9_bestGain_90 0 (nI u) (nI g) (nI s) (nI q) (nI d) pr_fuel (nI g) r 1 b1 = some (r', b') from q2, pr_bd_s, pr_bd_s]
              exact ⟨_, _, _, rfl, rfl, rr_try h (fun c s hc => by rw [q3 c s hc, f3 c s hc]) (fun k hk => by rw [q4 k hk, f4 k hk]) (fun c k c1 c2 => by rw [q5 c k c1 c2, f5 c k c1 c2])⟩
            · rw [show F_X8_isOutside v 1 300 a = some 1 from d7, show F_X9_in v 1 300 b = some 0 from d8, pr_b1_s, pr_b1_s, if_neg (show ¬ (1 : Int32) = 0 by decide), if_pos rfl]
              exact owe_same h _ rfl rfl
          · rw [if_neg (show ¬ nI (g + s * (q - 1)) ≤ 256 from nI_ge (a := 256) (by omega) (by omega)), if_pos (show (256 : Int32) < nI (g + s * (q - 1)) from nI_lt (a := 256) (by omega) (by omega))]
            exact owe_same h _ rfl rfl
        · rw [show F_X8_isOutside w 1 8 a = some 1 from d5, show F_X9_in w 1 8 b = some 0 from d6, pr_b1_s, pr_b1_s, if_neg (show ¬ (1 : Int32) = 0 by decide), if_pos rfl]
          exact owe_same h _ rfl rfl
      · rw [show F_X8_isOutside z 1 128 a = some 1 from d3, show F_X9_in z 1 128 b = some 0 from d4, pr_b1_s, pr_b1_s, if_neg (show ¬ (1 : Int32) = 0 by decide), if_pos rfl]
        exact owe_same h _ rfl rfl
    · rw [show F_X8_isOutside y 0 256 a = some 1 from d1, show F_X9_in y 0 256 b = some 0 from d2, pr_b1_s, pr_b1_s, if_neg (show ¬ (1 : Int32) = 0 by decide), if_pos rfl]
      exact owe_same h _ rfl rfl
  · rw [e1, e2, pr_b1_s, pr_b1_s, if_pos rfl]
    exact owe_same h _ rfl rfl
