/-! ===== runs and a new set-up ===== -/
theorem op_run_l {k : Nat} (hk : k ≤ 300) : ∀ (m i N N' t : Nat) (a b : pr_M), i + m = k → m < N → m < N' → t + m ≤ 200000 → rp a b 1 t →
    ∃ a' b', L_X8_run_33 0 (nI k) N (nI i) a = some ((), a') ∧ L_X9_makeRepeats_2 0 (nI k) N' (nI i) b = some ((), b') ∧ rp a' b' 1 (t + m) ∧ (∀ c s, 50 ≤ c → a' c s = a c s) ∧ (∀ c k, c ≠ 1 → b' c k = b c k)
  | 0, i, N, N', t, a, b, hi, h1, h2, ht, h => by
    obtain ⟨N, rfl⟩ : ∃ j, N = j + 1 := ⟨N - 1, by omega⟩
    obtain ⟨N', rfl⟩ : ∃ j, N' = j + 1 := ⟨N' - 1, by omega⟩
    have hik : i = k := by omega
    subst hik
    rw [L_X8_run_33, L_X9_makeRepeats_2, if_pos (nI_le (Nat.le_refl _) (by omega)), if_pos (nI_le (Nat.le_refl _) (by omega))]
    exact ⟨_, _, rfl, rfl, h, fun _ _ _ => rfl, fun _ _ _ => rfl⟩
  | m + 1, i, N, N', t, a, b, hi, h1, h2, ht, h => by
    obtain ⟨N, rfl⟩ : ∃ j, N = j + 1 := ⟨N - 1, by omega⟩
    obtain ⟨N', rfl⟩ : ∃ j, N' = j + 1 := ⟨N' - 1, by omega⟩
    obtain ⟨a1, b1, e1, e2, r1, A1, B1, -⟩ := op_repeat (p := 1) (by omega) h
    obtain ⟨a2, b2, e3, e4, r2, A2, B2⟩ := op_run_l hk m (i + 1) N N' (t + 1) a1 b1 (by omega) (by omega) (by omega) (by omega) r1
    rw [L_X8_run_33, L_X9_makeRepeats_2, if_neg (nI_ge (by omega) (by omega)), if_neg (nI_ge (by omega) (by omega)), Nat.zero_add, e1, e2, pr_bd_s, pr_bd_s, nI_1]
    refine ⟨a2, b2, e3, e4, ?_, fun c s hc => ?_, fun c k hc => ?_⟩
    · rw [show t + (m + 1) = t + 1 + m by omega]; exact r2
    · rw [A2 c s hc, A1 c s (by omega)]
    · rw [B2 c k hc, B1 c k hc]
theorem rp_t {a b : pr_M} {p t : Nat} (h : rp a b p t) : a p 4 = nI t ∧ b 1 1765 = nI t := by
  obtain ⟨n, hn⟩ := h
  exact ⟨hn.2.2.2.2.1, hn.2.2.2.2.2.1⟩
theorem s_run {a b : pr_M} (h : rr a b) (x : Int32) : owe (F_X8_run 0 x a) (F_X9_run 0 x b) := by
  obtain ⟨t, ht, hp⟩ := h.1
  have tt := rp_t hp
  unfold F_X8_run F_X9_run F_X9_makeRepeats
  rw [rc_outside, rm_in, pr_b1_s, pr_b1_s]
  by_cases c1 : x < 1
  · rw [if_pos c1, if_pos c1, if_neg (show ¬ (1 : Int32) = 0 by decide), if_pos rfl]
    exact owe_same h _ rfl rfl
  · rw [if_neg c1, if_neg c1]
    by_cases c2 : x ≤ 300
    · obtain ⟨k, hk, rfl⟩ := nI_of2 (M := 300) (n := 300) (by decide) (fun c => c1 (Int32.lt_trans c (by decide))) c2
      rw [if_pos c2, if_neg (Int32.not_lt.mpr c2), if_pos rfl, if_neg (show ¬ (1 : Int32) = 0 by decide), Nat.zero_add, tt.1, ri_cl_1765, tt.2, nI_add]
      by_cases c3 : t + k ≤ 100000
      · rw [if_pos (show nI (t + k) ≤ 100000 from nI_le c3 (by decide)), if_pos (show nI (t + k) ≤ 100000 from nI_le c3 (by decide))]
        obtain ⟨a', b', e1, e2, r, A, B⟩ := op_run_l hk k 0 pr_fuel pr_fuel t a b (by omega) (by show k < 4000; omega) (by show k < 4000; omega) (by omega) hp
        have t2 := rp_t r
        rw [show L_X8_run_33 0 (nI k) pr_fuel 0 a = some ((), a') from e1, show L_X9_makeRepeats_2 0 (nI k) pr_fuel 0 b = some ((), b') from e2, pr_bd_s, pr_bd_s, pr_bd_s, t2.1, t2.2]
        exact ⟨_, _, _, rfl, rfl, rr_press h c3 r A B⟩
      · rw [if_neg (fun c => absurd c (show ¬ nI (t + k) ≤ 100000 from nI_ge (a := 100000) (by omega) (by omega))), if_neg (fun c => absurd c (show ¬ nI (t + k) ≤ 100000 from nI_ge (a := 100000) (by omega) (by omega)))]
        exact owe_same h _ rfl rfl
    · rw [if_neg c2, if_pos (Int32.not_le.mp c2), if_neg (show ¬ (1 : Int32) = 0 by decide), if_pos rfl]
      exact owe_same h _ rfl rfl
/-! the class's new set-up -/
theorem bg_tot {p : Nat} : ∀ (m i N : Nat) (a : pr_M), i + m = 6 → m < N → (∀ j, j < i → a (p + 3) j = 0) → ∃ a', L_X3_begin_37 p N (nI i) a = some ((), a') ∧ (∀ j, j < 6 → a' (p + 3) j = 0) ∧ (∀ c s, c ≠ p + 3 → a' c s = a c s)
  | 0, i, N, a, hi, h1, h => by
    obtain ⟨N, rfl⟩ : ∃ j, N = j + 1 := ⟨N - 1, by omega⟩
    have hik : i = 6 := by omega
    subst hik
    rw [L_X3_begin_37, if_pos (show (6 : Int32) ≤ nI 6 by decide)]
    exact ⟨_, rfl, h, fun _ _ _ => rfl⟩
  | m + 1, i, N, a, hi, h1, h => by
    obtain ⟨N, rfl⟩ : ∃ j, N = j + 1 := ⟨N - 1, by omega⟩
    obtain ⟨a', e, e1, e2⟩ := bg_tot (p := p) m (i + 1) N (pr_up a (p + 3) i 0) (by omega) (by omega) (fun j hj => by
      by_cases c : j = i
      · exact rd_e ⟨rfl, c⟩
      · rw [rd_n (by omega)]; exact h j (by omega))
    rw [L_X3_begin_37, if_neg (show ¬ (6 : Int32) ≤ nI i from nI_ge (b := 6) (by omega) (by decide)), pr_gd_i (by omega) (by decide), ri_cl (by omega), pr_lt_s, nI_1, e]
    exact ⟨_, rfl, e1, fun c s hc => by rw [e2 c s hc, rd_n (by omega)]⟩
theorem bg_set {q : Nat} : ∀ (m i N : Nat) (a : pr_M), i + m = 11 → m < N → (∀ j, j < i → a (q + 1) j = pr_x2.getD j 0) → ∃ a', L_X7_begin_2 q N (nI i) a = some ((), a') ∧ (∀ j, j < 11 → a' (q + 1) j = pr_x2.getD j 0) ∧ (∀ c s, c ≠ q + 1 → a' c s = a c s)
  | 0, i, N, a, hi, h1, h => by
    obtain ⟨N, rfl⟩ : ∃ j, N = j + 1 := ⟨N - 1, by omega⟩
    have hik : i = 11 := by omega
    subst hik
    rw [L_X7_begin_2, if_pos (show (11 : Int32) ≤ nI 11 by decide)]
    exact ⟨_, rfl, h, fun _ _ _ => rfl⟩
  | m + 1, i, N, a, hi, h1, h => by
    obtain ⟨N, rfl⟩ : ∃ j, N = j + 1 := ⟨N - 1, by omega⟩
    obtain ⟨a', e, e1, e2⟩ := bg_set (q := q) m (i + 1) N (pr_up a (q + 1) i (pr_x2.getD i 0)) (by omega) (by omega) (fun j hj => by
      by_cases c : j = i
      · subst c; exact rd_e ⟨rfl, rfl⟩
      · rw [rd_n (by omega)]; exact h j (by omega))
    rw [L_X7_begin_2, if_neg (show ¬ (11 : Int32) ≤ nI i from nI_ge (b := 11) (by omega) (by decide)), pr_gd_i (by omega) (by decide), ri_cl (by omega), pr_lt_s, nI_1, e]
    exact ⟨_, rfl, e1, fun c s hc => by rw [e2 c s hc, rd_n (by omega)]⟩
/-- a unit of a new set-up -/
def bg_u (a : pr_M) (q : Nat) : Prop := (∀ j, j < 11 → a (q + 1) j = pr_x2.getD j 0) ∧ (∀ j, 2 ≤ j → j ≤ 7 → a (q + 2) j = 0) ∧ (∀ j, j ≤ 8 → a (q + 5) j = 0) ∧ (∀ j, 1 ≤ j → j ≤ 9 → a (q + 6) j = 0) ∧ a (q + 7) 1 = 0
theorem bg_unit (q : Nat) (a : pr_M) : ∃ a', F_X7_begin q a = some ((), a') ∧ bg_u a' q ∧ fr_C a a' q := by
  obtain ⟨a1, e, e1, e2⟩ := bg_set (q := q) 11 0 pr_fuel a rfl (by decide) (fun j hj => absurd hj (Nat.not_lt_zero j))
  unfold F_X7_begin F_X4_begin F_X0_clear F_X5_begin F_X1_begin F_X5_seeNothing
  rw [show L_X7_begin_2 q pr_fuel 0 a = some ((), a1) from e]
  simp only [pr_bd_s, pr_lt_s]
  refine ⟨_, rfl, ⟨fun j hj => ?_, fun j h1 h2 => ?_, fun j h1 => ?_, fun j h1 h2 => ?_, ?_⟩, fun c s hc => ?_⟩
  · simp (disch := omega) only [rd_n]; exact e1 j hj
  · rcases (show j = 2 ∨ j = 3 ∨ j = 4 ∨ j = 5 ∨ j = 6 ∨ j = 7 by omega) with rfl | rfl | rfl | rfl | rfl | rfl <;> simp (disch := omega) only [rd_n, rd_e]
  · rcases (show j = 0 ∨ j = 1 ∨ j = 2 ∨ j = 3 ∨ j = 4 ∨ j = 5 ∨ j = 6 ∨ j = 7 ∨ j = 8 by omega) with rfl | rfl | rfl | rfl | rfl | rfl | rfl | rfl | rfl <;> simp (disch := omega) only [rd_n, rd_e]
  · rcases (show j = 1 ∨ j = 2 ∨ j = 3 ∨ j = 4 ∨ j = 5 ∨ j = 6 ∨ j = 7 ∨ j = 8 ∨ j = 9 by omega) with rfl | rfl | rfl | rfl | rfl | rfl | rfl | rfl | rfl <;> simp (disch := omega) only [rd_n, rd_e]
  · simp (disch := omega) only [rd_n, rd_e]
  · simp (disch := omega) only [rd_n]; exact e2 c s (by omega)
theorem bg_u_same {a a' : pr_M} {q : Nat} (h : bg_u a q) (hA : ∀ j s, j < 9 → a' (q + j) s = a (q + j) s) : bg_u a' q := by
  obtain ⟨h1, h2, h3, h4, h5⟩ := h
  exact ⟨fun j hj => by rw [hA 1 _ (by decide)]; exact h1 j hj, fun j g1 g2 => by rw [hA 2 _ (by decide)]; exact h2 j g1 g2, fun j hj => by rw [hA 5 _ (by decide)]; exact h3 j hj, fun j g1 g2 => by rw [hA 6 _ (by decide)]; exact h4 j g1 g2, by rw [hA 7 _ (by decide)]; exact h5⟩
theorem bg_units {p : Nat} : ∀ (m i N : Nat) (a : pr_M), i + m = 5 → m < N → (∀ u, u < i → bg_u a (uq p u)) → ∃ a', L_X3_begin_58 p N (nI i) a = some ((), a') ∧ (∀ u, u < 5 → bg_u a' (uq p u)) ∧ (∀ c s, (c < p + 4 ∨ p + 49 ≤ c) → a' c s = a c s)
  | 0, i, N, a, hi, h1, h => by
    obtain ⟨N, rfl⟩ : ∃ j, N = j + 1 := ⟨N - 1, by omega⟩
    have hik : i = 5 := by omega
    subst hik
    rw [L_X3_begin_58, if_pos (show (5 : Int32) ≤ nI 5 by decide)]
    exact ⟨_, rfl, h, fun _ _ _ => rfl⟩
  | m + 1, i, N, a, hi, h1, h => by
    obtain ⟨N, rfl⟩ : ∃ j, N = j + 1 := ⟨N - 1, by omega⟩
    obtain ⟨a1, f, f1, f2⟩ := bg_unit (p + 1 + 3 + 9 * i) a
    obtain ⟨a', e, e1, e2⟩ := bg_units (p := p) m (i + 1) N a1 (by omega) (by omega) (fun u hu => by
      by_cases c : u = i
      · subst c; exact f1
      · exact bg_u_same (h u (by omega)) fun j s hj => f2 _ _ (by dsimp only [uq]; omega))
    rw [L_X3_begin_58, if_neg (show ¬ (5 : Int32) ≤ nI i from nI_ge (b := 5) (by omega) (by decide)), pr_gd_i (by omega) (by decide), ri_cl (by omega), f, pr_bd_s, nI_1, e]
    exact ⟨_, rfl, e1, fun c s hc => by rw [e2 c s hc, f2 c s (by omega)]⟩
theorem bg_press (p : Nat) (x : Int32) (a : pr_M) : ∃ a', F_X3_begin p x a = some ((), a') ∧ a' p 3 = x ∧ (∀ j, 4 ≤ j → j ≤ 9 → a' p j = 0) ∧ (∀ j, j < 6 → a' (p + 3) j = 0) ∧ (∀ u, u < 5 → bg_u a' (uq p u)) ∧ (∀ c s, (c < p ∨ p + 49 ≤ c) → a' c s = a c s) := by
  unfold F_X3_begin
  simp only [pr_lt_s]
  generalize ha0 : pr_up (pr_up (pr_up (pr_up (pr_up (pr_up (pr_up a p 3 x) p 4 0) p 5 0) p 6 0) p 7 0) p 8 0) p 9 0 = a0
  obtain ⟨a1, e1, e2, e3⟩ := bg_tot (p := p) 6 0 pr_fuel a0 rfl (by decide) (fun j hj => absurd hj (Nat.not_lt_zero j))
  obtain ⟨a2, f1, f2, f3⟩ := bg_units (p := p) 5 0 pr_fuel a1 rfl (by decide) (fun j hj => absurd hj (Nat.not_lt_zero j))
  rw [show L_X3_begin_37 p pr_fuel 0 a0 = some ((), a1) from e1, pr_bd_s, show L_X3_begin_58 p pr_fuel 0 a1 = some ((), a2) from f1, pr_bd_s]
  refine ⟨_, rfl, ?_, fun j h1 h2 => ?_, fun j hj => ?_, f2, fun c s hc => ?_⟩
  · rw [f3 _ _ (by omega), e3 _ _ (by omega), ← ha0]; simp (disch := omega) only [rd_n, rd_e]
  · rw [f3 _ _ (by omega), e3 _ _ (by omega), ← ha0]
    rcases (show j = 4 ∨ j = 5 ∨ j = 6 ∨ j = 7 ∨ j = 8 ∨ j = 9 by omega) with rfl | rfl | rfl | rfl | rfl | rfl <;> simp (disch := omega) only [rd_n, rd_e]
  · rw [f3 _ _ (by omega)]; exact e2 j hj
  · rw [f3 _ _ (by omega), e3 _ _ (by omega), ← ha0]; simp (disch := omega) only [rd_n]
/-! the model's new set-up -/
theorem la_zero {x : Int32} : ∀ (m i N : Nat) (b : pr_M), i + m = 1906 → m < N → (∀ k, k < i → b 1 k = 0) → ∃ b', L_X9_layAll_2 0 x N (nI i) b = some ((), b') ∧ (∀ k, k < 1906 → b' 1 k = 0) ∧ (∀ c k, c ≠ 1 → b' c k = b c k)
  | 0, i, N, b, hi, h1, h => by
    obtain ⟨N, rfl⟩ : ∃ j, N = j + 1 := ⟨N - 1, by omega⟩
    have hik : i = 1906 := by omega
    subst hik
    rw [L_X9_layAll_2, if_pos (show (1906 : Int32) ≤ nI 1906 by decide)]
    exact ⟨_, rfl, h, fun _ _ _ => rfl⟩
  | m + 1, i, N, b, hi, h1, h => by
    obtain ⟨N, rfl⟩ : ∃ j, N = j + 1 := ⟨N - 1, by omega⟩
    obtain ⟨b', e, e1, e2⟩ := la_zero (x := x) m (i + 1) N (pr_up b 1 i 0) (by omega) (by omega) (fun j hj => by
      by_cases c : j = i
      · exact rd_e ⟨rfl, c⟩
      · rw [rd_n (by omega)]; exact h j (by omega))
    rw [L_X9_layAll_2, if_neg (show ¬ (1906 : Int32) ≤ nI i from nI_ge (b := 1906) (by omega) (by decide)), pr_gd_i (by omega) (by decide), ri_cl (by omega), pr_lt_s, nI_1, Nat.zero_add, e]
    exact ⟨_, rfl, e1, fun c k hc => by rw [e2 c k hc, rd_n (by omega)]⟩
theorem la_first {j : Nat} (hj : j < 11) (b : pr_M) : F_X9_firstValue (nI j) b = some (pr_x2.getD j 0) := by
  unfold F_X9_firstValue
  rcases (show j = 0 ∨ j = 1 ∨ j = 2 ∨ j = 3 ∨ j = 4 ∨ j = 5 ∨ j = 6 ∨ j = 7 ∨ j = 8 ∨ j = 9 ∨ j = 10 by omega) with rfl | rfl | rfl | rfl | rfl | rfl | rfl | rfl | rfl | rfl | rfl <;> decide +kernel
theorem la_set {u : Nat} (hu : u < 5) : ∀ (m j N : Nat) (b : pr_M), j + m = 11 → m < N → (∀ i, i < j → b 1 (353 * u + i) = pr_x2.getD i 0) → ∃ b', L_X9_layAll_40 0 (nI u) N (nI j) b = some ((), b') ∧ (∀ i, i < 11 → b' 1 (353 * u + i) = pr_x2.getD i 0) ∧ (∀ c k, (c ≠ 1 ∨ k < 353 * u ∨ 353 * u + 11 ≤ k) → b' c k = b c k)
  | 0, i, N, b, hi, h1, h => by
    obtain ⟨N, rfl⟩ : ∃ j, N = j + 1 := ⟨N - 1, by omega⟩
    have hik : i = 11 := by omega
    subst hik
    rw [L_X9_layAll_40, if_pos (show (11 : Int32) ≤ nI 11 by decide)]
    exact ⟨_, rfl, h, fun _ _ _ => rfl⟩
  | m + 1, i, N, b, hi, h1, h => by
    obtain ⟨N, rfl⟩ : ∃ j, N = j + 1 := ⟨N - 1, by omega⟩
    obtain ⟨b', e, e1, e2⟩ := la_set hu m (i + 1) N (pr_up b 1 (353 * u + i) (pr_x2.getD i 0)) (by omega) (by omega) (fun j hj => by
      by_cases c : j = i
      · subst c; exact rd_e ⟨rfl, rfl⟩
      · rw [rd_n (by omega)]; exact h j (by omega))
    rw [L_X9_layAll_40, if_neg (show ¬ (11 : Int32) ≤ nI i from nI_ge (b := 11) (by omega) (by decide)), la_first (by omega), pr_b1_s, rm_lay _ _ hu (by omega), pr_bd_s, nI_1, e]
    exact ⟨_, rfl, e1, fun c k hc => by rw [e2 c k hc, rd_n (by omega)]⟩
theorem la_sets : ∀ (m u N : Nat) (b : pr_M), u + m = 5 → m < N → (∀ v, v < u → ∀ i, i < 11 → b 1 (353 * v + i) = pr_x2.getD i 0) → ∃ b', L_X9_layAll_33 0 N (nI u) b = some ((), b') ∧ (∀ v, v < 5 → ∀ i, i < 11 → b' 1 (353 * v + i) = pr_x2.getD i 0) ∧ (∀ c k, (c ≠ 1 ∨ 1765 ≤ k ∨ 11 ≤ k % 353) → b' c k = b c k)
  | 0, i, N, b, hi, h1, h => by
    obtain ⟨N, rfl⟩ : ∃ j, N = j + 1 := ⟨N - 1, by omega⟩
    have hik : i = 5 := by omega
    subst hik
    rw [L_X9_layAll_33, if_pos (show (5 : Int32) ≤ nI 5 by decide)]
    exact ⟨_, rfl, h, fun _ _ _ => rfl⟩
  | m + 1, i, N, b, hi, h1, h => by
    obtain ⟨N, rfl⟩ : ∃ j, N = j + 1 := ⟨N - 1, by omega⟩
    obtain ⟨b1, f, f1, f2⟩ := la_set (u := i) (by omega) 11 0 pr_fuel b rfl (by decide) (fun j hj => absurd hj (Nat.not_lt_zero j))
    obtain ⟨b', e, e1, e2⟩ := la_sets m (i + 1) N b1 (by omega) (by omega) (fun v hv j hj => by
      by_cases c : v = i
      · subst c; exact f1 j hj
      · rw [f2 _ _ (by omega)]; exact h v (by omega) j hj)
    rw [L_X9_layAll_33, if_neg (show ¬ (5 : Int32) ≤ nI i from nI_ge (b := 5) (by omega) (by decide)), show L_X9_layAll_40 0 (nI i) pr_fuel 0 b = some ((), b1) from f, pr_bd_s, nI_1, e]
    exact ⟨_, rfl, e1, fun c k hc => by rw [e2 c k hc, f2 c k (by omega)]⟩
theorem la_all (x : Int32) (b : pr_M) : ∃ b', F_X9_layAll 0 x b = some ((), b') ∧ b' 1 1766 = x ∧ (∀ v, v < 5 → ∀ i, i < 11 → b' 1 (353 * v + i) = pr_x2.getD i 0) ∧ (∀ k, k < 1906 → k ≠ 1766 → (1765 ≤ k ∨ 11 ≤ k % 353) → b' 1 k = 0) ∧ (∀ c k, c ≠ 1 → b' c k = b c k) := by
  obtain ⟨b1, e, e1, e2⟩ := la_zero (x := x) 1906 0 pr_fuel b rfl (by decide) (fun j hj => absurd hj (Nat.not_lt_zero j))
  obtain ⟨b2, f, f1, f2⟩ := la_sets 5 0 pr_fuel (pr_up b1 1 1766 x) rfl (by decide) (fun j hj => absurd hj (Nat.not_lt_zero j))
  unfold F_X9_layAll
  rw [show L_X9_layAll_2 0 x pr_fuel 0 b = some ((), b1) from e, pr_bd_s, pr_lt_s, Nat.zero_add, ri_cl_1766, show L_X9_layAll_33 0 pr_fuel 0 (pr_up b1 1 1766 x) = some ((), b2) from f, pr_bd_s]
  refine ⟨_, rfl, ?_, f1, fun k h1 h2 h3 => ?_, fun c k hc => ?_⟩
  · rw [f2 _ _ (by omega), rd_e ⟨rfl, rfl⟩]
  · rw [f2 _ _ (by omega), rd_n (by omega)]; exact e1 k h1
  · rw [f2 _ _ (by omega), rd_n (by omega), e2 c k hc]
theorem op_begin {n p : Nat} (h2 : 2 ≤ n) (h5 : n ≤ 5) (a b : pr_M) : ∃ a' b', F_X3_begin p (nI n) a = some ((), a') ∧ F_X9_layAll 0 (nI n) b = some ((), b') ∧ rp a' b' p 0 ∧ (∀ c s, (c < p ∨ p + 49 ≤ c) → a' c s = a c s) ∧ (∀ c k, c ≠ 1 → b' c k = b c k) := by
  obtain ⟨a', e1, a3, aj, at_, au, A⟩ := bg_press p (nI n) a
  obtain ⟨b', e2, b66, bu, bz, B⟩ := la_all (nI n) b
  have V : ∀ u, u < 5 → ∀ k, 11 ≤ k → k < 353 → b' 1 (353 * u + k) = 0 := fun u hu k g1 g2 => bz _ (by omega) (by omega) (by omega)
  refine ⟨a', b', e1, e2, ⟨n, h2, h5, a3, b66, aj 4 (by decide) (by decide), bz _ (by decide) (by decide) (by decide), ?_, ?_, Or.inl ⟨aj 9 (by decide) (by decide), bz _ (by decide) (by decide) (by decide)⟩, fun j hj => ?_, fun i _ hi => absurd hi (Nat.not_lt_zero i), fun u hu => ?_, fun h0 => absurd h0 (Nat.lt_irrefl 0), fun u hu => ?_, ?_⟩, A, B⟩
  · rw [aj 5 (by decide) (by decide), bz _ (by decide) (by decide) (by decide)]
  · rw [aj 6 (by decide) (by decide), bz _ (by decide) (by decide) (by decide)]
  · rw [at_ j hj, bz _ (by omega) (by omega) (by omega)]
  · obtain ⟨u1, u2, u5, u6, u7⟩ := au u (by omega)
    have v := V u (by omega)
    refine ⟨⟨fun j hj => ?_, ?_, ?_, ?_⟩, fun h => ?_, ⟨?_, ?_, ?_, fun h => ?_⟩, ⟨0, u7, ?_, Nat.le_refl _, fun j hj => absurd hj (Nat.not_lt_zero j)⟩, fun i _ hi => absurd hi (Nat.not_lt_zero i), fun h0 => absurd h0 (Nat.lt_irrefl 0)⟩ <;> (try dsimp only [ru_U, ru_V])
    · rw [u1 j hj, bu u (by omega) j hj]
    · simp (disch := decide) only [u2, v, and_self]
    · simp (disch := decide) only [u5, v, and_self]
    · simp (disch := decide) only [u6, v, and_self]
    · dsimp only [ru_V] at h
      rw [v 16 (by decide) (by decide)] at h
      exact absurd h (Int32.lt_irrefl)
    · exact ⟨5, (bu u (by omega) 0 (by decide)).trans (by decide +kernel), by decide, by decide⟩
    · exact ⟨3, (bu u (by omega) 1 (by decide)).trans (by decide +kernel), by decide, by decide⟩
    · exact ⟨0, v 16 (by decide) (by decide), by decide⟩
    · dsimp only [ru_V] at h
      rw [v 23 (by decide) (by decide)] at h
      exact absurd h (Int32.lt_irrefl)
    · exact v 36 (by decide) (by decide)
  · exact Or.inl ((au u (by omega)).2.2.2.1 4 (by decide) (by decide))
  · exact ⟨(au 0 (by decide)).2.2.2.1 4 (by decide) (by decide), (au 0 (by decide)).2.2.2.1 7 (by decide) (by decide)⟩
theorem s_setUp {a b : pr_M} (h : rr a b) (x : Int32) : owe (F_X8_setUp 0 x a) (F_X9_setUp 0 x b) := by
  obtain ⟨t, ht, hp⟩ := h.1
  have tt := rp_t hp
  unfold F_X8_setUp F_X9_setUp
  rw [rc_outside, rm_in, pr_b1_s, pr_b1_s]
  by_cases c1 : x < 2
  · rw [if_pos c1, if_pos c1, if_neg (show ¬ (1 : Int32) = 0 by decide), if_pos rfl]
    exact owe_same h _ rfl rfl
  · rw [if_neg c1, if_neg c1]
    by_cases c2 : x ≤ 5
    · obtain ⟨k, hk, rfl⟩ := nI_of2 (M := 5) (n := 5) (by decide) (fun c => c1 (Int32.lt_trans c (by decide))) c2
      have hk2 : 2 ≤ k := by
        rcases Nat.lt_or_ge k 2 with e | e
        · exact absurd (show nI k < 2 from nI_lt (b := 2) e (by decide)) c1
        · exact e
      rw [if_pos c2, if_neg (Int32.not_lt.mpr c2), if_pos rfl, if_neg (show ¬ (1 : Int32) = 0 by decide), Nat.zero_add, tt.1, ri_cl_1765, tt.2]
      obtain ⟨a', b', e1, e2, r, A, B⟩ := op_begin (p := 1) hk2 hk a b
      rw [e1, e2, pr_bd_s, pr_bd_s]
      exact ⟨_, _, _, rfl, rfl, rr_press h (Nat.zero_le _) r (fun c s hc => A c s (by omega)) B⟩
    · rw [if_neg c2, if_pos (Int32.not_le.mp c2), if_neg (show ¬ (1 : Int32) = 0 by decide), if_pos rfl]
      exact owe_same h _ rfl rfl
