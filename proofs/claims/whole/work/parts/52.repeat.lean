/-! ===== a whole repeat ===== -/
def ph_C2 (a a' : pr_M) (p n : Nat) : Prop := ∀ c s, (c < p + 4 ∨ p + 4 + 9 * n ≤ c) → c ≠ p + 3 → a' c s = a c s
def ph_M2 (b b' : pr_M) : Prop := ∀ c k, (c ≠ 1 ∨ (1765 ≤ k ∧ (k < 1772 ∨ 1778 ≤ k))) → b' c k = b c k
/-- which sensors saw a piece -/
def sw (a b : pr_M) (p t u : Nat) : Prop := ∀ s, b 1 (353 * u + 1) = nI s → s ≤ 10 → a (uq p u + 6) 4 = if t < s + wy b u then 0 else 1
theorem uk_fr2 {a a' b b' : pr_M} {p u v t T : Nat} (h : uk a b p u t T) (huv : u ≠ v) (hu : u < 5) (hA : fr_C2 a a' p (uq p v)) (hB : fr_M2 b b' v) : uk a' b' p u t T :=
  ru_k_same h (fun j s hj => hA _ _ (by dsimp only [uq]; omega) (by dsimp only [uq]; omega)) (fun k hk => hB _ _ (by omega))
theorem lp_watch {p n t : Nat} (hn5 : n ≤ 5) (ht : t ≤ 200000) : ∀ (m i N M : Nat) (a b : pr_M), i + m = n → 1 ≤ i → m < N → m < M → a p 3 = nI n → b 1 1766 = nI n → a p 4 = nI t → b 1 1765 = nI t → (∀ i, i < 128 → i < t + 1 → a (p + 2) i = b 1 (1778 + i)) → tot a b p → wy_ok b (n - 1) →
    (uk a b p 0 t (t + 1) ∧ ru_z (ru_V b 0)) → (∀ u, 1 ≤ u → u < i → uk a b p u (t + 1) (t + 1) ∧ ru_s (ru_U a (uq p u)) (ru_V b u) ∧ sw a b p t u) → (∀ u, i ≤ u → u < n → uk a b p u t (t + 1) ∧ ru_z (ru_V b u)) →
    ∃ a' b', L_X3_makeRepeat_61 p N (nI (wy b (i - 1))) (nI i) a = some ((), a') ∧ L_X9_makeRepeat_69 0 M (nI i) b = some ((), b') ∧ (uk a' b' p 0 t (t + 1) ∧ ru_z (ru_V b' 0)) ∧ (∀ u, 1 ≤ u → u < n → uk a' b' p u (t + 1) (t + 1) ∧ ru_s (ru_U a' (uq p u)) (ru_V b' u) ∧ sw a' b' p t u) ∧ (∀ s, a' (uq p 0 + 6) s = a (uq p 0 + 6) s) ∧ tot a' b' p ∧ ph_C2 a a' p n ∧ ph_M2 b b' ∧ ph_S b b'
  | 0, i, N, M, a, b, hi, hi1, hN, hM, h3, h66, h4, h65, hch, hto, hw, hk0, hk1, hk2 => by
    obtain ⟨N, rfl⟩ : ∃ j, N = j + 1 := ⟨N - 1, by omega⟩
    obtain ⟨M, rfl⟩ : ∃ j, M = j + 1 := ⟨M - 1, by omega⟩
    have e : nI n ≤ nI i := nI_le (by omega) (by omega)
    refine ⟨a, b, ?_, ?_, hk0, fun u h1 hu => hk1 u h1 (by omega), fun _ => rfl, hto, fun _ _ _ _ => rfl, fun _ _ _ => rfl, fun _ _ _ _ => rfl⟩
    · rw [L_X3_makeRepeat_61, h3, if_pos e]
    · rw [L_X9_makeRepeat_69, Nat.zero_add, ri_cl_1766, h66, if_pos e]
  | m + 1, i, N, M, a, b, hi, hi1, hN, hM, h3, h66, h4, h65, hch, hto, hw, hk0, hk1, hk2 => by
    obtain ⟨N, rfl⟩ : ∃ j, N = j + 1 := ⟨N - 1, by omega⟩
    obtain ⟨M, rfl⟩ : ∃ j, M = j + 1 := ⟨M - 1, by omega⟩
    have hin : i < n := by omega
    have hi5 : i < 5 := by omega
    have e : ¬ nI n ≤ nI i := nI_ge hin (by omega)
    have hwi : wy_ok b i := wy_ok_le hw (by omega)
    obtain ⟨d, d1, d2, d3⟩ := hwi i hi1 (Nat.le_refl _)
    obtain ⟨K, Z⟩ := hk2 i (Nat.le_refl _) hin
    have hd0 : a (p + 1 + 3 + 9 * i + 1) 0 = nI d := by rw [← d1]; exact K.1.1 0 (by decide)
    obtain ⟨a1, b1, E1, E2, K1, S1, to1, A1, B1, T1, W1⟩ := op_watch (p := p) hi1 hin hn5 h66 hwi ht h4 h65 K hk0.1.2.2.2.2.1 Z hch hto
    have pS : ph_S b b1 := fun v j hv hj => by
      by_cases e : v = i
      · subst e; exact T1 j hj
      · exact B1 _ _ (by omega)
    have hz0 : ∀ u, u ≠ i → u < 5 → ru_z (ru_V b u) → ru_z (ru_V b1 u) := fun u hu h5 hz => by
      unfold ru_z at hz ⊢
      dsimp only [ru_V] at hz ⊢
      simp (disch := omega) only [fun k (hk : k < 353) => B1 1 (353 * u + k) (by omega)]
      exact hz
    obtain ⟨a', b', F1, F2, K0', K2, S0, to2, A2, B2, T2⟩ := lp_watch (p := p) hn5 ht m (i + 1) N M a1 b1 (by omega) (by omega) (by omega) (by omega) (by rw [A1 _ _ (by omega) (by omega)]; exact h3) (by rw [B1 _ _ (by omega)]; exact h66) (by rw [A1 _ _ (by omega) (by omega)]; exact h4) (by rw [B1 _ _ (by omega)]; exact h65)
      (fun i g1 g2 => by rw [A1 _ _ (by omega) (by omega), B1 _ _ (by omega)]; exact hch i g1 g2) to1 (ph_wok pS (by omega) hw) ⟨uk_fr2 hk0.1 (by omega) (by decide) A1 B1, hz0 0 (by omega) (by decide) hk0.2⟩ (fun u h1 hu => by
        by_cases hui : u = i
        · subst hui
          exact ⟨K1, S1, fun s g1 g2 => by
            rw [pS u 1 hi5 (by decide)] at g1
            rw [ph_wy pS hi5]
            exact W1 s g1 g2⟩
        · obtain ⟨k1, k2, k3⟩ := hk1 u h1 (by omega)
          refine ⟨uk_fr2 k1 hui (by omega) A1 B1, ru_s_same k2 (fun j s hj => A1 _ _ (by dsimp only [uq]; omega) (by dsimp only [uq]; omega)) (fun k hk => B1 _ _ (by omega)), fun s g1 g2 => ?_⟩
          rw [pS u 1 (by omega) (by decide)] at g1
          rw [ph_wy pS (by omega), A1 _ _ (by dsimp only [uq]; omega) (by dsimp only [uq]; omega)]
          exact k3 s g1 g2) (fun u h1 h2 => ⟨uk_fr2 (hk2 u (by omega) h2).1 (by omega) (by omega) A1 B1, hz0 u (by omega) (by omega) (hk2 u (by omega) h2).2⟩)
    rw [Nat.add_sub_cancel, ph_wy pS hi5] at F1
    refine ⟨a', b', ?_, ?_, K0', K2, fun s => ?_, to2, fun c s h h2 => ?_, fun c k h => ?_, pS.tr T2⟩
    · rw [L_X3_makeRepeat_61, h3, if_neg e, ri_ug hi5, ri_cl (by omega), rc_set_0, pr_b1_s, hd0, nI_add, ← wy_s hi1 d1 d3, E1, pr_bd_s, nI_1, F1]
    · rw [E2, nI_1, F2]
    · rw [S0 s, A1 _ _ (by dsimp only [uq]; omega) (by dsimp only [uq]; omega)]
    · rw [A2 c s h h2, A1 _ _ (by omega) h2]
    · rw [B2 c k h, B1 _ _ (by omega)]
theorem lp_end {p n t : Nat} (hn5 : n ≤ 5) : ∀ (m i N M : Nat) (a b : pr_M), i + m = n → m < N → m < M → a p 3 = nI n → b 1 1766 = nI n → (∀ u, u < n → uk a b p u t t ∧ ru_s (ru_U a (uq p u)) (ru_V b u)) →
    ∃ a' b', L_X3_makeRepeat_101 p N (nI i) a = some ((), a') ∧ L_X9_makeRepeat_130 0 M (nI i) b = some ((), b') ∧ (∀ u, u < n → uk a' b' p u t t ∧ ru_s (ru_U a' (uq p u)) (ru_V b' u)) ∧ (∀ u s, 4 ≤ s → a' (uq p u + 6) s = a (uq p u + 6) s) ∧ ph_C a a' p n ∧ ph_M b b' ∧ ph_S b b'
  | 0, i, N, M, a, b, hi, hN, hM, h3, h66, hk => by
    obtain ⟨N, rfl⟩ : ∃ j, N = j + 1 := ⟨N - 1, by omega⟩
    obtain ⟨M, rfl⟩ : ∃ j, M = j + 1 := ⟨M - 1, by omega⟩
    have e : nI n ≤ nI i := nI_le (by omega) (by omega)
    refine ⟨a, b, ?_, ?_, hk, fun _ _ _ => rfl, fun _ _ _ => rfl, fun _ _ _ => rfl, fun _ _ _ _ => rfl⟩
    · rw [L_X3_makeRepeat_101, h3, if_pos e]
    · rw [L_X9_makeRepeat_130, Nat.zero_add, ri_cl_1766, h66, if_pos e]
  | m + 1, i, N, M, a, b, hi, hN, hM, h3, h66, hk => by
    obtain ⟨N, rfl⟩ : ∃ j, N = j + 1 := ⟨N - 1, by omega⟩
    obtain ⟨M, rfl⟩ : ∃ j, M = j + 1 := ⟨M - 1, by omega⟩
    have hin : i < n := by omega
    have hi5 : i < 5 := by omega
    have e : ¬ nI n ≤ nI i := nI_ge hin (by omega)
    obtain ⟨a1, b1, E1, E2, K1, S1, Z1, s1, A1, B1, T1⟩ := op_end (q := uq p i) hi5 (hk i hin).1
    obtain ⟨a', b', F1, F2, K2, S2, A2, B2, T2⟩ := lp_end (p := p) (t := t) hn5 m (i + 1) N M a1 b1 (by omega) (by omega) (by omega) (by rw [A1 _ _ (by dsimp only [uq]; omega)]; exact h3) (by rw [B1 _ _ (by omega)]; exact h66) (fun u hu => by
      by_cases hui : u = i
      · subst hui; exact ⟨K1, S1 (hk u hu).2⟩
      · exact ⟨uk_fr (hk u hu).1 hui A1 B1, ru_s_same (hk u hu).2 (fun j s hj => A1 _ _ (by dsimp only [uq]; omega)) (fun k hk => B1 _ _ (by omega))⟩)
    refine ⟨a', b', ?_, ?_, K2, fun u s h4 => ?_, (ph_C_of hin A1).tr A2, (ph_M_of hi5 B1).tr B2, (ph_S_of B1 T1).tr T2⟩
    · rw [L_X3_makeRepeat_101, h3, if_neg e, ri_ug hi5, ri_cl (by omega), E1, pr_bd_s, nI_1, F1]
    · rw [L_X9_makeRepeat_130, Nat.zero_add, ri_cl_1766, h66, if_neg e, E2, pr_bd_s, nI_1, F2]
    · rw [S2 u s h4]
      by_cases hui : u = i
      · subst hui; exact s1 s h4
      · exact A1 _ _ (by dsimp only [uq]; omega)
