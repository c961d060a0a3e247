/-! ===== the phases of a repeat ===== -/
def rp_sp (a b : pr_M) (p n t : Nat) : Prop :=
  (a p 9 = 0 ∧ b 1 1771 = 0) ∨ (∃ s, a p 7 = nI s ∧ s ≤ t ∧ ¬ a p 9 = 0 ∧ ((b 1 1771 = nI (t - s + 1) ∧ t - s ≤ wy b (n - 1) ∧ a p 8 = b 1 1769 ∧ a p 9 = b 1 1770) ∨ (b 1 1771 = 0 ∧ wy b (n - 1) < t - s)))
theorem lp_noSplice {p n t s0 : Nat} {b : pr_M} (hn5 : n ≤ 5) (ht : t ≤ 200000) (hs0 : s0 ≤ t) : ∀ (m i N : Nat) (a : pr_M), i + m = n → m < N → a p 3 = nI n → a p 4 = nI t → a p 7 = nI s0 → wy_ok b (n - 1) → (∀ u, u < n → a (uq p u + 1) 0 = b 1 (353 * u + 0)) → wy b (n - 1) < t - s0 →
    L_X3_bringSplice_12 p N (nI (wy b (i - 1))) (nI i) a = some ((), a)
  | 0, i, N, a, hi, hN, h3, h4, h7, hw, hk, hg => by
    obtain ⟨N, rfl⟩ : ∃ j, N = j + 1 := ⟨N - 1, by omega⟩
    rw [L_X3_bringSplice_12, h3, if_pos (nI_le (by omega) (by omega))]
  | m + 1, i, N, a, hi, hN, h3, h4, h7, hw, hk, hg => by
    obtain ⟨N, rfl⟩ : ∃ j, N = j + 1 := ⟨N - 1, by omega⟩
    have hi5 : i < 5 := by omega
    have hwi : wy_ok b i := wy_ok_le hw (by omega)
    have hwl := (wy_le hwi).2
    have hne : ¬ (nI t = nI s0 + nI (wy b i)) := fun h => by
      have h1 := (ri_eq_way hs0 ht (by omega)).mp h
      rcases (show i = n - 1 ∨ i < n - 1 by omega) with h2 | h2
      · rw [h2] at h1; omega
      · have := wy_mono hw h2
        omega
    have ih := lp_noSplice (p := p) hn5 ht hs0 m (i + 1) N a (by omega) (by omega) h3 h4 h7 hw hk hg
    rw [Nat.add_sub_cancel] at ih
    rw [L_X3_bringSplice_12, h3, if_neg (nI_ge (show i < n by omega) (by omega)), h4, h7, nI_1]
    by_cases h0 : i = 0
    · subst h0
      rw [if_pos (show nI 0 ≤ 0 by decide), if_neg hne]
      exact ih
    · rw [if_neg (nI_nle (by omega) (by omega)), ri_ug hi5, ri_cl (by omega), rc_set_0, pr_b1_s]
      obtain ⟨d, d1, d2, d3⟩ := hwi i (by omega) (Nat.le_refl _)
      have hd0 : a (p + 1 + 3 + 9 * i + 1) 0 = nI d := by
        rw [← d1]; exact hk i (by omega)
      rw [hd0, nI_add, ← wy_s (by omega) d1 d3, if_neg hne]
      exact ih
/-- the settings of all units are in their ranges -/
theorem wok_of {a b : pr_M} {p n t T : Nat} (hk : ∀ u, u < n → uk a b p u t T) : wy_ok b (n - 1) := fun k h1 h2 => (hk k (by omega)).2.2.1.1
theorem op_bring {a b : pr_M} {p n t : Nat} (hn2 : 2 ≤ n) (hn5 : n ≤ 5) (ht : t ≤ 200000) (h3 : a p 3 = nI n) (h66 : b 1 1766 = nI n) (h4 : a p 4 = nI t) (hsp : rp_sp a b p n t) (hk : ∀ u, u < n → uk a b p u t t) :
    ∃ a' b', F_X3_bringSplice p a = some ((), a') ∧ F_X9_goOnSplice 0 b = some ((), b') ∧ (∀ u, u < n → uk a' b' p u t t) ∧ (∀ u s, a' (uq p u + 6) s = a (uq p u + 6) s) ∧ ph_C a a' p n ∧ (∀ c k, (c ≠ 1 ∨ (1765 ≤ k ∧ k ≠ 1771)) → b' c k = b c k) ∧ ph_S b b' ∧ rp_sp a' b' p n (t + 1) := by
  have hw := wok_of hk
  have hwl := (wy_le hw).2
  rcases hsp with ⟨g1, g2⟩ | ⟨s, g7, hs, g9, hh⟩
  · refine ⟨a, b, ?_, ?_, hk, fun _ _ => rfl, fun _ _ _ => rfl, fun _ _ _ => rfl, fun _ _ _ _ => rfl, Or.inl ⟨g1, g2⟩⟩
    · unfold F_X3_bringSplice
      rw [if_pos g1]
    · unfold F_X9_goOnSplice
      rw [Nat.zero_add, ri_cl_1771, if_pos g2]
  · rcases hh with ⟨e71, hle, e8, e9⟩ | ⟨e71, hgt⟩
    · obtain ⟨a1, b1, E1, E2, K1, S1, A1, B1, T1⟩ := lp_splice (p := p) hn5 ht hs n 0 pr_fuel pr_fuel a b (by omega) (by show n < 4000; omega) (by show n < 4000; omega) h3 h66 h4 g7 e8 e9 rfl rfl hw hk
      have hn1 : nI n - 1 = nI (n - 1) := by
        obtain ⟨j, rfl⟩ : ∃ j, n = j + 1 := ⟨n - 1, by omega⟩
        exact nI_pred j
      have hway : F_X9_way 0 (nI (n - 1)) b1 = some (nI (wy b (n - 1))) := by
        rw [rm_way (by omega) (ph_wok T1 (by omega) hw), ph_wy T1 (by omega)]
      refine ⟨a1, pr_up b1 1 1771 (if t - s < wy b (n - 1) then nI (t + 1 - s + 1) else 0), ?_, ?_, fun u hu => ?_, S1, A1, fun c k h => ?_, fun u j hu hj => ?_, Or.inr ⟨s, ?_, by omega, ?_, ?_⟩⟩
      · unfold F_X3_bringSplice
        rw [if_neg g9]
        have : (0 : Int32) = nI (wy b (0 - 1)) := rfl
        rw [show L_X3_bringSplice_12 p pr_fuel 0 0 a = L_X3_bringSplice_12 p pr_fuel (nI (wy b (0 - 1))) (nI 0) a from rfl, E1, pr_bd_s]
      · unfold F_X9_goOnSplice
        simp only [Nat.zero_add, ri_cl_1771, ri_cl_1766]
        rw [e71, if_neg (nI_ne0 (by omega) (by omega)), nI_pred, show L_X9_goOnSplice_25 0 (nI (t - s)) pr_fuel 0 b = L_X9_goOnSplice_25 0 (nI (t - s)) pr_fuel (nI 0) b from rfl, E2, pr_bd_s, B1 1 1766 (by omega), h66, hn1, hway, pr_b1_s, B1 1 1771 (by omega), e71, nI_1]
        by_cases c : t - s < wy b (n - 1)
        · rw [if_pos (nI_lt c (by omega)), if_pos c, pr_b1_s, pr_lt_s, show t - s + 1 + 1 = t + 1 - s + 1 by omega]
        · rw [if_neg (nI_nlt (by omega) (by omega)), if_neg c, pr_b1_s, pr_lt_s]
      · exact ru_k_same (K1 u hu) (fun _ _ _ => rfl) (fun k hk => rd_n (by omega))
      · rw [rd_n (by omega)]; exact B1 _ _ (by omega)
      · rw [rd_n (by omega)]; exact T1 u j hu hj
      · rw [A1 _ _ (by omega)]; exact g7
      · rw [A1 _ _ (by omega)]; exact g9
      · have hwy : wy (pr_up b1 1 1771 (if t - s < wy b (n - 1) then nI (t + 1 - s + 1) else 0)) (n - 1) = wy b (n - 1) := by
          rw [wy_cong (b := b1) (fun k h1 h2 => rd_n (by omega)), ph_wy T1 (by omega)]
        rw [hwy, rd_e ⟨rfl, rfl⟩]
        by_cases c : t - s < wy b (n - 1)
        · refine Or.inl ⟨by rw [if_pos c], by omega, ?_, ?_⟩
          · rw [A1 _ _ (by omega), rd_n (by omega), B1 _ _ (by omega)]; exact e8
          · rw [A1 _ _ (by omega), rd_n (by omega), B1 _ _ (by omega)]; exact e9
        · exact Or.inr ⟨by rw [if_neg c], by omega⟩
    · refine ⟨a, b, ?_, ?_, hk, fun _ _ => rfl, fun _ _ _ => rfl, fun _ _ _ => rfl, fun _ _ _ _ => rfl, Or.inr ⟨s, g7, by omega, g9, Or.inr ⟨e71, by omega⟩⟩⟩
      · unfold F_X3_bringSplice
        have := lp_noSplice (p := p) (b := b) hn5 ht hs n 0 pr_fuel a (by omega) (by show n < 4000; omega) h3 h4 g7 hw (fun u hu => (hk u hu).1.1 0 (by decide)) hgt
        rw [if_neg g9, show L_X3_bringSplice_12 p pr_fuel 0 0 a = L_X3_bringSplice_12 p pr_fuel (nI (wy b (0 - 1))) (nI 0) a from rfl, this, pr_bd_s]
      · unfold F_X9_goOnSplice
        rw [Nat.zero_add, ri_cl_1771, if_pos e71]
/-- printing, unit by unit -/
theorem lp_print {p n t : Nat} {d : Int32} (hn5 : n ≤ 5) (ht : t ≤ 200000) : ∀ (m i N M : Nat) (a b : pr_M), i + m = n → m < N → m < M → a p 3 = nI n → b 1 1766 = nI n → a p 4 = nI t → b 1 1765 = nI t → b 1 (1778 + t % 128) = d → (∀ u, u < i → uk a b p u t (t + 1) ∧ ru_z (ru_V b u)) → (∀ u, i ≤ u → u < n → uk a b p u t t) →
    ∃ a' b', L_X3_makeRepeat_29 p d N (nI i) a = some ((), a') ∧ L_X9_makeRepeat_44 0 M (nI i) b = some ((), b') ∧ (∀ u, u < n → uk a' b' p u t (t + 1) ∧ ru_z (ru_V b' u)) ∧ (∀ u s, a' (uq p u + 6) s = a (uq p u + 6) s) ∧ ph_C a a' p n ∧ ph_M b b' ∧ ph_S b b'
  | 0, i, N, M, a, b, hi, hN, hM, h3, h66, h4, h65, hd, hk1, hk2 => by
    obtain ⟨N, rfl⟩ : ∃ j, N = j + 1 := ⟨N - 1, by omega⟩
    obtain ⟨M, rfl⟩ : ∃ j, M = j + 1 := ⟨M - 1, by omega⟩
    have e : nI n ≤ nI i := nI_le (by omega) (by omega)
    refine ⟨a, b, ?_, ?_, fun u hu => hk1 u (by omega), fun _ _ => rfl, fun _ _ _ => rfl, fun _ _ _ => rfl, fun _ _ _ _ => rfl⟩
    · rw [L_X3_makeRepeat_29, h3, if_pos e]
    · rw [L_X9_makeRepeat_44, Nat.zero_add, ri_cl_1766, h66, if_pos e]
  | m + 1, i, N, M, a, b, hi, hN, hM, h3, h66, h4, h65, hd, hk1, hk2 => by
    obtain ⟨N, rfl⟩ : ∃ j, N = j + 1 := ⟨N - 1, by omega⟩
    obtain ⟨M, rfl⟩ : ∃ j, M = j + 1 := ⟨M - 1, by omega⟩
    have hin : i < n := by omega
    have hi5 : i < 5 := by omega
    have e : ¬ nI n ≤ nI i := nI_ge hin (by omega)
    obtain ⟨a1, b1, E1, E2, K1, Z1, S1, A1, B1, T1⟩ := op_print (q := uq p i) hi5 (show t < 2 ^ 31 by omega) h65 (hk2 i (Nat.le_refl _) hin)
    obtain ⟨a', b', F1, F2, K2, S2, A2, B2, T2⟩ := lp_print (p := p) (d := d) hn5 ht m (i + 1) N M a1 b1 (by omega) (by omega) (by omega) (by rw [A1 _ _ (by dsimp only [uq]; omega)]; exact h3) (by rw [B1 _ _ (by omega)]; exact h66) (by rw [A1 _ _ (by dsimp only [uq]; omega)]; exact h4) (by rw [B1 _ _ (by omega)]; exact h65) (by rw [B1 _ _ (by omega)]; exact hd) (fun u hu => by
        by_cases hui : u = i
        · subst hui; exact ⟨K1, Z1⟩
        · have h := hk1 u (by omega)
          refine ⟨uk_fr h.1 hui A1 B1, ?_⟩
          have hz := h.2
          unfold ru_z at hz ⊢
          dsimp only [ru_V] at hz ⊢
          simp (disch := omega) only [fun k (hk : k < 353) => B1 1 (353 * u + k) (by omega)]
          exact hz) (fun u h1 h2 => uk_fr (hk2 u (by omega) h2) (by omega) A1 B1)
    refine ⟨a', b', ?_, ?_, K2, fun u s => ?_, (ph_C_of hin A1).tr A2, (ph_M_of hi5 B1).tr B2, (ph_S_of B1 T1).tr T2⟩
    · rw [L_X3_makeRepeat_29, h3, if_neg e, ri_ug hi5, ri_cl (by omega), h4, ← hd, E1, pr_bd_s, nI_1, hd, F1]
    · rw [L_X9_makeRepeat_44, Nat.zero_add, ri_cl_1766, h66, if_neg e, E2, pr_bd_s, nI_1, F2]
    · rw [S2 u s]
      by_cases hui : u = i
      · subst hui; exact S1 s
      · exact A1 _ _ (by dsimp only [uq]; omega)
