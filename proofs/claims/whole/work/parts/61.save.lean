/-! ===== saving and restoring ===== -/
theorem pd_f {a a' b b' : pr_M} (h : pd a b) (hA : ∀ c s, 199 ≤ c → a' c s = a c s) (h05 : b' 0 5 = b 0 5) (hB : ∀ k, b' 5 k = b 5 k) : pd a' b' := by
  obtain ⟨len, h1, h2, h3, h4⟩ := h
  refine ⟨len, h1, by rw [hA _ _ (by omega)]; exact h2, by rw [h05]; exact h3, fun i hi => ?_⟩
  rw [hA _ _ (by omega), hB _]; exact h4 i hi
theorem sv_ix (k i : Nat) : (1906 : Int32) * nI k + nI i = nI (1906 * k + i) := by
  rw [show (1906 : Int32) = nI 1906 from rfl, pk_mul, nI_add]
theorem sv_l {k : Nat} (hk : k < 2) : ∀ (m i N : Nat) (b : pr_M), i + m = 1906 → m < N → (∀ j, j < i → b 3 (1906 * k + j) = b 1 j) →
    ∃ b', L_X9_save_14 0 (nI k) N (nI i) b = some ((), b') ∧ (∀ j, j < 1906 → b' 3 (1906 * k + j) = b 1 j) ∧ (∀ c j, (c ≠ 3 ∨ j < 1906 * k ∨ 1906 * k + 1906 ≤ j) → b' c j = b c j)
  | 0, i, N, b, hi, h1, h => by
    obtain ⟨N, rfl⟩ : ∃ j, N = j + 1 := ⟨N - 1, by omega⟩
    have hik : i = 1906 := by omega
    subst hik
    rw [L_X9_save_14, if_pos (show (1906 : Int32) ≤ nI 1906 by decide)]
    exact ⟨_, rfl, h, fun _ _ _ => rfl⟩
  | m + 1, i, N, b, hi, h1, h => by
    obtain ⟨N, rfl⟩ : ∃ j, N = j + 1 := ⟨N - 1, by omega⟩
    obtain ⟨b', e, e1, e2⟩ := sv_l hk m (i + 1) N (pr_up b 3 (1906 * k + i) (b 1 i)) (by omega) (by omega) (fun j hj => by
      by_cases c : j = i
      · subst c; rw [rd_e ⟨rfl, rfl⟩, rd_n (by omega)]
      · rw [rd_n (by omega), rd_n (by omega)]; exact h j (by omega))
    rw [L_X9_save_14, if_neg (show ¬ (1906 : Int32) ≤ nI i from nI_ge (b := 1906) (by omega) (by decide)), pr_gd_i (by omega) (by decide), sv_ix, pr_gd_i (by omega) (by decide), ri_cl (by omega), ri_cl (by omega), pr_lt_s, nI_1, Nat.zero_add, Nat.zero_add, e]
    exact ⟨_, rfl, fun j hj => by rw [e1 j hj, rd_n (by omega)], fun c j hc => by rw [e2 c j hc, rd_n (by omega)]⟩
theorem rs_l {k : Nat} (hk : k < 2) : ∀ (m i N : Nat) (b : pr_M), i + m = 1906 → m < N → (∀ j, j < i → b 1 j = b 3 (1906 * k + j)) →
    ∃ b', L_X9_restore_26 0 (nI k) N (nI i) b = some ((), b') ∧ (∀ j, j < 1906 → b' 1 j = b 3 (1906 * k + j)) ∧ (∀ c j, c ≠ 1 → b' c j = b c j)
  | 0, i, N, b, hi, h1, h => by
    obtain ⟨N, rfl⟩ : ∃ j, N = j + 1 := ⟨N - 1, by omega⟩
    have hik : i = 1906 := by omega
    subst hik
    rw [L_X9_restore_26, if_pos (show (1906 : Int32) ≤ nI 1906 by decide)]
    exact ⟨_, rfl, h, fun _ _ _ => rfl⟩
  | m + 1, i, N, b, hi, h1, h => by
    obtain ⟨N, rfl⟩ : ∃ j, N = j + 1 := ⟨N - 1, by omega⟩
    obtain ⟨b', e, e1, e2⟩ := rs_l hk m (i + 1) N (pr_up b 1 i (b 3 (1906 * k + i))) (by omega) (by omega) (fun j hj => by
      by_cases c : j = i
      · subst c; rw [rd_e ⟨rfl, rfl⟩, rd_n (by omega)]
      · rw [rd_n (by omega), rd_n (by omega)]; exact h j (by omega))
    rw [L_X9_restore_26, if_neg (show ¬ (1906 : Int32) ≤ nI i from nI_ge (b := 1906) (by omega) (by decide)), sv_ix, pr_gd_i (by omega) (by decide), pr_gd_i (by omega) (by decide), ri_cl (by omega), ri_cl (by omega), pr_lt_s, nI_1, Nat.zero_add, Nat.zero_add, e]
    exact ⟨_, rfl, fun j hj => by rw [e1 j hj, rd_n (by omega)], fun c j hc => by rw [e2 c j hc, rd_n (by omega)]⟩
theorem sv_k {x : Int32} : (∃ k, k < 2 ∧ x = nI k) ∨ (¬ x = 0 ∧ ¬ x = 1 ∧ (x < 0 ∨ (¬ x < 0 ∧ 1 < x))) := by
  by_cases c1 : x < 0
  · right
    exact ⟨fun e => by rw [e] at c1; exact Int32.lt_irrefl c1, fun e => by rw [e] at c1; exact absurd c1 (by decide), Or.inl c1⟩
  · by_cases c2 : x ≤ 1
    · obtain ⟨k, hk, rfl⟩ := nI_of2 (M := 1) (n := 1) (by decide) c1 c2
      exact Or.inl ⟨k, by omega, rfl⟩
    · right
      have c3 := Int32.not_le.mp c2
      exact ⟨fun e => by rw [e] at c3; exact absurd c3 (by decide), fun e => by rw [e] at c3; exact absurd c3 (by decide), Or.inr ⟨c1, c3⟩⟩
theorem sv_at {k : Nat} (hk : k < 2) (a : pr_M) : F_X8_slotAt 0 (nI k) a = some (some (99 + 50 * k)) ∧ pr_LC[99 + 50 * k]? = some (6, 0) ∧ (if nI k < 0 then (0 : Int32) else if 1 < nI k then 0 else 1) = 1 := by
  unfold F_X8_slotAt
  rcases (show k = 0 ∨ k = 1 by omega) with rfl | rfl <;> exact ⟨by decide +kernel, by decide +kernel, by decide +kernel⟩
theorem sl_of {a b : pr_M} (h : rr a b) {k : Nat} (hk : k < 2) : sl a b (99 + 50 * k) (100 + 50 * k) k := by
  rcases (show k = 0 ∨ k = 1 by omega) with rfl | rfl
  · exact h.2.1
  · exact h.2.2.1
theorem s_save {a b : pr_M} (h : rr a b) (x : Int32) : owe (F_X8_save 0 x a) (F_X9_save 0 x b) := by
  obtain ⟨t, ht, n, hn⟩ := h.1
  unfold F_X8_save F_X9_save
  rw [rm_in, pr_b1_s]
  rcases sv_k (x := x) with ⟨k, hk, rfl⟩ | ⟨n0, n1, hx⟩
  · obtain ⟨g1, g2, g3⟩ := sv_at hk a
    rw [g1, g3, pr_b1_s, if_neg (show ¬ (1 : Int32) = 0 by decide)]
    unfold pr_op
    dsimp only
    obtain ⟨b1, m1, m2, m3⟩ := sv_l hk 1906 0 pr_fuel b rfl (by decide) (fun j hj => absurd hj (Nat.not_lt_zero j))
    obtain ⟨a1, c1, c2, c3⟩ := op_copy (p := 100 + 50 * k) (q := 1) (by omega) hn
    rw [show pr_gd (pr_LC[99 + 50 * k]? = some (6, 0)) = fun (X : Option (Int32 × pr_M)) => X from by funext X; exact if_pos g2]
    dsimp only
    rw [show 99 + 50 * k + 1 = 100 + 50 * k by omega, c1, pr_bd_s, pr_lt_s, show L_X9_save_14 0 (nI k) pr_fuel 0 b = some ((), b1) from m1, pr_bd_s, pr_gd_i hk (by decide), ri_cl (by omega), pr_lt_s, Nat.zero_add, ri_cl_1765]
    have tt := t_of hn
    have A : ∀ x s, (x < 99 + 50 * k ∨ 149 + 50 * k ≤ x) → pr_up a1 (99 + 50 * k) 1 1 x s = a x s := fun x s hx => by rw [rd_n (by omega), c3 _ _ (by omega)]
    have B1 : ∀ j, pr_up b1 (0 + 4) k 1 1 j = b 1 j := fun j => by rw [rd_n (by omega), m3 _ _ (by omega)]
    have hP : rpn (pr_up a1 (99 + 50 * k) 1 1) (pr_up b1 (0 + 4) k 1) 1 n t := rpn_same hn (fun c s g1 g2 => A _ _ (by omega)) (fun j _ => B1 j)
    have hS : sl (pr_up a1 (99 + 50 * k) 1 1) (pr_up b1 (0 + 4) k 1) (99 + 50 * k) (100 + 50 * k) k := by
      refine ⟨?_, Or.inr (rd_e ⟨rfl, rfl⟩), fun _ => ⟨t, ht, n, ?_⟩⟩
      · rw [rd_e ⟨rfl, rfl⟩, rd_e ⟨rfl, rfl⟩]
      · refine rpn_same c2 (fun c s g1 g2 => rd_n (by omega)) (fun j hj => ?_)
        show pr_up b1 (0 + 4) k 1 3 (1906 * k + j) = b 1 j
        rw [rd_n (by omega)]; exact m2 j hj
    have hO : ∀ i, i < 2 → i ≠ k → sl (pr_up a1 (99 + 50 * k) 1 1) (pr_up b1 (0 + 4) k 1) (99 + 50 * i) (100 + 50 * i) i := fun i hi hik => by
      obtain ⟨s1, s2, s3⟩ := sl_of h hi
      refine ⟨?_, ?_, fun e => ?_⟩
      · rw [A _ _ (by omega), rd_n (by omega), m3 _ _ (by omega)]; exact s1
      · rw [rd_n (by omega), m3 _ _ (by omega)]; exact s2
      · rw [rd_n (by omega), m3 _ _ (by omega)] at e
        obtain ⟨t', ht', n', hn'⟩ := s3 e
        refine ⟨t', ht', n', rpn_same hn' (fun c s g1 g2 => A _ _ (by omega)) (fun j hj => ?_)⟩
        show pr_up b1 (0 + 4) k 1 3 (1906 * i + j) = b 3 (1906 * i + j)
        rw [rd_n (by omega), m3 _ _ (by omega)]
    have hD : pd (pr_up a1 (99 + 50 * k) 1 1) (pr_up b1 (0 + 4) k 1) := pd_f h.2.2.2 (fun c s hc => A _ _ (by omega)) (by rw [rd_n (by omega), m3 _ _ (by omega)]) (fun j => by rw [rd_n (by omega), m3 _ _ (by omega)])
    refine ⟨nI t, _, _, ?_, ?_, ⟨⟨t, ht, rp_of hP⟩, ?_, ?_, hD⟩⟩
    · rw [A _ _ (by omega), show a (0 + 1) 4 = nI t from tt.1]
    · rw [B1, tt.2]
    · rcases (show k = 0 ∨ k = 1 by omega) with rfl | rfl
      · exact hS
      · exact hO 0 (by decide) (by decide)
    · rcases (show k = 0 ∨ k = 1 by omega) with rfl | rfl
      · exact hO 1 (by decide) (by decide)
      · exact hS
  · have e : F_X8_slotAt 0 x a = some none := by
      unfold F_X8_slotAt
      rw [if_neg n0, if_neg n1]
    have r : (if x < 0 then (0 : Int32) else if 1 < x then 0 else 1) = 0 := by
      rcases hx with c | ⟨c, c2⟩
      · rw [if_pos c]
      · rw [if_neg c, if_pos c2]
    rw [e, r, if_pos rfl, pr_b1_s]
    exact owe_same h _ rfl rfl
theorem s_restore {a b : pr_M} (h : rr a b) (x : Int32) : owe (F_X8_restore 0 x a) (F_X9_restore 0 x b) := by
  unfold F_X8_restore F_X9_restore
  rw [rm_in, pr_b1_s]
  rcases sv_k (x := x) with ⟨k, hk, rfl⟩ | ⟨n0, n1, hx⟩
  · obtain ⟨g1, g2, g3⟩ := sv_at hk a
    rw [g1, g3, pr_b1_s, if_neg (show ¬ (1 : Int32) = 0 by decide)]
    unfold pr_op
    dsimp only
    rw [show pr_gd (pr_LC[99 + 50 * k]? = some (6, 0)) = fun (X : Option (Int32 × pr_M)) => X from by funext X; exact if_pos g2]
    dsimp only
    obtain ⟨s1, s2, s3⟩ := sl_of h hk
    rw [pr_gd_i hk (by decide), ri_cl (by omega), s1, Nat.zero_add]
    by_cases c : b 4 k = 0
    · rw [if_pos c, if_pos c]
      exact owe_same h _ rfl rfl
    · rw [if_neg c, if_neg c]
      obtain ⟨t, ht, n, hn⟩ := s3 (s2.resolve_left c)
      obtain ⟨b1, m1, m2, m3⟩ := rs_l hk 1906 0 pr_fuel b rfl (by decide) (fun j hj => absurd hj (Nat.not_lt_zero j))
      obtain ⟨a1, c1, c2, c3⟩ := op_copy (p := 1) (q := 100 + 50 * k) (by omega) hn
      rw [show 99 + 50 * k + 1 = 100 + 50 * k by omega, c1, pr_bd_s, show L_X9_restore_26 0 (nI k) pr_fuel 0 b = some ((), b1) from m1, pr_bd_s, ri_cl_1765]
      have hP : rpn a1 b1 1 n t := rpn_same c2 (fun c s _ _ => rfl) (fun j hj => m2 j hj)
      have tt := t_of hP
      exact ⟨nI t, _, _, by rw [tt.1], by rw [tt.2], rr_press h ht (rp_of hP) (fun c s hc => c3 _ _ (by omega)) m3⟩
  · have e : F_X8_slotAt 0 x a = some none := by
      unfold F_X8_slotAt
      rw [if_neg n0, if_neg n1]
    have r : (if x < 0 then (0 : Int32) else if 1 < x then 0 else 1) = 0 := by
      rcases hx with c | ⟨c, c2⟩
      · rw [if_pos c]
      · rw [if_neg c, if_pos c2]
    rw [e, r, if_pos rfl, pr_b1_s]
    exact owe_same h _ rfl rfl
