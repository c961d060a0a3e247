/-! ===== the whole state: class and model; the small calls ===== -/
def rpn (a b : pr_M) (p n t : Nat) : Prop := 2 ≤ n ∧ n ≤ 5 ∧ a p 3 = nI n ∧ b 1 1766 = nI n ∧ a p 4 = nI t ∧ b 1 1765 = nI t ∧ a p 5 = b 1 1767 ∧ a p 6 = b 1 1768 ∧ rp_sp a b p n t ∧ tot a b p ∧ (∀ i, i < 128 → i < t → a (p + 2) i = b 1 (1778 + i)) ∧
  (∀ u, u < n → uk a b p u t t) ∧ (0 < t → ∀ u, u < n → ru_s (ru_U a (uq p u)) (ru_V b u)) ∧ (∀ u, u < n → a (uq p u + 6) 4 = 0 ∨ a (uq p u + 6) 4 = 1) ∧ (a (uq p 0 + 6) 4 = 0 ∧ a (uq p 0 + 6) 7 = 0)
theorem rp_of {a b : pr_M} {p n t : Nat} (h : rpn a b p n t) : rp a b p t := ⟨n, h⟩
theorem rp_to {a b : pr_M} {p t : Nat} (h : rp a b p t) : ∃ n, rpn a b p n t := h
theorem rp_sp_same {a a' b b' : pr_M} {p n t : Nat} (h : rp_sp a b p n t) (hA : ∀ s, 7 ≤ s → s ≤ 9 → a' p s = a p s) (hB : ∀ k, 1769 ≤ k → k ≤ 1771 → b' 1 k = b 1 k) (hw : wy b' (n - 1) = wy b (n - 1) ∨ t = 0) : rp_sp a' b' p n t := by
  unfold rp_sp at h ⊢
  rw [hA 9 (by omega) (by omega), hA 7 (by omega) (by omega), hA 8 (by omega) (by omega), hB 1769 (by omega) (by omega), hB 1770 (by omega) (by omega), hB 1771 (by omega) (by omega)]
  rcases hw with hw | hw
  · rw [hw]; exact h
  · rcases h with h | ⟨s, h1, h2, h3, h4⟩
    · exact Or.inl h
    · refine Or.inr ⟨s, h1, h2, h3, ?_⟩
      rcases h4 with ⟨g1, g2, g3⟩ | ⟨g1, g2⟩
      · exact Or.inl ⟨g1, by omega, g3⟩
      · omega
/-- the same state elsewhere: equal cells, equal row -/
theorem rpn_same {a a' b b' : pr_M} {p n t : Nat} (h : rpn a b p n t) (hA : ∀ c s, p ≤ c → c < p + 49 → a' c s = a c s) (hB : ∀ k, k < 1906 → b' 1 k = b 1 k) : rpn a' b' p n t := by
  obtain ⟨h1, h2, h3, h4, h5, h6, h7, h8, h9, h10, h11, h12, h13, h14, h15⟩ := h
  have U : ∀ u, u < n → ∀ j s, j < 9 → a' (uq p u + j) s = a (uq p u + j) s := fun u hu j s hj => hA _ _ (by dsimp only [uq]; omega) (by dsimp only [uq]; omega)
  have V : ∀ u, u < n → ∀ k, k < 353 → b' 1 (353 * u + k) = b 1 (353 * u + k) := fun u hu k hk => hB _ (by omega)
  refine ⟨h1, h2, ?_, ?_, ?_, ?_, ?_, ?_, ?_, fun j hj => ?_, fun i g1 g2 => ?_, fun u hu => ?_, fun ht u hu => ?_, fun u hu => ?_, ?_, ?_⟩
  · rw [hA _ _ (by omega) (by omega)]; exact h3
  · rw [hB _ (by omega)]; exact h4
  · rw [hA _ _ (by omega) (by omega)]; exact h5
  · rw [hB _ (by omega)]; exact h6
  · rw [hA _ _ (by omega) (by omega), hB _ (by omega)]; exact h7
  · rw [hA _ _ (by omega) (by omega), hB _ (by omega)]; exact h8
  · exact rp_sp_same h9 (fun s _ _ => hA _ _ (by omega) (by omega)) (fun k _ _ => hB _ (by omega)) (Or.inl (wy_cong fun k _ _ => hB _ (by omega)))
  · rw [hA _ _ (by omega) (by omega), hB _ (by omega)]; exact h10 j hj
  · rw [hA _ _ (by omega) (by omega), hB _ (by omega)]; exact h11 i g1 g2
  · exact ru_k_same (h12 u hu) (U u hu) (V u hu)
  · exact ru_s_same (h13 ht u hu) (U u hu) (V u hu)
  · rw [U u hu 6 4 (by decide)]; exact h14 u hu
  · rw [U 0 (by omega) 6 4 (by decide)]; exact h15.1
  · rw [U 0 (by omega) 6 7 (by decide)]; exact h15.2
/-- one unit was changed, and its pictures agree -/
theorem rpn_unit {a a' b b' : pr_M} {p n t u : Nat} (h : rpn a b p n t) (hu : u < n) (K : uk a' b' p u t t) (S : 0 < t → ru_s (ru_U a' (uq p u)) (ru_V b' u)) (s4 : a' (uq p u + 6) 4 = a (uq p u + 6) 4) (s7 : a' (uq p u + 6) 7 = a (uq p u + 6) 7) (hA : fr_C a a' (uq p u)) (hB : fr_M b b' u) (hd : b' 1 (353 * u + 0) = b 1 (353 * u + 0) ∨ t = 0) : rpn a' b' p n t := by
  obtain ⟨h1, h2, h3, h4, h5, h6, h7, h8, h9, h10, h11, h12, h13, h14, h15⟩ := h
  refine ⟨h1, h2, ?_, ?_, ?_, ?_, ?_, ?_, ?_, fun j hj => ?_, fun i g1 g2 => ?_, fun v hv => ?_, fun ht v hv => ?_, fun v hv => ?_, ?_, ?_⟩
  · rw [hA _ _ (by dsimp only [uq]; omega)]; exact h3
  · rw [hB _ _ (by omega)]; exact h4
  · rw [hA _ _ (by dsimp only [uq]; omega)]; exact h5
  · rw [hB _ _ (by omega)]; exact h6
  · rw [hA _ _ (by dsimp only [uq]; omega), hB _ _ (by omega)]; exact h7
  · rw [hA _ _ (by dsimp only [uq]; omega), hB _ _ (by omega)]; exact h8
  · refine rp_sp_same h9 (fun s _ _ => hA _ _ (by dsimp only [uq]; omega)) (fun k _ _ => hB _ _ (by omega)) ?_
    rcases hd with hd | hd
    · refine Or.inl (wy_cong fun k _ _ => ?_)
      by_cases e : k = u
      · subst e; exact hd
      · exact hB _ _ (by omega)
    · exact Or.inr hd
  · rw [hA _ _ (by dsimp only [uq]; omega), hB _ _ (by omega)]; exact h10 j hj
  · rw [hA _ _ (by dsimp only [uq]; omega), hB _ _ (by omega)]; exact h11 i g1 g2
  · by_cases e : v = u
    · subst e; exact K
    · exact uk_fr (h12 v hv) e hA hB
  · by_cases e : v = u
    · subst e; exact S ht
    · exact ru_s_same (h13 ht v hv) (fun j s hj => hA _ _ (by dsimp only [uq]; omega)) (fun k hk => hB _ _ (by omega))
  · by_cases e : v = u
    · subst e; rw [s4]; exact h14 v hv
    · rw [hA _ _ (by dsimp only [uq]; omega)]; exact h14 v hv
  · by_cases e : 0 = u
    · subst e; rw [s4]; exact h15.1
    · rw [hA _ _ (by dsimp only [uq]; omega)]; exact h15.1
  · by_cases e : 0 = u
    · subst e; rw [s7]; exact h15.2
    · rw [hA _ _ (by dsimp only [uq]; omega)]; exact h15.2
/-- a saved row of the model -/
def bs (b : pr_M) (k : Nat) : pr_M := fun _ j => b 3 (1906 * k + j)
def pd (a b : pr_M) : Prop := ∃ len, len ≤ 80 ∧ a 199 1 = nI len ∧ b 0 5 = nI len ∧ ∀ i, i < len → a 200 i = b 5 i ∧ ∃ c, 33 ≤ c ∧ c ≤ 126 ∧ b 5 i = nI c
def sl (a b : pr_M) (c p k : Nat) : Prop := a c 1 = b 4 k ∧ (b 4 k = 0 ∨ b 4 k = 1) ∧ (b 4 k = 1 → ∃ t, t ≤ 100000 ∧ rp a (bs b k) p t)
/-- class and model are one state -/
def rr (a b : pr_M) : Prop := (∃ t, t ≤ 100000 ∧ rp a b 1 t) ∧ sl a b 99 100 0 ∧ sl a b 149 150 1 ∧ pd a b
theorem pd_same {a a' b b' : pr_M} (h : pd a b) (hA : ∀ c s, 199 ≤ c → a' c s = a c s) (hB : ∀ c k, c ≠ 1 → b' c k = b c k) : pd a' b' := by
  obtain ⟨len, h1, h2, h3, h4⟩ := h
  refine ⟨len, h1, by rw [hA _ _ (by omega)]; exact h2, by rw [hB _ _ (by omega)]; exact h3, fun i hi => ?_⟩
  rw [hA _ _ (by omega), hB _ _ (by omega)]; exact h4 i hi
theorem sl_same {a a' b b' : pr_M} {c p k : Nat} (hk : k < 2) (h : sl a b c p k) (hc : ∀ s, a' c s = a c s) (hA : ∀ c s, p ≤ c → c < p + 49 → a' c s = a c s) (hB3 : ∀ j, j < 3812 → b' 3 j = b 3 j) (hB4 : b' 4 k = b 4 k) : sl a' b' c p k := by
  obtain ⟨h1, h2, h3⟩ := h
  refine ⟨by rw [hc, hB4]; exact h1, by rw [hB4]; exact h2, fun e => ?_⟩
  rw [hB4] at e
  obtain ⟨t, ht, n, hn⟩ := h3 e
  exact ⟨t, ht, rp_of (rpn_same (b := bs b k) hn hA (fun j hj => hB3 _ (by omega)))⟩
/-- a call that keeps to the running press and the model's row -/
theorem rr_press {a a' b b' : pr_M} {t : Nat} (h : rr a b) (ht : t ≤ 100000) (hp : rp a' b' 1 t) (hA : ∀ c s, 50 ≤ c → a' c s = a c s) (hB : ∀ c k, c ≠ 1 → b' c k = b c k) : rr a' b' :=
  ⟨⟨t, ht, hp⟩, sl_same (by decide) h.2.1 (fun s => hA _ _ (by decide)) (fun c s h1 _ => hA _ _ (by omega)) (fun j _ => hB _ _ (by decide)) (hB _ _ (by decide)), sl_same (by decide) h.2.2.1 (fun s => hA _ _ (by decide)) (fun c s h1 _ => hA _ _ (by omega)) (fun j _ => hB _ _ (by decide)) (hB _ _ (by decide)), pd_same h.2.2.2 (fun c s h1 => hA _ _ (by omega)) hB⟩
theorem lc_u {u : Nat} (hu : u < 5) : pr_LC[1 + 1 + 3 + 9 * u]? = some (7, 0) := by
  have key : ∀ u, u < 5 → pr_LC[1 + 1 + 3 + 9 * u]? = some (7, 0) := by decide +kernel
  exact key u hu
theorem ri_neg1 {n : Nat} (h : 1 ≤ n) : nI n - 1 = nI (n - 1) := by
  obtain ⟨j, rfl⟩ : ∃ j, n = j + 1 := ⟨n - 1, by omega⟩
  exact nI_pred j
/-- both sides find the unit, or neither does -/
theorem ap_unit {a b : pr_M} {n t : Nat} (h : rpn a b 1 n t) (x : Int32) : (∃ u, u < n ∧ u < 5 ∧ x = nI u ∧ F_X3_unitAt (0 + 1) x a = some (some (1 + 1 + 3 + 9 * u)) ∧ F_X9_isUnit 0 x b = some 1) ∨ (F_X3_unitAt (0 + 1) x a = some none ∧ F_X9_isUnit 0 x b = some 0 ∧ (x < 0 ∨ nI n ≤ x)) := by
  obtain ⟨h1, h2, h3, h4, -⟩ := h
  have hM : F_X9_isUnit 0 x b = some (if x < 0 then 0 else if nI (n - 1) < x then 0 else 1) := by
    unfold F_X9_isUnit
    rw [rm_in, pr_b1_s, Nat.zero_add, ri_cl_1766, h4, ri_neg1 (by omega)]
    unfold pr_gd
    rw [if_pos]
    by_cases c1 : x < 0
    · rw [if_pos c1]; exact Or.inl rfl
    · rw [if_neg c1]
      by_cases c2 : nI (n - 1) < x
      · rw [if_pos c2]; exact Or.inl rfl
      · rw [if_neg c2]; exact Or.inr rfl
  rw [hM]
  unfold F_X3_unitAt
  rw [Nat.zero_add, h3]
  by_cases c1 : x < 0
  · rw [if_pos c1, if_pos c1]
    exact Or.inr ⟨rfl, rfl, Or.inl c1⟩
  · rw [if_neg c1, if_neg c1]
    obtain ⟨u, hu, rfl⟩ := nI_of c1
    by_cases c2 : u < n
    · rw [if_neg (nI_ge c2 (by omega)), ri_ug (by omega), ri_cl hu, if_neg (nI_nlt (by omega) (by omega))]
      exact Or.inl ⟨u, c2, by omega, rfl, rfl, rfl⟩
    · rw [if_pos (nI_le (by omega) hu), if_pos (nI_lt (by omega) hu)]
      exact Or.inr ⟨rfl, rfl, Or.inr (nI_le (by omega) hu)⟩
/-- what a call owes: both sides answer, alike, and stay one state -/
abbrev owe (C : Option (Int32 × pr_M)) (M : Option (Int32 × pr_M)) : Prop := ∃ r a' b', C = some (r, a') ∧ M = some (r, b') ∧ rr a' b'
theorem owe_same {a b : pr_M} (h : rr a b) (r : Int32) {C M : Option (Int32 × pr_M)} (h1 : C = some (r, a)) (h2 : M = some (r, b)) : owe C M := ⟨r, a, b, h1, h2, h⟩
theorem s_speed {a b : pr_M} (h : rr a b) (x : Int32) : owe (F_X8_speed 0 x a) (F_X9_speed 0 x b) := by
  obtain ⟨t, ht, n, hn⟩ := h.1
  unfold F_X8_speed F_X9_speed
  rw [rc_outside, rm_in, pr_b1_s, pr_b1_s]
  by_cases c1 : x < 0
  · rw [if_pos c1, if_pos c1, if_neg (by decide), if_pos rfl]
    exact owe_same h _ rfl rfl
  · rw [if_neg c1, if_neg c1]
    by_cases c2 : x ≤ 1000
    · rw [if_pos c2, if_neg (Int32.not_lt.mpr c2), if_pos rfl, if_neg (by decide), pr_lt_s, pr_lt_s, Nat.zero_add, ri_cl_1767]
      obtain ⟨h1, h2, h3, h4, h5, h6, h7, h8, h9, h10, h11, h12, h13, h14, h15⟩ := hn
      refine ⟨_, _, _, rfl, by rw [h7], rr_press h ht (rp_of (n := n) ⟨h1, h2, ?_, ?_, ?_, ?_, ?_, ?_, ?_, fun j hj => ?_, fun i g1 g2 => ?_, fun u hu => ?_, fun ht u hu => ?_, fun u hu => ?_, ?_⟩) (fun c s hc => rd_n (by omega)) (fun c s hc => rd_n (by omega))⟩
      · rw [rd_n (by omega)]; exact h3
      · rw [rd_n (by omega)]; exact h4
      · rw [rd_n (by omega)]; exact h5
      · rw [rd_n (by omega)]; exact h6
      · rw [rd_e ⟨rfl, rfl⟩, rd_e ⟨rfl, rfl⟩]
      · rw [rd_n (by omega), rd_n (by omega)]; exact h8
      · exact rp_sp_same h9 (fun s _ _ => rd_n (by omega)) (fun k _ _ => rd_n (by omega)) (Or.inl (wy_cong fun k _ _ => rd_n (by omega)))
      · rw [rd_n (by omega), rd_n (by omega)]; exact h10 j hj
      · rw [rd_n (by omega), rd_n (by omega)]; exact h11 i g1 g2
      · exact ru_k_same (h12 u hu) (fun j s hj => rd_n (by dsimp only [uq]; omega)) (fun k hk => rd_n (by omega))
      · exact ru_s_same (h13 ht u hu) (fun j s hj => rd_n (by dsimp only [uq]; omega)) (fun k hk => rd_n (by omega))
      · rw [rd_n (by dsimp only [uq]; omega)]; exact h14 u hu
      · rw [rd_n (by dsimp only [uq]; omega), rd_n (by dsimp only [uq]; omega)]; exact h15
    · rw [if_neg c2, if_pos (Int32.not_le.mp c2), if_neg (by decide), if_pos rfl]
      exact owe_same h _ rfl rfl
