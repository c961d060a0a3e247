/-! ===== the end of a repeat, for one unit ===== -/
def ri_less (x : Int32) : Int32 := if x ≤ 0 then 0 else x - 1
theorem rm_dec_16 {u : Nat} (b : pr_M) (hu : u < 5) : F_X9_decrease 0 (nI u) 16 b = some ((), pr_up b 1 (353 * u + 16) (ri_less (b 1 (353 * u + 16)))) := by
  unfold F_X9_decrease ri_less
  simp only [rm_of_16 _ hu, pr_b1_s]
  by_cases h : b 1 (353 * u + 16) ≤ 0
  · simp only [if_pos h, pr_b1_s, rm_lay_16 _ _ hu, pr_bd_s]
  · simp only [if_neg h, pr_b1_s, rm_lay_16 _ _ hu, pr_bd_s]
theorem rm_dec_18 {u : Nat} (b : pr_M) (hu : u < 5) : F_X9_decrease 0 (nI u) 18 b = some ((), pr_up b 1 (353 * u + 18) (ri_less (b 1 (353 * u + 18)))) := by
  unfold F_X9_decrease ri_less
  simp only [rm_of_18 _ hu, pr_b1_s]
  by_cases h : b 1 (353 * u + 18) ≤ 0
  · simp only [if_pos h, pr_b1_s, rm_lay_18 _ _ hu, pr_bd_s]
  · simp only [if_neg h, pr_b1_s, rm_lay_18 _ _ hu, pr_bd_s]
theorem rm_dec_23 {u : Nat} (b : pr_M) (hu : u < 5) : F_X9_decrease 0 (nI u) 23 b = some ((), pr_up b 1 (353 * u + 23) (ri_less (b 1 (353 * u + 23)))) := by
  unfold F_X9_decrease ri_less
  simp only [rm_of_23 _ hu, pr_b1_s]
  by_cases h : b 1 (353 * u + 23) ≤ 0
  · simp only [if_pos h, pr_b1_s, rm_lay_23 _ _ hu, pr_bd_s]
  · simp only [if_neg h, pr_b1_s, rm_lay_23 _ _ hu, pr_bd_s]
theorem rm_dec_24 {u : Nat} (b : pr_M) (hu : u < 5) : F_X9_decrease 0 (nI u) 24 b = some ((), pr_up b 1 (353 * u + 24) (ri_less (b 1 (353 * u + 24)))) := by
  unfold F_X9_decrease ri_less
  simp only [rm_of_24 _ hu, pr_b1_s]
  by_cases h : b 1 (353 * u + 24) ≤ 0
  · simp only [if_pos h, pr_b1_s, rm_lay_24 _ _ hu, pr_bd_s]
  · simp only [if_neg h, pr_b1_s, rm_lay_24 _ _ hu, pr_bd_s]
theorem rm_dec_26 {u : Nat} (b : pr_M) (hu : u < 5) : F_X9_decrease 0 (nI u) 26 b = some ((), pr_up b 1 (353 * u + 26) (ri_less (b 1 (353 * u + 26)))) := by
  unfold F_X9_decrease ri_less
  simp only [rm_of_26 _ hu, pr_b1_s]
  by_cases h : b 1 (353 * u + 26) ≤ 0
  · simp only [if_pos h, pr_b1_s, rm_lay_26 _ _ hu, pr_bd_s]
  · simp only [if_neg h, pr_b1_s, rm_lay_26 _ _ hu, pr_bd_s]
theorem ri_less_pos {l d : Int32} (h : 0 < l → 0 < d) : 0 < ri_less l → 0 < d := by
  intro h1
  unfold ri_less at h1
  by_cases h2 : l ≤ 0
  · rw [if_pos h2] at h1; exact absurd h1 (by decide)
  · exact h (ri_pos h2)
theorem ri_less_w {w : Nat} (hw : w ≤ 11) : ∃ v, ri_less (nI w) = nI v ∧ v ≤ 11 ∧ v = w - 1 := by
  unfold ri_less
  by_cases h : w = 0
  · subst h; exact ⟨0, by decide, by omega, rfl⟩
  · refine ⟨w - 1, ?_, by omega, rfl⟩
    rw [if_neg (nI_nle (by omega) (by omega))]
    obtain ⟨v, rfl⟩ : ∃ v, w = v + 1 := ⟨w - 1, by omega⟩
    exact nI_pred v
theorem rc_less (x : Int32) (a : pr_M) : F_X8_lessOne x a = some (ri_less x) := rc_lessOne x a
theorem op_end {a b : pr_M} {q u t T : Nat} (hu : u < 5) (K : ru_k (ru_U a q) (ru_V b u) t T) :
    ∃ a' b', F_X7_endRepeat q a = some ((), a') ∧ F_X9_endRepeat 0 (nI u) b = some ((), b') ∧ ru_k (ru_U a' q) (ru_V b' u) t T ∧ (ru_s (ru_U a q) (ru_V b u) → ru_s (ru_U a' q) (ru_V b' u)) ∧ (ru_z (ru_V b u) → ru_z (ru_V b' u)) ∧ (∀ s, 4 ≤ s → a' (q + 6) s = a (q + 6) s) ∧ fr_C a a' q ∧ fr_M b b' u ∧ st_M b b' u := by
  obtain ⟨⟨a1, ⟨a2, a3, a4, a5, a6, a7⟩, ⟨a8, a9, a10, a11, a12, a13, a14⟩, ⟨a15, a16, a17⟩⟩, hb, ⟨c1, c2, ⟨w, c3, c3'⟩, c4⟩, ⟨k, l1, l2, l3, l4⟩, hr, ho⟩ := K
  dsimp only [ru_U, ru_V, ru_b] at *
  have hlw := ri_less_w c3'
  have main : ∃ (a' b' : pr_M), F_X7_endRepeat q a = some ((), a') ∧ F_X9_endRepeat 0 (nI u) b = some ((), b') ∧
      (∀ c s, (c ≠ q + 2 ∨ s ≠ 7) → (c ≠ q + 6 ∨ (s ≠ 1 ∧ s ≠ 3)) → (c ≠ q + 5 ∨ (s ≠ 2 ∧ s ≠ 4 ∧ s ≠ 5 ∧ s ≠ 6)) → a' c s = a c s) ∧
      (∀ c k, (c ≠ 1 ∨ (k ≠ 353 * u + 16 ∧ k ≠ 353 * u + 18 ∧ k ≠ 353 * u + 19 ∧ k ≠ 353 * u + 20 ∧ k ≠ 353 * u + 23 ∧ k ≠ 353 * u + 24 ∧ k ≠ 353 * u + 26)) → b' c k = b c k) ∧
      (a' (q + 2) 7 = ri_less (a (q + 2) 7) ∧ b' 1 (353 * u + 23) = ri_less (b 1 (353 * u + 23))) ∧ (a' (q + 6) 1 = ri_less (a (q + 6) 1) ∧ b' 1 (353 * u + 24) = ri_less (b 1 (353 * u + 24))) ∧ (a' (q + 6) 3 = ri_less (a (q + 6) 3) ∧ b' 1 (353 * u + 26) = ri_less (b 1 (353 * u + 26))) ∧
      (a' (q + 5) 2 = ri_less (nI w) ∧ b' 1 (353 * u + 16) = ri_less (nI w)) ∧ (a' (q + 5) 4 = ri_less (a (q + 5) 4) ∧ b' 1 (353 * u + 18) = ri_less (b 1 (353 * u + 18))) ∧ (a' (q + 5) 5 = b' 1 (353 * u + 19)) ∧ a' (q + 5) 6 = b' 1 (353 * u + 20) := by
    by_cases h0 : w = 0
    · subst h0
      have e0 : nI 0 ≤ 0 := by decide
      have el : ri_less (nI 0) = nI 0 := by decide
      refine ⟨?_, ?_, ?_, ?_, ?_⟩
      rotate_left 2
      · unfold F_X7_endRepeat F_X0_endRepeat
        simp only [a10, c3, if_pos e0, rc_less, pr_b1_s, pr_lt, pr_bd_s]
        rfl
      · unfold F_X9_endRepeat
        simp only [rm_of_16 _ hu, pr_b1_s, c3, if_pos e0, rm_dec_18 _ hu, rm_dec_23 _ hu, rm_dec_24 _ hu, rm_dec_26 _ hu, pr_bd_s]
        rfl
      refine ⟨fun c s h1 h2 h3 => ?_, fun c k h1 => ?_, ?_, ?_, ?_, ?_, ?_, ?_, ?_⟩ <;> simp (disch := omega) only [rd_n, rd_e, el, a10, c3, a13, a14, and_self]
    · have e0 : ¬ nI w ≤ 0 := nI_nle (by omega) (by omega)
      have el : ri_less (nI w) = nI w - 1 := if_neg e0
      by_cases h1 : w = 1
      · subst h1
        have hadd := hb (by rw [c3]; decide)
        have e1 : nI 1 - 1 = 0 := by decide
        refine ⟨?_, ?_, ?_, ?_, ?_⟩
        rotate_left 2
        · unfold F_X7_endRepeat F_X0_endRepeat
          simp (disch := omega) only [a10, c3, if_neg e0, pr_lt, rd_e, rd_n, e1, if_true, rc_less, pr_b1_s, pr_bd_s]
          rfl
        · unfold F_X9_endRepeat
          simp (disch := omega) only [rm_of_16 _ hu, pr_b1_s, c3, if_neg e0, rm_dec_16 _ hu, rd_e, el, e1, if_true, rm_of_19 _ hu, rm_of_27 _ hu, rm_lay_19 _ _ hu, rm_of_20 _ hu, rm_of_28 _ hu, rm_lay_20 _ _ hu, rm_dec_18 _ hu, rm_dec_23 _ hu, rm_dec_24 _ hu, rm_dec_26 _ hu, pr_bd_s]
          rfl
        refine ⟨fun c s h1 h2 h3 => ?_, fun c k h1 => ?_, ?_, ?_, ?_, ?_, ?_, ?_, ?_⟩ <;> simp (disch := omega) only [rd_n, rd_e, el, e1, a10, c3, a13, a14, hadd.1, hadd.2, and_self]
      · have e1 : ¬ nI w - 1 = 0 := by
          obtain ⟨v, rfl⟩ : ∃ v, w = v + 1 := ⟨w - 1, by omega⟩
          rw [nI_pred v]
          exact nI_ne0 (by omega) (by omega)
        refine ⟨?_, ?_, ?_, ?_, ?_⟩
        rotate_left 2
        · unfold F_X7_endRepeat F_X0_endRepeat
          simp (disch := omega) only [a10, c3, if_neg e0, pr_lt, rd_e, rd_n, if_neg e1, rc_less, pr_b1_s, pr_bd_s]
          rfl
        · unfold F_X9_endRepeat
          simp (disch := omega) only [rm_of_16 _ hu, pr_b1_s, c3, if_neg e0, rm_dec_16 _ hu, rd_e, el, if_neg e1, rm_dec_18 _ hu, rm_dec_23 _ hu, rm_dec_24 _ hu, rm_dec_26 _ hu, pr_bd_s]
          rfl
        refine ⟨fun c s h1 h2 h3 => ?_, fun c k h1 => ?_, ?_, ?_, ?_, ?_, ?_, ?_, ?_⟩ <;> simp (disch := omega) only [rd_n, rd_e, el, a10, c3, a13, a14, and_self]
  obtain ⟨a', b', E1, E2, hA, hB, ⟨m1, m2⟩, ⟨m3, m4⟩, ⟨m5, m6⟩, ⟨m7, m8⟩, ⟨m9, m10⟩, m11, m12⟩ := main
  have hA2 : ∀ s, 4 ≤ s → a' (q + 6) s = a (q + 6) s := fun s hs => hA _ _ (by omega) (by omega) (by omega)
  have hB2 : ∀ k, 29 ≤ k → k < 353 → b' 1 (353 * u + k) = b 1 (353 * u + k) := fun k h1 h2 => hB _ _ (by omega)
  obtain ⟨v, v1, v2, v3⟩ := hlw
  refine ⟨a', b', E1, E2, ⟨⟨fun j hj => ?_, ?_, ?_, ?_⟩, fun h => ?_, ⟨?_, ?_, ?_, ?_⟩, ⟨k, ?_, ?_, l3, fun j h1 h2 => ?_⟩, fun i h1 h2 => ?_, fun hT => ?_⟩, fun h => ?_, fun h => ?_, hA2, fun c s h => ?_, fun c k h => ?_, fun j hj => hB _ _ (by omega)⟩ <;> (try dsimp only [ru_U, ru_V] at *)
  · rw [hA _ _ (by omega) (by omega) (by omega), hB _ _ (by omega)]; exact a1 j hj
  · rw [m1, m2, a7]
    simp (disch := omega) only [hA, hB]
    exact ⟨a2, a3, a4, a5, a6, trivial⟩
  · rw [m7, m8, m9, m10, m11, m12, a12]
    simp (disch := omega) only [hA, hB]
    exact ⟨a8, a9, trivial, a11, trivial, trivial, trivial⟩
  · rw [m3, m4, m5, m6, a15, a17]
    simp (disch := omega) only [hA, hB]
    exact ⟨trivial, a16, trivial⟩
  · rw [m8, v1] at h
    simp (disch := omega) only [hA, hB]
    refine hb ?_
    rw [c3]
    refine nI_lt (a := 0) ?_ (by omega)
    have h5 : v ≠ 0 := by
      rintro rfl
      exact absurd h (by decide)
    omega
  · rw [hB _ _ (by omega)]; exact c1
  · rw [hB _ _ (by omega)]; exact c2
  · rw [m8, v1]; exact ⟨v, rfl, v2⟩
  · rw [m2, hB _ (353 * u + 22) (by omega)]; exact ri_less_pos c4
  · rw [hA _ _ (by omega) (by omega) (by omega)]; exact l1
  · rw [hB _ _ (by omega)]; exact l2
  · rw [hA _ _ (by omega) (by omega) (by omega), hB _ _ (by omega)]; exact l4 j h1 h2
  · rw [hA _ _ (by omega) (by omega) (by omega), hA _ _ (by omega) (by omega) (by omega), hB _ _ (by omega), hB _ _ (by omega)]; exact hr i h1 h2
  · rw [hB _ _ (by omega), hB _ _ (by omega), hB _ _ (by omega), hB _ _ (by omega)]; exact ho hT
  · unfold ru_s ru_z at *
    simp (disch := omega) only [hA2, hB2]
    exact h
  · unfold ru_z at *
    simp (disch := omega) only [hB2]
    exact h
  · exact hA _ _ (by omega) (by omega) (by omega)
  · exact hB _ _ (by omega)
