/-! ===== learning; the whole of what a unit's sensor does in a repeat ===== -/
theorem rv_abs0 {d : Int32} (h : ¬ rv_abs d < 10) : ¬ d = 0 := by
  rintro rfl
  exact h (by decide)
theorem rc_learn (q : Nat) (d : Int32) (a : pr_M) : F_X7_learnFrom q d a = if ¬ rv_abs d < 10 ∧ 0 < a (q + 1) 8 then some (1, pr_up a (q + 5) 0 (rl_lim (a (q + 5) 0 + (a (q + 6) 8 - a (q + 5) 5) * 100 / d * a (q + 1) 8 / 256) 500)) else some (0, a) := by
  unfold F_X7_learnFrom
  rw [← rv_abs]
  by_cases h1 : rv_abs d < 10
  · rw [if_pos h1, if_neg (fun h => h.1 h1)]
  · rw [if_neg h1, if_neg (rv_abs0 h1), rc_set_8, pr_b1_s]
    by_cases h2 : 0 < a (q + 1) 8
    · rw [if_pos h2, if_pos ⟨h1, h2⟩, pr_b1_s, rc_limited, pr_b1_s, pr_lt_s]
    · rw [if_neg h2, if_neg (fun h => h2 h.2)]
theorem rm_learn {u s t : Nat} {b : pr_M} (hu : u < 5) (hs : b 1 (353 * u + 1) = nI s) (ht : t ≤ 200000) (hT : b 1 1765 = nI t) (hle : s ≤ t) : F_X9_learn 0 (nI u) b = if ¬ rv_abs (b 1 (1778 + (t - s) % 128)) < 10 ∧ 0 < b 1 (353 * u + 8) then some ((), pr_up (pr_up b 1 (353 * u + 14) (rl_lim (b 1 (353 * u + 14) + (b 1 (353 * u + 34) - b 1 (353 * u + 19)) * 100 / b 1 (1778 + (t - s) % 128) * b 1 (353 * u + 8) / 256) 500)) 1 1777 (b 1 1777 + 1)) else some ((), b) := by
  have hm : (t - s) % 128 < 128 := Nat.mod_lt _ (by decide)
  have e1 : nI t - nI s = nI (t - s) := pk_sub (by omega)
  have e3 : (1778 : Int32) + (nI (t - s) - nI (t - s) / 128 * 128) = nI (1778 + (t - s) % 128) := rm_ring (by omega) (N := 1778) (by decide) rfl
  have t1 : ¬ (1 : Int32) = 0 := by decide
  unfold F_X9_learn
  simp only [Nat.zero_add, rm_of_1 _ hu, pr_b1_s, hs, ri_cl_1765, hT, e1, e3]
  rw [pr_gd_i (show 1778 + (t - s) % 128 < 1906 by omega) (by decide), ri_cl (show 1778 + (t - s) % 128 < 2 ^ 31 by omega), rm_size', pr_b1_s]
  by_cases h1 : rv_abs (b 1 (1778 + (t - s) % 128)) < 10
  · rw [if_pos h1, if_neg (fun h => h.1 h1)]
  · rw [if_neg h1, rm_of_8 _ hu, pr_b1_s]
    by_cases h2 : b 1 (353 * u + 8) ≤ 0
    · rw [if_pos h2, if_neg (fun h => Int32.not_lt.mpr h2 h.2)]
    · rw [if_neg h2, if_pos ⟨h1, ri_pos h2⟩, rm_of_34 _ hu, pr_b1_s, rm_of_19 _ hu, pr_b1_s]
      unfold pr_gd
      rw [if_pos (rv_abs0 h1), pr_b1_s, rm_of_14 _ hu, pr_b1_s, rm_limited, pr_b1_s, rm_lay_14 _ _ hu, pr_bd_s, rm_tally_5, pr_bd_s]
      simp (disch := omega) only [rd_n, if_neg t1]
theorem op_learn {a b : pr_M} {p q u s t T : Nat} {m d : Int32} (hq : p + 4 ≤ q) (hu : u < 5) (K : ru_k (ru_U a q) (ru_V b u) t T) (hs : b 1 (353 * u + 1) = nI s) {tt : Nat} (ht : tt ≤ 200000) (hT : b 1 1765 = nI tt) (hle : s ≤ tt) (hd : b 1 (1778 + (tt - s) % 128) = d) (hm : a (q + 6) 8 = m) (hm2 : b 1 (353 * u + 34) = m) (hto : tot a b p) :
    ∃ a' b' r, (pr_bd (F_X7_learnFrom q d a) fun r2 f3 => if r2 = 0 then some ((), f3) else pr_lt (pr_up f3 (p + 3) (Int32.toNatClampNeg 5) ((f3 (p + 3) (Int32.toNatClampNeg 5)) + 1)) fun f61 => some ((), f61)) = some (r, a') ∧ F_X9_learn 0 (nI u) b = some ((), b') ∧ ru_k (ru_U a' q) (ru_V b' u) t T ∧ tot a' b' p ∧ (∀ s, a' (q + 6) s = a (q + 6) s) ∧ (∀ c j, (c ≠ 1 ∨ (j ≠ 353 * u + 14 ∧ j ≠ 1777)) → b' c j = b c j) ∧ (∀ c s, c ≠ q + 5 → c ≠ p + 3 → a' c s = a c s) := by
  have K9 := K
  obtain ⟨⟨a1, a2, ⟨a8, a9, a10, a11, a12, a13, a14⟩, a15⟩, hb, ⟨c1, c2, c3, c4⟩, ⟨kk, l1, l2, l3, l4⟩, hr, ho⟩ := K
  dsimp only [ru_U, ru_V, ru_b] at *
  have eM := rm_learn hu hs ht hT hle
  have eC := rc_learn q d a
  rw [hd, hm2] at eM
  rw [a8, hm, a13, a1 8 (by decide)] at eC
  by_cases h : ¬ rv_abs d < 10 ∧ 0 < b 1 (353 * u + 8)
  · rw [if_pos h] at eC eM
    generalize rl_lim (b 1 (353 * u + 14) + (m - b 1 (353 * u + 19)) * 100 / d * b 1 (353 * u + 8) / 256) 500 = F at eC eM
    refine ⟨_, _, (), by rw [eC, pr_bd_s, if_neg (by decide), pr_lt_s], eM, ⟨⟨fun j hj => ?_, ?_, ?_, ?_⟩, fun h => ?_, ⟨?_, ?_, ?_, ?_⟩, ⟨kk, ?_, ?_, l3, fun j h1 h2 => ?_⟩, fun i h1 h2 => ?_, fun hT => ?_⟩, fun j hj => ?_, fun s => ?_, fun c j h => ?_, fun c s h h2 => ?_⟩ <;> (try dsimp only [ru_U, ru_V])
    · simp (disch := omega) only [rd_n]; exact a1 j hj
    · simp (disch := omega) only [rd_n]; exact a2
    · simp (disch := omega) only [rd_n, rd_e]; exact ⟨trivial, a9, a10, a11, a12, a13, a14⟩
    · simp (disch := omega) only [rd_n]; exact a15
    · dsimp only [ru_U, ru_V] at h; simp (disch := omega) only [rd_n] at h ⊢; exact hb h
    · simp (disch := omega) only [rd_n]; exact c1
    · simp (disch := omega) only [rd_n]; exact c2
    · simp (disch := omega) only [rd_n]; exact c3
    · simp (disch := omega) only [rd_n]; exact c4
    · simp (disch := omega) only [rd_n]; exact l1
    · simp (disch := omega) only [rd_n]; exact l2
    · simp (disch := omega) only [rd_n]; exact l4 j h1 h2
    · simp (disch := omega) only [rd_n]; exact hr i h1 h2
    · simp (disch := omega) only [rd_n]; exact ho hT
    · rw [ri_cl_5]
      rcases (show j = 5 ∨ j ≠ 5 by omega) with rfl | h5
      · simp (disch := omega) only [rd_n, rd_e, hto 5 hj]
      · simp (disch := omega) only [rd_n]; exact hto j hj
    · simp (disch := omega) only [rd_n]
    · simp (disch := omega) only [rd_n]
    · simp (disch := omega) only [rd_n]
  · rw [if_neg h] at eC eM
    exact ⟨a, b, (), by rw [eC, pr_bd_s, if_pos rfl], eM, K9, hto, fun _ => rfl, fun _ _ _ => rfl, fun _ _ _ _ => rfl⟩
theorem rc_control2 {c p1 : Nat} {p2 : Int32} {f a' : pr_M} {r : Unit} (h : (pr_bd (F_X7_learnFrom p1 p2 f) fun r2 f3 => if r2 = 0 then some ((), f3) else pr_lt (pr_up f3 (c + 3) (Int32.toNatClampNeg 5) ((f3 (c + 3) (Int32.toNatClampNeg 5)) + 1)) fun f61 => some ((), f61)) = some (r, a')) : F_X3_control c p1 p2 f = rc_rest c p1 a' := by
  rw [rc_control]
  obtain ⟨r2, f3, h1, h2⟩ := pr_bd_some h
  rw [h1, pr_bd_s]
  by_cases h3 : r2 = 0
  · rw [if_pos h3] at h2 ⊢
    rw [(pr_inj h2).2]
  · rw [if_neg h3] at h2 ⊢
    rw [pr_lt_s] at h2 ⊢
    rw [(pr_inj h2).2]
/-- learning, expecting and correcting, one behind the other -/
theorem op_control {a b : pr_M} {p q u s t T : Nat} {m k d : Int32} (hq : p + 4 ≤ q) (hu : u < 5) (K : ru_k (ru_U a q) (ru_V b u) t T) (hs : b 1 (353 * u + 1) = nI s) {tt : Nat} (ht : tt ≤ 200000) (hT : b 1 1765 = nI tt) (hle : s ≤ tt) (hd : b 1 (1778 + (tt - s) % 128) = d) (hm : a (q + 6) 8 = m) (hm2 : b 1 (353 * u + 34) = m) (hk : a (q + 6) 9 = k) (hk2 : b 1 (353 * u + 35) = k) (hto : tot a b p) :
    ∃ a' b1 b2 b', F_X3_control p q d a = some ((), a') ∧ F_X9_learn 0 (nI u) b = some ((), b1) ∧ F_X9_expect 0 (nI u) b1 = some ((), b2) ∧ F_X9_correct 0 (nI u) b2 = some ((), b') ∧ ru_k (ru_U a' q) (ru_V b' u) t T ∧ tot a' b' p ∧ (∀ s, a' (q + 6) s = a (q + 6) s) ∧ (∀ j, 29 ≤ j → j < 353 → b' 1 (353 * u + j) = b 1 (353 * u + j)) ∧ fr_C2 a a' p q ∧ fr_M2 b b' u ∧ st_M b b' u := by
  obtain ⟨a1, b1, r, E1, E2, K1, to1, s1, hB1, hA1⟩ := op_learn hq hu K hs ht hT hle hd hm hm2 hto
  obtain ⟨a2, b2, E3, E4, K2, hA2, hB2⟩ := op_expect (m := m) (k := k) hu K1 (by rw [s1]; exact hm) (by rw [s1]; exact hk) (by rw [hB1 _ _ (by omega)]; exact hm2) (by rw [hB1 _ _ (by omega)]; exact hk2)
  have to2 : tot a2 b2 p := fun j hj => by rw [hA2 _ _ (by omega), hB2 _ _ (by omega)]; exact to1 j hj
  obtain ⟨a3, b3, E5, E6, K3, to3, s3, hB3, hA3, hM3, st3⟩ := op_corr (m := m) (k := k) hq hu K2 (by rw [hA2 _ _ (by omega), s1]; exact hm) (by rw [hA2 _ _ (by omega), s1]; exact hk) (by rw [hB2 _ _ (by omega), hB1 _ _ (by omega)]; exact hm2) (by rw [hB2 _ _ (by omega), hB1 _ _ (by omega)]; exact hk2) to2
  refine ⟨a3, b1, b2, b3, ?_, E2, E4, E6, K3, to3, fun s => ?_, fun j h1 h2 => ?_, fun c s h h2 => ?_, fun c k h => ?_, fun j hj => ?_⟩
  · rw [rc_control2 E1, rc_rest, E3, pr_bd_s]; exact E5
  · rw [s3, hA2 _ _ (by omega), s1]
  · rw [hB3 j h1 h2, hB2 _ _ (by omega), hB1 _ _ (by omega)]
  · rw [hA3 c s h h2, hA2 _ _ (by omega), hA1 _ _ (by omega) h2]
  · rw [hM3 c k h, hB2 _ _ (by omega), hB1 _ _ (by omega)]
  · rw [st3 j hj, hB2 _ _ (by omega), hB1 _ _ (by omega)]
