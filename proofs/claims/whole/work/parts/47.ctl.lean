/-! ===== learning, expecting, correcting: both sides ===== -/
def rc_corr (c : Nat) (p1 : Nat) (f7 : pr_M) : Option (Unit × pr_M) :=
    if (f7 (p1 + 5) 2) = 0 then (
      pr_b1 (F_X7_isOff p1 (f7 (p1 + 6) 8) f7) fun r12 =>
      pr_b1 (F_X7_isOff p1 (f7 (p1 + 6) 9) f7) fun r14 =>
      if r12 = 0 then (
        if r14 = 0 then (
          some ((), f7)
        ) else (
          pr_lt (pr_up f7 (p1 + 5) 7 0) fun f43 =>
          pr_bd (F_X7_correctSkew p1 f43) fun r47 f48 =>
          pr_lt (pr_up f48 (p1 + 5) 8 r47) fun f49 =>
          pr_b1 (F_X7_setting p1 1 f49) fun r52 =>
          pr_lt (pr_up f49 (p1 + 5) 2 (r52 + 1)) fun f53 =>
          pr_lt (pr_up f53 (c + 3) (Int32.toNatClampNeg 4) ((f53 (c + 3) (Int32.toNatClampNeg 4)) + 1)) fun f58 =>
          some ((), f58)
        )
      ) else (
        pr_bd (F_X7_correctPhase p1 f7) fun r18 f19 =>
        pr_lt (pr_up f19 (p1 + 5) 7 r18) fun f20 =>
        pr_bd (α := Int32) (
          if r14 = 0 then (
            some (0, f20)
          ) else (
            pr_bd (F_X7_correctSkew p1 f20) fun r26 f27 =>
            some (r26, f27)
          )
        ) fun v22 f23 =>
        pr_lt (pr_up f23 (p1 + 5) 8 v22) fun f28 =>
        pr_b1 (F_X7_setting p1 1 f28) fun r31 =>
        pr_lt (pr_up f28 (p1 + 5) 2 (r31 + 1)) fun f32 =>
        pr_lt (pr_up f32 (c + 3) (Int32.toNatClampNeg 3) ((f32 (c + 3) (Int32.toNatClampNeg 3)) + 1)) fun f36 =>
        if r14 = 0 then (
          some ((), f36)
        ) else (
          pr_lt (pr_up f36 (c + 3) (Int32.toNatClampNeg 4) ((f36 (c + 3) (Int32.toNatClampNeg 4)) + 1)) fun f39 =>
          some ((), f39)
        )
      )
    ) else (
      some ((), f7)
    )
def rc_rest (c : Nat) (p1 : Nat) (f65 : pr_M) : Option (Unit × pr_M) := pr_bd (F_X7_expectAsMeasured p1 f65) fun _ f7 => rc_corr c p1 f7
theorem rc_control (c p1 : Nat) (p2 : Int32) (f : pr_M) : F_X3_control c p1 p2 f = pr_bd (F_X7_learnFrom p1 p2 f) fun r2 f3 => if r2 = 0 then rc_rest c p1 f3 else pr_lt (pr_up f3 (c + 3) (Int32.toNatClampNeg 5) ((f3 (c + 3) (Int32.toNatClampNeg 5)) + 1)) fun f61 => rc_rest c p1 f61 := rfl
theorem rc_isOff (q : Nat) (x : Int32) (a : pr_M) : F_X7_isOff q x a = some (if rv_abs x ≤ a (q + 1) 6 then 0 else 1) := by
  unfold F_X7_isOff rv_abs
  rw [rc_set_6, pr_b1_s]
  generalize (if 0 ≤ x then x else 0 - x) = y
  by_cases h : y ≤ a (q + 1) 6
  · rw [if_pos h, if_pos h]
  · rw [if_neg h, if_neg h]
def rv_sum (s m : Int32) : Int32 := rl_lim (s + m) 20000
def rv_ph (ph g sg st s m : Int32) : Int32 := rl_lim (ph + rl_lim ((-(g * m + sg * s)) / 256) st) 5000
def rv_sk (sk g st m : Int32) : Int32 := rl_lim (sk + rl_lim ((-(g * m)) / 256) st) 3000
theorem rc_cp (q : Nat) (a : pr_M) : F_X7_correctPhase q a = some (rv_ph (a (q + 2) 2) (a (q + 1) 4) (a (q + 1) 5) (a (q + 1) 7) (rv_sum (a (q + 5) 1) (a (q + 6) 8)) (a (q + 6) 8) - a (q + 2) 2, pr_up (pr_up a (q + 5) 1 (rv_sum (a (q + 5) 1) (a (q + 6) 8))) (q + 2) 2 (rv_ph (a (q + 2) 2) (a (q + 1) 4) (a (q + 1) 5) (a (q + 1) 7) (rv_sum (a (q + 5) 1) (a (q + 6) 8)) (a (q + 6) 8))) := by
  unfold F_X7_correctPhase
  simp (disch := omega) only [rc_limited, rc_set_4, rc_set_5, rc_set_7, pr_b1_s, pr_lt_s, rd_n, rd_e]
  rw [rv_ph, rv_sum]
theorem rc_cs (q : Nat) (a : pr_M) : F_X7_correctSkew q a = some (rv_sk (a (q + 2) 3) (a (q + 1) 4) (a (q + 1) 7) (a (q + 6) 9) - a (q + 2) 3, pr_up a (q + 2) 3 (rv_sk (a (q + 2) 3) (a (q + 1) 4) (a (q + 1) 7) (a (q + 6) 9))) := by
  have e2 : ∀ sk g st m, rl_lim (sk + rl_lim ((-(g * m)) / 256) st) 3000 = rv_sk sk g st m := fun _ _ _ _ => rfl
  unfold F_X7_correctSkew
  simp (disch := omega) only [rc_limited, rc_set_4, rc_set_7, pr_b1_s, pr_lt_s, rd_n, rd_e, e2]
/-- a step of one unit that may count in the totals -/
def fr_C2 (a a' : pr_M) (p q : Nat) : Prop := ∀ c s, (c < q ∨ q + 9 ≤ c) → c ≠ p + 3 → a' c s = a c s
def tot (a b : pr_M) (p : Nat) : Prop := ∀ j, j < 6 → a (p + 3) j = b 1 (1772 + j)
theorem op_expect {a b : pr_M} {q u t T : Nat} {m k : Int32} (hu : u < 5) (K : ru_k (ru_U a q) (ru_V b u) t T) (hm : a (q + 6) 8 = m) (hk : a (q + 6) 9 = k) (hm2 : b 1 (353 * u + 34) = m) (hk2 : b 1 (353 * u + 35) = k) :
    ∃ a' b', F_X7_expectAsMeasured q a = some ((), a') ∧ F_X9_expect 0 (nI u) b = some ((), b') ∧ ru_k (ru_U a' q) (ru_V b' u) t T ∧ (∀ c s, c ≠ q + 5 → a' c s = a c s) ∧ (∀ c j, (c ≠ 1 ∨ (j ≠ 353 * u + 19 ∧ j ≠ 353 * u + 20)) → b' c j = b c j) := by
  obtain ⟨⟨a1, a2, ⟨a8, a9, a10, a11, a12, a13, a14⟩, a15⟩, hb, ⟨c1, c2, c3, c4⟩, ⟨kk, l1, l2, l3, l4⟩, hr, ho⟩ := K
  dsimp only [ru_U, ru_V, ru_b] at *
  have eC : F_X7_expectAsMeasured q a = some ((), pr_up (pr_up a (q + 5) 5 m) (q + 5) 6 k) := by
    unfold F_X7_expectAsMeasured
    simp (disch := omega) only [pr_lt_s, rd_n, hm, hk]
  have eM : F_X9_expect 0 (nI u) b = some ((), pr_up (pr_up b 1 (353 * u + 19) m) 1 (353 * u + 20) k) := by
    unfold F_X9_expect
    simp (disch := omega) only [rm_of_34 _ hu, rm_of_35 _ hu, rm_lay_19 _ _ hu, rm_lay_20 _ _ hu, pr_b1_s, pr_bd_s, rd_n, hm2, hk2]
  refine ⟨_, _, eC, eM, ⟨⟨fun j hj => ?_, ?_, ?_, ?_⟩, fun h => ?_, ⟨?_, ?_, ?_, ?_⟩, ⟨kk, ?_, ?_, l3, fun j h1 h2 => ?_⟩, fun i h1 h2 => ?_, fun hT => ?_⟩, fun c s h => ?_, fun c j h => ?_⟩
  · dsimp only [ru_U, ru_V]; simp (disch := omega) only [rd_n]; exact a1 j hj
  · dsimp only [ru_U, ru_V]; simp (disch := omega) only [rd_n]; exact a2
  · dsimp only [ru_U, ru_V]; simp (disch := omega) only [rd_n, rd_e]; exact ⟨a8, a9, a10, a11, a12, trivial, trivial⟩
  · dsimp only [ru_U, ru_V]; simp (disch := omega) only [rd_n]; exact a15
  · dsimp only [ru_U, ru_V] at h ⊢; simp (disch := omega) only [rd_n] at h ⊢; exact hb h
  · dsimp only [ru_U, ru_V]; simp (disch := omega) only [rd_n]; exact c1
  · dsimp only [ru_U, ru_V]; simp (disch := omega) only [rd_n]; exact c2
  · dsimp only [ru_U, ru_V]; simp (disch := omega) only [rd_n]; exact c3
  · dsimp only [ru_U, ru_V]; simp (disch := omega) only [rd_n]; exact c4
  · dsimp only [ru_U, ru_V]; simp (disch := omega) only [rd_n]; exact l1
  · dsimp only [ru_U, ru_V]; simp (disch := omega) only [rd_n]; exact l2
  · dsimp only [ru_U, ru_V]; simp (disch := omega) only [rd_n]; exact l4 j h1 h2
  · dsimp only [ru_U, ru_V]; simp (disch := omega) only [rd_n]; exact hr i h1 h2
  · dsimp only [ru_U, ru_V]; simp (disch := omega) only [rd_n]; exact ho hT
  · simp (disch := omega) only [rd_n]
  · simp (disch := omega) only [rd_n]
theorem rm_size' (x : Int32) (b : pr_M) : F_X9_size x b = some (rv_abs x) := by rw [rm_size, rv_abs]
theorem rm_if01 {p : Prop} [Decidable p] {x y : Int32} : (if p then some x else some y) = some (if p then x else y) := by
  by_cases h : p
  · rw [if_pos h, if_pos h]
  · rw [if_neg h, if_neg h]
set_option maxHeartbeats 4000000 in
theorem op_corr {a b : pr_M} {p q u t T : Nat} {m k : Int32} (hq : p + 4 ≤ q) (hu : u < 5) (K : ru_k (ru_U a q) (ru_V b u) t T) (hm : a (q + 6) 8 = m) (hk : a (q + 6) 9 = k) (hm2 : b 1 (353 * u + 34) = m) (hk2 : b 1 (353 * u + 35) = k) (ht : tot a b p) :
    ∃ a' b', rc_corr p q a = some ((), a') ∧ F_X9_correct 0 (nI u) b = some ((), b') ∧ ru_k (ru_U a' q) (ru_V b' u) t T ∧ tot a' b' p ∧ (∀ s, a' (q + 6) s = a (q + 6) s) ∧ (∀ j, 29 ≤ j → j < 353 → b' 1 (353 * u + j) = b 1 (353 * u + j)) ∧ fr_C2 a a' p q ∧ fr_M2 b b' u ∧ st_M b b' u := by
  have K9 := K
  obtain ⟨⟨a1, ⟨a2, a3, a4, a5, a6, a7⟩, ⟨a8, a9, a10, a11, a12, a13, a14⟩, ⟨a15, a16, a17⟩⟩, hb, ⟨c1, ⟨s, c2, c2', c2''⟩, ⟨w, c3, c3'⟩, c4⟩, ⟨kk, l1, l2, l3, l4⟩, hr, ho⟩ := K
  dsimp only [ru_U, ru_V, ru_b] at *
  by_cases hw : w = 0
  · subst hw
    have n0 : nI 0 = 0 := rfl
    have z0 : (nI 0 : Int32) ≤ 0 := by decide
    have t1 : ¬ (1 : Int32) = 0 := by decide
    have g4 := a1 4 (by decide)
    have g5 := a1 5 (by decide)
    have g6 := a1 6 (by decide)
    have g7 := a1 7 (by decide)
    have g1 := a1 1 (by decide)
    have main : (rc_corr p q a = some ((), a) ∧ F_X9_correct 0 (nI u) b = some ((), b)) ∨ ∃ a' b', rc_corr p q a = some ((), a') ∧ F_X9_correct 0 (nI u) b = some ((), b') ∧
        (a' (q + 2) 2 = b' 1 (353 * u + 11)) ∧ (a' (q + 2) 3 = b' 1 (353 * u + 12)) ∧ (a' (q + 5) 1 = b' 1 (353 * u + 15)) ∧ (a' (q + 5) 2 = nI (s + 1) ∧ b' 1 (353 * u + 16) = nI (s + 1)) ∧ (a' (q + 5) 7 = b' 1 (353 * u + 27)) ∧ (a' (q + 5) 8 = b' 1 (353 * u + 28)) ∧ (a' (p + 3) 3 = b' 1 1775) ∧ (a' (p + 3) 4 = b' 1 1776) ∧
        (∀ c s, (c ≠ q + 2 ∨ (s ≠ 2 ∧ s ≠ 3)) → (c ≠ q + 5 ∨ (s ≠ 1 ∧ s ≠ 2 ∧ s ≠ 7 ∧ s ≠ 8)) → (c ≠ p + 3 ∨ (s ≠ 3 ∧ s ≠ 4)) → a' c s = a c s) ∧
        (∀ c j, (c ≠ 1 ∨ (j ≠ 353 * u + 11 ∧ j ≠ 353 * u + 12 ∧ j ≠ 353 * u + 15 ∧ j ≠ 353 * u + 16 ∧ j ≠ 353 * u + 27 ∧ j ≠ 353 * u + 28 ∧ j ≠ 1775 ∧ j ≠ 1776)) → b' c j = b c j) := by
      have t3 := ht 3 (by decide)
      have t4 := ht 4 (by decide)
      by_cases hP : rv_abs m ≤ b 1 (353 * u + 6) <;> by_cases hQ : rv_abs k ≤ b 1 (353 * u + 6)
      · left
        constructor
        · unfold rc_corr
          simp only [a10, c3, n0, if_true, rc_isOff, hm, hk, g6, if_pos hP, if_pos hQ, pr_b1_s]
        · unfold F_X9_correct
          simp only [rm_of_16 _ hu, pr_b1_s, c3, if_pos z0, rm_of_34 _ hu, rm_of_35 _ hu, rm_size', rm_of_6 _ hu, hm2, hk2]
          simp only [if_pos hP, if_pos hQ, pr_b1_s, rm_of_11 _ hu, rm_of_12 _ hu, if_true]
      · right
        refine ⟨?_, ?_, ?_, ?_, ?_⟩
        rotate_left 2
        · unfold rc_corr
          simp (disch := omega) only [a10, c3, n0, if_true, rc_isOff, hm, hk, g6, if_pos hP, if_neg hQ, if_neg t1, pr_b1_s, pr_lt_s, rc_cs, pr_bd_s, rd_n, rd_e, rc_set_1, ri_cl_4, g1, g4, g7, a3, c2, nI_1]
          exact rfl
        · unfold F_X9_correct
          simp only [rm_of_16 _ hu, pr_b1_s, c3, if_pos z0, rm_of_34 _ hu, rm_of_35 _ hu, rm_size', rm_of_6 _ hu, hm2, hk2]
          simp (disch := omega) only [if_pos hP, if_neg hQ, if_neg t1, pr_b1_s, rm_of_11 _ hu, rm_of_12 _ hu, if_true, rm_of_4 _ hu, rm_of_7 _ hu, rm_of_1 _ hu, rm_limited, rm_lay_12 _ _ hu, rm_lay_27 _ _ hu, rm_lay_28 _ _ hu, rm_lay_16 _ _ hu, pr_bd_s, rm_tally_4, rd_n, rd_e, c2, nI_1]
          exact rfl
        refine ⟨?_, ?_, ?_, ⟨?_, ?_⟩, ?_, ?_, ?_, ?_, fun c s h1 h2 h3 => ?_, fun c j h => ?_⟩ <;> simp (disch := omega) only [rd_n, rd_e, a2, a3, a9, t3, t4, rv_sk, Int32.sub_self]
      · right
        refine ⟨?_, ?_, ?_, ?_, ?_⟩
        rotate_left 2
        · unfold rc_corr
          simp (disch := omega) only [a10, c3, n0, if_true, rc_isOff, hm, hk, g6, if_neg hP, if_pos hQ, if_neg t1, pr_b1_s, pr_lt_s, rc_cp, pr_bd_s, rd_n, rd_e, rc_set_1, ri_cl_3, g1, g4, g5, g7, a2, a9, c2, nI_1]
          exact rfl
        · unfold F_X9_correct
          simp only [rm_of_16 _ hu, pr_b1_s, c3, if_pos z0, rm_of_34 _ hu, rm_of_35 _ hu, rm_size', rm_of_6 _ hu, hm2, hk2]
          simp (disch := omega) only [if_neg hP, if_pos hQ, if_neg t1, pr_b1_s, rm_of_11 _ hu, rm_of_12 _ hu, if_true, rm_of_4 _ hu, rm_of_5 _ hu, rm_of_7 _ hu, rm_of_1 _ hu, rm_of_15 _ hu, rm_limited, rm_lay_11 _ _ hu, rm_lay_15 _ _ hu, rm_lay_27 _ _ hu, rm_lay_28 _ _ hu, rm_lay_16 _ _ hu, pr_bd_s, rm_tally_3, rd_n, rd_e, c2, nI_1]
          exact rfl
        refine ⟨?_, ?_, ?_, ⟨?_, ?_⟩, ?_, ?_, ?_, ?_, fun c s h1 h2 h3 => ?_, fun c j h => ?_⟩ <;> simp (disch := omega) only [rd_n, rd_e, a2, a3, a9, t3, t4, rv_ph, rv_sum, if_neg t1, Int32.sub_self]
      · right
        refine ⟨?_, ?_, ?_, ?_, ?_⟩
        rotate_left 2
        · unfold rc_corr
          simp (disch := omega) only [a10, c3, n0, if_true, rc_isOff, hm, hk, g6, if_neg hP, if_neg hQ, if_neg t1, pr_b1_s, pr_lt_s, rc_cp, rc_cs, pr_bd_s, rd_n, rd_e, rc_set_1, ri_cl_3, ri_cl_4, g1, g4, g5, g7, a2, a3, a9, c2, nI_1]
          exact rfl
        · unfold F_X9_correct
          simp only [rm_of_16 _ hu, pr_b1_s, c3, if_pos z0, rm_of_34 _ hu, rm_of_35 _ hu, rm_size', rm_of_6 _ hu, hm2, hk2]
          simp (disch := omega) only [if_neg hP, if_neg hQ, if_neg t1, pr_b1_s, rm_of_11 _ hu, rm_of_12 _ hu, if_true, rm_of_4 _ hu, rm_of_5 _ hu, rm_of_7 _ hu, rm_of_1 _ hu, rm_of_15 _ hu, rm_limited, rm_lay_11 _ _ hu, rm_lay_12 _ _ hu, rm_lay_15 _ _ hu, rm_lay_27 _ _ hu, rm_lay_28 _ _ hu, rm_lay_16 _ _ hu, pr_bd_s, rm_tally_3, rm_tally_4, rd_n, rd_e, c2, nI_1]
          exact rfl
        refine ⟨?_, ?_, ?_, ⟨?_, ?_⟩, ?_, ?_, ?_, ?_, fun c s h1 h2 h3 => ?_, fun c j h => ?_⟩ <;> simp (disch := omega) only [rd_n, rd_e, a2, a3, a9, t3, t4, rv_ph, rv_sk, rv_sum, if_neg t1, Int32.sub_self]
    rcases main with ⟨E1, E2⟩ | ⟨a', b', E1, E2, m1, m2, m3, ⟨m4, m5⟩, m6, m7, m8, m9, hA, hB⟩
    · exact ⟨a, b, E1, E2, K9, ht, fun _ => rfl, fun _ _ _ => rfl, fun _ _ _ _ => rfl, fun _ _ _ => rfl, fun _ _ => rfl⟩
    · refine ⟨a', b', E1, E2, ⟨⟨fun j hj => ?_, ?_, ?_, ?_⟩, fun h => ?_, ⟨?_, ?_, ?_, ?_⟩, ⟨kk, ?_, ?_, l3, fun j h1 h2 => ?_⟩, fun i h1 h2 => ?_, fun hT => ?_⟩, fun j hj => ?_, fun s => ?_, fun j h1 h2 => ?_, fun c s h h2 => ?_, fun c k h => ?_, fun j hj => hB _ _ (by omega)⟩ <;> (try dsimp only [ru_U, ru_V])
      · simp (disch := omega) only [hA, hB]; exact a1 j hj
      · rw [m1, m2]; simp (disch := omega) only [hA, hB]; exact ⟨trivial, trivial, a4, a5, a6, a7⟩
      · rw [m3, m4, m5]; simp (disch := omega) only [hA, hB]; exact ⟨a8, trivial, trivial, a11, a12, a13, a14⟩
      · simp (disch := omega) only [hA, hB]; exact ⟨a15, a16, a17⟩
      · exact ⟨m6, m7⟩
      · simp (disch := omega) only [hB]; exact c1
      · simp (disch := omega) only [hB]; exact ⟨s, c2, c2', c2''⟩
      · exact ⟨s + 1, m5, by omega⟩
      · simp (disch := omega) only [hB]; exact c4
      · simp (disch := omega) only [hA]; exact l1
      · simp (disch := omega) only [hB]; exact l2
      · simp (disch := omega) only [hA, hB]; exact l4 j h1 h2
      · simp (disch := omega) only [hA, hB]; exact hr i h1 h2
      · simp (disch := omega) only [hB]; exact ho hT
      · rcases (show j = 3 ∨ j = 4 ∨ (j ≠ 3 ∧ j ≠ 4) by omega) with rfl | rfl | hj2
        · exact m8
        · exact m9
        · rw [hA _ _ (by omega) (by omega) (by omega), hB _ _ (by omega)]; exact ht j hj
      · exact hA _ _ (by omega) (by omega) (by omega)
      · exact hB _ _ (by omega)
      · exact hA _ _ (by omega) (by omega) (by omega)
      · exact hB _ _ (by omega)
  · have n1 : ¬ nI w ≤ 0 := nI_nle (by omega) (by omega)
    have n2 : ¬ nI w = 0 := nI_ne0 (by omega) (by omega)
    refine ⟨a, b, ?_, ?_, K9, ht, fun _ => rfl, fun _ _ _ => rfl, fun _ _ _ _ => rfl, fun _ _ _ => rfl, fun _ _ => rfl⟩
    · unfold rc_corr
      simp only [a10, c3, if_neg n2]
    · unfold F_X9_correct
      simp only [rm_of_16 _ hu, pr_b1_s, c3, if_neg n1]
