theorem ri_ss (a b c : Int32) : a - b - c = a - (b + c) := by
  rw [Int32.sub_eq_add_neg, Int32.sub_eq_add_neg, Int32.sub_eq_add_neg, Int32.neg_add, Int32.add_assoc, Int32.sub_eq_add_neg]
theorem ru_k_up {U : Nat → Nat → Int32} {V : Nat → Int32} {t T : Nat} (h : ru_k U V t T) : ru_k U V (t + 1) T := by
  obtain ⟨h1, h2, h3, ⟨k, l1, l2, l3, l4⟩, h5, h6⟩ := h
  exact ⟨h1, h2, h3, ⟨k, l1, l2, by omega, l4⟩, h5, h6⟩
theorem rm_isRec {b : pr_M} {u s t : Nat} {R : Int32} (hu1 : 1 ≤ u) (hu : u < 5) (h : wy_ok b u) (hs : b 1 (353 * u + 1) = nI s) (hs1 : s ≤ 10) (ht : t ≤ 200000) (hT : b 1 1765 = nI t) (hle : ¬ t < s + wy b u) (hR : b 1 (353 * u + 33) = R) :
    F_X9_isRecognized 0 (nI u) b = some (if R ≤ 0 then 0 else 1) := by
  unfold F_X9_isRecognized
  rw [rm_isSeen hu1 hu h hs hs1 ht hT, pr_b1_s, if_neg hle, if_neg (by decide), rm_of_33 _ hu, pr_b1_s, hR]
  by_cases c : R ≤ 0
  · rw [if_pos c, if_pos c]
  · rw [if_neg c, if_neg c]
set_option maxHeartbeats 4000000 in
theorem op_watch {a b : pr_M} {p u n t : Nat} (hu1 : 1 ≤ u) (hun : u < n) (hn5 : n ≤ 5) (hn : b 1 1766 = nI n) (hW : wy_ok b u) (ht : t ≤ 200000) (hTa : a p 4 = nI t) (hTb : b 1 1765 = nI t)
    (K : ru_k (ru_U a (p + 1 + 3 + 9 * u)) (ru_V b u) t (t + 1)) (K0 : ru_r (ru_U a (p + 1 + 3 + 9 * 0)) (ru_V b 0) (t + 1)) (Z : ru_z (ru_V b u)) (hch : ∀ i, i < 128 → i < t + 1 → a (p + 2) i = b 1 (1778 + i)) (hto : tot a b p) :
    ∃ a' b', F_X3_watchUnit p (p + 1 + 3 + 9 * u) (nI (wy b u)) a = some ((), a') ∧ (∀ N, L_X9_makeRepeat_69 0 (N + 1) (nI u) b = L_X9_makeRepeat_69 0 N (nI u + 1) b') ∧
      ru_k (ru_U a' (p + 1 + 3 + 9 * u)) (ru_V b' u) (t + 1) (t + 1) ∧ ru_s (ru_U a' (p + 1 + 3 + 9 * u)) (ru_V b' u) ∧ tot a' b' p ∧ fr_C2 a a' p (p + 1 + 3 + 9 * u) ∧ fr_M2 b b' u ∧ st_M b b' u ∧ (∀ s, b 1 (353 * u + 1) = nI s → s ≤ 10 → a' (p + 1 + 3 + 9 * u + 6) 4 = if t < s + wy b u then 0 else 1) := by
  have hu : u < 5 := by omega
  have hww := (wy_le hW).2
  obtain ⟨s, hs, hs0, hs1⟩ := K.2.2.1.2.1
  have ha1 := K.1.1 1 (by decide)
  obtain ⟨k36, l1, l2, l3, l4⟩ := K.2.2.2.1
  dsimp only [ru_U, ru_V] at hs ha1 l1 l2
  generalize hq : p + 1 + 3 + 9 * u = q at *
  have hpq : p + 4 ≤ q := by omega
  have hcN : ¬ nI n ≤ nI u := nI_ge hun (by omega)
  have hset : F_X7_setting q 1 a = some (nI s) := by rw [rc_set_1, ha1, hs]
  have hseen := rm_isSeen hu1 hu hW hs hs1 ht hTb
  by_cases hsee : t < s + wy b u
  · -- nothing is seen
    rw [if_pos hsee] at hseen
    have hneg : ¬ (0 : Int32) ≤ nI t - nI s - nI (wy b u) := by
      rw [ri_ss, nI_add]
      exact Int32.not_le.mpr (pk_sneg (by omega) hsee)
    have hrec : F_X9_isRecognized 0 (nI u) b = some 0 := by
      unfold F_X9_isRecognized
      rw [hseen, pr_b1_s, if_pos rfl]
    refine ⟨pr_up (pr_up a (q + 6) 4 0) (q + 6) 7 0, b, ?_, fun N => ?_, ?_, Or.inl ⟨?_, ?_, Z⟩, fun j hj => ?_, fun c s h h2 => ?_, fun _ _ _ => rfl, fun _ _ => rfl, fun s2 g1 g2 => ?_⟩
    · unfold F_X3_watchUnit
      rw [hset, pr_b1_s, hTa, if_neg hneg]
      unfold F_X5_seeNothing
      rw [pr_lt_s, pr_lt_s, pr_bd_s]
    · rw [L_X9_makeRepeat_69, Nat.zero_add, ri_cl_1766, hn, if_neg hcN, hseen, pr_b1_s, if_pos rfl, hrec, pr_b1_s, if_pos rfl]
    · obtain ⟨⟨a1, a2, a8, a9⟩, hb, ⟨c1, c2, c3, c4⟩, ⟨k, l1, l2, l3, l4⟩, hr, ho⟩ := K
      dsimp only [ru_U, ru_V, ru_b] at *
      refine ⟨⟨fun j hj => ?_, ?_, ?_, ?_⟩, fun h => ?_, ⟨c1, c2, c3, c4⟩, ⟨k, ?_, l2, by omega, fun j h1 h2 => ?_⟩, fun i h1 h2 => ?_, ho⟩ <;> (try dsimp only [ru_U, ru_V])
      · simp (disch := omega) only [rd_n]; exact a1 j hj
      · simp (disch := omega) only [rd_n]; exact a2
      · simp (disch := omega) only [rd_n]; exact a8
      · simp (disch := omega) only [rd_n]; exact a9
      · simp (disch := omega) only [rd_n]; exact hb h
      · simp (disch := omega) only [rd_n]; exact l1
      · simp (disch := omega) only [rd_n]; exact l4 j h1 h2
      · simp (disch := omega) only [rd_n]; exact hr i h1 h2
    · dsimp only [ru_U]; simp (disch := omega) only [rd_n, rd_e]
    · dsimp only [ru_U]; simp (disch := omega) only [rd_n, rd_e]
    · simp (disch := omega) only [rd_n]; exact hto j hj
    · simp (disch := omega) only [rd_n]
    · have : s2 = s := (nI_eq (by omega) (by omega)).mp (g1.symm.trans hs)
      rw [if_pos (by omega), rd_n (by omega), rd_e ⟨rfl, rfl⟩]
  · -- a piece is seen
    rw [if_neg hsee] at hseen
    have hle : s + wy b u ≤ t := by omega
    have e1 : nI t - nI s = nI (t - s) := pk_sub (by omega)
    have e2 : nI (t - s) - nI (wy b u) = nI (t - s - wy b u) := pk_sub (by omega)
    have hge : (0 : Int32) ≤ nI (t - s - wy b u) := nI_pos' (by omega)
    have hm1 : (t - s) % 128 < 128 := Nat.mod_lt _ (by decide)
    obtain ⟨a1, b1, x, y, E1, E2, ⟨z, E3, E4, z1, z2⟩, E5, K1, s4, s7, s5, v31, v33, hA1, hB1, st1⟩ := op_see hu1 hu hW hs hs0 hs1 ht hTb hle K K0 (fun _ => rfl)
    obtain ⟨a2, b2, R, hR, E6, E7, r7, r4, r33, K2, S2, ⟨q0, q1, q2, q3⟩, hA2, hB2, st2⟩ := op_rec hu K1 s4 s7 (by rw [s5, v31]) (by rw [z1, z2]) ⟨by rw [v33 34 (by decide) (by decide)]; exact Z.2.2.2.1, by rw [v33 35 (by decide) (by decide)]; exact Z.2.2.2.2⟩
    have hs2 : b2 1 (353 * u + 1) = nI s := by rw [st2 1 (by decide), st1 1 (by decide), hs]
    have hT1 : b1 1 1765 = nI t := by rw [hB1 _ _ (by omega)]; exact hTb
    have hT2 : b2 1 1765 = nI t := by rw [hB2 _ _ (by omega)]; exact hT1
    have hwk : ∀ k, 1 ≤ k → k ≤ u → b2 1 (353 * k + 0) = b 1 (353 * k + 0) := fun k g1 g2 => by
      rcases Nat.lt_or_ge k u with g | g
      · rw [hB2 _ _ (by omega), hB1 _ _ (by omega)]
      · have : k = u := by omega
        subst this
        rw [st2 0 (by decide), st1 0 (by decide)]
    have hw2 : wy b2 u = wy b u := wy_cong hwk
    have hW2 : wy_ok b2 u := fun k g1 g2 => by
      rw [hwk k g1 g2]; exact hW k g1 g2
    have hrec : F_X9_isRecognized 0 (nI u) b2 = some (if R ≤ 0 then 0 else 1) := rm_isRec hu1 hu hW2 hs2 hs1 ht hT2 (by rw [hw2]; exact hsee) r33
    have hto1 : ∀ j, j < 6 → a2 (p + 3) j = b 1 (1772 + j) := fun j hj => by
      rw [hA2 _ _ (by omega), hA1 _ _ (by omega)]; exact hto j hj
    have hb1t : ∀ j, j < 6 → b1 1 (1772 + j) = b 1 (1772 + j) := fun j hj => hB1 _ _ (by omega)
    have hch2 : ∀ i, i < 128 → i < t + 1 → a2 (p + 2) i = b2 1 (1778 + i) := fun i g1 g2 => by
      rw [hA2 _ _ (by omega), hA1 _ _ (by omega), hB2 _ _ (by omega), hB1 _ _ (by omega)]; exact hch i g1 g2
    rw [hb1t 0 (by decide)] at q0
    rw [hb1t 1 (by decide)] at q1
    rw [hb1t 2 (by decide)] at q2
    have hC0 : F_X3_watchUnit p q (nI (wy b u)) a = pr_bd (F_X7_recognizeMark q a1) fun r19 f20 =>
        if r19 = 0 then (
          pr_lt (pr_up f20 (p + 3) (Int32.toNatClampNeg 2) ((f20 (p + 3) (Int32.toNatClampNeg 2)) + 1)) fun f23 =>
          some ((), f23)
        ) else (
          pr_lt (pr_up f20 (p + 3) (Int32.toNatClampNeg 0) ((f20 (p + 3) (Int32.toNatClampNeg 0)) + 1)) fun f26 =>
          if (f26 (q + 6) 7) = 2 then (
            pr_lt (pr_up f26 (p + 3) (Int32.toNatClampNeg 1) ((f26 (p + 3) (Int32.toNatClampNeg 1)) + 1)) fun f34 =>
            pr_bd (F_X3_control p q (f34 (p + 2) ((t - s) % 128)) f34) fun u39 f40 =>
            some ((), f40)
          ) else (
            pr_bd (F_X3_control p q (f26 (p + 2) ((t - s) % 128)) f26) fun u32 f33 =>
            some ((), f33)
          )
        ) := by
      unfold F_X3_watchUnit
      rw [hset, pr_b1_s, hTa, e1, e2, if_pos hge, E1, pr_b1_s, ri_cl_0, E2, pr_b1_s, E3, pr_b1_s, E4, pr_bd_s, ri_127 (show t - s < 2 ^ 31 by omega)]
      have hg : ∀ {β : Type} (X : Option β), pr_gd (¬ (nI ((t - s) % 128) < 0 ∨ 128 ≤ Int32.toNatClampNeg (nI ((t - s) % 128)))) X = X := fun X => pr_gd_i hm1 (by decide)
      simp only [hg]
      rw [ri_cl (show (t - s) % 128 < 2 ^ 31 by omega)]
    have hLoop : ∀ N, L_X9_makeRepeat_69 0 (N + 1) (nI u) b = if (if R ≤ 0 then (0 : Int32) else 1) = 0 then L_X9_makeRepeat_69 0 N (nI u + 1) b2 else pr_bd (F_X9_learn 0 (nI u) b2) fun _ f1 => pr_bd (F_X9_expect 0 (nI u) f1) fun _ f2 => pr_bd (F_X9_correct 0 (nI u) f2) fun _ f3 => L_X9_makeRepeat_69 0 N (nI u + 1) f3 := fun N => by
      rw [L_X9_makeRepeat_69, Nat.zero_add, ri_cl_1766, hn, if_neg hcN, hseen, pr_b1_s, if_neg (show ¬ (1 : Int32) = 0 by decide), E5, pr_bd_s, E7, pr_bd_s, hrec, pr_b1_s]
    have t10 : ¬ (1 : Int32) = 0 := by decide
    have hse : ∀ s2 : Nat, b 1 (353 * u + 1) = nI s2 → s2 ≤ 10 → (1 : Int32) = if t < s2 + wy b u then 0 else 1 := fun s2 g1 g2 => by
      have : s2 = s := (nI_eq (by omega) (by omega)).mp (g1.symm.trans hs)
      rw [if_neg (by omega)]
    rcases hR with rfl | hR
    · -- nothing is recognized
      rw [if_pos rfl] at E6 q0 q2
      rw [if_neg (show ¬ (0 : Int32) = 2 by decide)] at q1
      refine ⟨pr_up a2 (p + 3) 2 (a2 (p + 3) 2 + 1), b2, ?_, fun N => ?_, ?_, ?_, fun j hj => ?_, fun c s h h2 => ?_, fun c k h => ?_, fun j hj => ?_, fun s2 g1 g2 => by rw [rd_n (by omega), r4]; exact hse s2 g1 g2⟩
      · rw [hC0, E6, pr_bd_s, if_pos rfl, pr_lt_s, ri_cl_2]
      · rw [hLoop, if_pos (by decide)]
      · exact ru_k_same K2 (fun j s hj => by dsimp only [ru_U]; exact rd_n (by omega)) (fun _ _ => rfl)
      · exact ru_s_same S2 (fun j s hj => by dsimp only [ru_U]; exact rd_n (by omega)) (fun _ _ => rfl)
      · rcases (show j = 0 ∨ j = 1 ∨ j = 2 ∨ (3 ≤ j) by omega) with rfl | rfl | rfl | h3
        · rw [rd_n (by omega), hto1 0 (by decide), q0, Int32.add_zero]
        · rw [rd_n (by omega), hto1 1 (by decide), q1, Int32.add_zero]
        · rw [rd_e ⟨rfl, rfl⟩, hto1 2 (by decide), q2]
        · rw [rd_n (by omega), hto1 j hj, q3 j h3 hj, hb1t j hj]
      · rw [rd_n (by omega), hA2 _ _ h, hA1 _ _ h]
      · rw [hB2 _ _ h, hB1 _ _ (by omega)]
      · rw [st2 j hj, st1 j hj]
    · have hR0 : ¬ R = 0 := by rcases hR with rfl | rfl <;> decide
      have hRp : ¬ R ≤ 0 := by rcases hR with rfl | rfl <;> decide
      rw [if_neg hR0] at E6 q0 q2
      -- the totals, class side
      have hS : a2 (q + 6) 4 = 1 ∧ b2 1 (353 * u + 34) = a2 (q + 6) 8 ∧ b2 1 (353 * u + 35) = a2 (q + 6) 9 := by
        rcases S2 with ⟨g1, g2, g3⟩ | ⟨g1, g2, g3, g4, g5⟩
        · dsimp only [ru_U] at g2
          rw [r7] at g2
          exact absurd g2 hR0
        · dsimp only [ru_U, ru_V] at g1 g5
          rcases g5 with ⟨g6, -⟩ | ⟨-, g7, g8⟩
          · rw [r7] at g6
            exact absurd g6 hR0
          · exact ⟨g1, g7, g8⟩
      have fin : ∀ a3 : pr_M, (∀ c s, c ≠ p + 3 → a3 c s = a2 c s) → tot a3 b2 p → (∀ C, F_X3_control p q (a3 (p + 2) ((t - s) % 128)) a3 = some ((), C) → F_X3_watchUnit p q (nI (wy b u)) a = some ((), C)) →
          ∃ a' b', F_X3_watchUnit p q (nI (wy b u)) a = some ((), a') ∧ (∀ N, L_X9_makeRepeat_69 0 (N + 1) (nI u) b = L_X9_makeRepeat_69 0 N (nI u + 1) b') ∧
            ru_k (ru_U a' q) (ru_V b' u) (t + 1) (t + 1) ∧ ru_s (ru_U a' q) (ru_V b' u) ∧ tot a' b' p ∧ fr_C2 a a' p q ∧ fr_M2 b b' u ∧ st_M b b' u ∧ (∀ s, b 1 (353 * u + 1) = nI s → s ≤ 10 → a' (q + 6) 4 = if t < s + wy b u then 0 else 1) := by
        intro a3 h3 to3 hC
        have K3 : ru_k (ru_U a3 q) (ru_V b2 u) (t + 1) (t + 1) := ru_k_same K2 (fun j s hj => by dsimp only [ru_U]; exact h3 _ _ (by omega)) (fun _ _ => rfl)
        obtain ⟨a4, b3, b4, b5, F1, F2, F3, F4, K4, to4, s4', v4, hA4, hB4, st4⟩ := op_control (m := a2 (q + 6) 8) (k := a2 (q + 6) 9) (d := a3 (p + 2) ((t - s) % 128)) hpq hu K3 hs2 ht hT2 (by omega) (by rw [h3 _ _ (by omega)]; exact (hch2 _ hm1 (by omega)).symm) (h3 _ _ (by omega)) hS.2.1 (h3 _ _ (by omega)) hS.2.2 to3
        refine ⟨a4, b5, hC a4 F1, fun N => ?_, K4, ?_, to4, fun c s h h2 => ?_, fun c k h => ?_, fun j hj => ?_, fun s2 g1 g2 => by rw [s4', h3 _ _ (by omega), r4]; exact hse s2 g1 g2⟩
        · rw [hLoop, if_neg hRp, if_neg t10, F2, pr_bd_s, F3, pr_bd_s, F4, pr_bd_s]
        · unfold ru_s ru_z at S2 ⊢
          dsimp only [ru_U, ru_V] at S2 ⊢
          simp (disch := omega) only [s4', v4, h3]
          exact S2
        · rw [hA4 c s h h2, h3 _ _ h2, hA2 _ _ h, hA1 _ _ h]
        · rw [hB4 c k h, hB2 _ _ h, hB1 _ _ (by omega)]
        · rw [st4 j hj, st2 j hj, st1 j hj]
      rcases hR with rfl | rfl
      · rw [if_neg (show ¬ (1 : Int32) = 2 by decide)] at q1
        refine fin (pr_up a2 (p + 3) 0 (a2 (p + 3) 0 + 1)) (fun c s h => rd_n (by omega)) (fun j hj => ?_) (fun C hC => ?_)
        · rcases (show j = 0 ∨ j = 1 ∨ j = 2 ∨ (3 ≤ j) by omega) with rfl | rfl | rfl | h3
          · rw [rd_e ⟨rfl, rfl⟩, hto1 0 (by decide), q0]
          · rw [rd_n (by omega), hto1 1 (by decide), q1, Int32.add_zero]
          · rw [rd_n (by omega), hto1 2 (by decide), q2, Int32.add_zero]
          · rw [rd_n (by omega), hto1 j hj, q3 j h3 hj, hb1t j hj]
        · rw [hC0, E6, pr_bd_s, if_neg t10, pr_lt_s, ri_cl_0, if_neg (by rw [rd_n (by omega), r7]; decide), hC, pr_bd_s]
      · rw [if_pos rfl] at q1
        refine fin (pr_up (pr_up a2 (p + 3) 0 (a2 (p + 3) 0 + 1)) (p + 3) 1 (a2 (p + 3) 1 + 1)) (fun c s h => by rw [rd_n (by omega), rd_n (by omega)]) (fun j hj => ?_) (fun C hC => ?_)
        · rcases (show j = 0 ∨ j = 1 ∨ j = 2 ∨ (3 ≤ j) by omega) with rfl | rfl | rfl | h3
          · rw [rd_n (by omega), rd_e ⟨rfl, rfl⟩, hto1 0 (by decide), q0]
          · rw [rd_e ⟨rfl, rfl⟩, hto1 1 (by decide), q1]
          · rw [rd_n (by omega), rd_n (by omega), hto1 2 (by decide), q2, Int32.add_zero]
          · rw [rd_n (by omega), rd_n (by omega), hto1 j hj, q3 j h3 hj, hb1t j hj]
        · rw [hC0, E6, pr_bd_s, if_neg t10, pr_lt_s, ri_cl_0, if_pos (by rw [rd_n (by omega), r7]), pr_lt_s, ri_cl_1, rd_n (c := p + 3) (j := 1) (by omega), hC, pr_bd_s]
