/-! ===== the whole text is carried out ===== -/
theorem op_run50 {k n : Nat} (hk : k ≤ 300) : ∀ (m i N N' t : Nat) (a b : pr_M), i + m = k → m < N → m < N' → t + m ≤ 200000 → a 199 6 = nI k → rpn a b 1 n t →
    ∃ a' b', L_X8_carryOutStep_50 0 N (nI i) a = some ((), a') ∧ L_X9_makeRepeats_2 0 (nI k) N' (nI i) b = some ((), b') ∧ rpn a' b' 1 n (t + m) ∧ (∀ c s, 50 ≤ c → a' c s = a c s) ∧ (∀ c k, c ≠ 1 → b' c k = b c k)
  | 0, i, N, N', t, a, b, hi, h1, h2, ht, h6, h => by
    obtain ⟨N, rfl⟩ : ∃ j, N = j + 1 := ⟨N - 1, by omega⟩
    obtain ⟨N', rfl⟩ : ∃ j, N' = j + 1 := ⟨N' - 1, by omega⟩
    have hik : i = k := by omega
    subst hik
    rw [L_X8_carryOutStep_50, L_X9_makeRepeats_2, Nat.zero_add, h6, if_pos (nI_le (Nat.le_refl _) (by omega)), if_pos (nI_le (Nat.le_refl _) (by omega))]
    exact ⟨_, _, rfl, rfl, h, fun _ _ _ => rfl, fun _ _ _ => rfl⟩
  | m + 1, i, N, N', t, a, b, hi, h1, h2, ht, h6, h => by
    obtain ⟨N, rfl⟩ : ∃ j, N = j + 1 := ⟨N - 1, by omega⟩
    obtain ⟨N', rfl⟩ : ∃ j, N' = j + 1 := ⟨N' - 1, by omega⟩
    obtain ⟨a1, b1, e1, e2, r1, A1, B1, -⟩ := op_repN (p := 1) (by omega) h
    obtain ⟨a2, b2, e3, e4, r2, A2, B2⟩ := op_run50 hk m (i + 1) N N' (t + 1) a1 b1 (by omega) (by omega) (by omega) (by omega) (by rw [A1 _ _ (by omega)]; exact h6) r1
    rw [L_X8_carryOutStep_50, L_X9_makeRepeats_2, Nat.zero_add, Nat.zero_add, h6, if_neg (nI_ge (by omega) (by omega)), if_neg (nI_ge (by omega) (by omega)), e1, e2, pr_bd_s, pr_bd_s, nI_1]
    refine ⟨a2, b2, e3, e4, ?_, fun c s hc => ?_, fun c k hc => ?_⟩
    · rw [show t + (m + 1) = t + 1 + m by omega]; exact r2
    · rw [A2 c s hc, A1 c s (by omega)]
    · rw [B2 c k hc, B1 c k hc]
/-- the repeats of the steps -/
def q_sn : List pr_Stp → Nat
  | [] => 0
  | st :: L => (if st.1 = 110 then st.2.2.1.toNatClampNeg else 0) + q_sn L
theorem ex_1 {a b : pr_M} {n t k : Nat} {st : pr_Stp} (ok : pOK st) (hU : st.2.1 < n) (hs : sO a st) (hm : mO k b st) (hk : k ≤ 40) (ht : t + (if st.1 = 110 then st.2.2.1.toNatClampNeg else 0) ≤ 100000) (hn : rpn a b 1 n t) :
    ∃ a' b', F_X8_carryOutStep 0 a = some ((), a') ∧ F_X9_carryOutStep 0 (nI (4 * k)) b = some ((), b') ∧ rpn a' b' 1 n (t + (if st.1 = 110 then st.2.2.1.toNatClampNeg else 0)) ∧ (∀ c s, 50 ≤ c → a' c s = a c s) ∧ (∀ c k, c ≠ 1 → b' c k = b c k) := by
  obtain ⟨s1, s2, s3, s4⟩ := hs
  obtain ⟨m1, m2, m3, m4⟩ := hm
  obtain ⟨code, o2, o3, o4, o5⟩ := ok
  have hn5 := hn.2.1
  have i1 : nI (4 * k) + 1 = nI (4 * k + 1) := nI_add _ 1
  have gd : ∀ (j : Nat), j < 164 → ∀ X : Option (Unit × pr_M), pr_gd (¬(nI j < 0 ∨ 164 ≤ Int32.toNatClampNeg (nI j))) X = X := fun j hj X => pr_gd_i hj (by decide)
  unfold F_X8_carryOutStep F_X9_carryOutStep
  rw [pr_gd_i (by omega) (by decide), ri_cl (n := 4 * k) (by omega), Nat.zero_add, Nat.zero_add, Nat.zero_add, s1, m1, i1, ix2, ix3]
  simp only [gd (4 * k + 1) (by omega), gd (4 * k + 2) (by omega), gd (4 * k + 3) (by omega)]
  rw [ri_cl (n := 4 * k + 1) (by omega), ri_cl (n := 4 * k + 2) (by omega), ri_cl (n := 4 * k + 3) (by omega), s3, m2, m3]
  rcases code with c | c | c | c
  · have hu5 : st.2.1 < 5 := by omega
    rw [c, if_pos (show nI 100 = 100 by decide), if_pos (show nI 100 = 100 by decide), s2 c, s4 (Or.inl c), m4 (Or.inl c), rc_unit hn hU, pr_b1_s, if_neg (show ¬ (100 : Nat) = 110 by decide), Nat.add_zero]
    unfold pr_op
    dsimp only
    rw [show pr_gd (pr_LC[1 + 1 + 3 + 9 * st.2.1]? = some (7, 0)) = fun (X : Option (Unit × pr_M)) => X from by funext X; exact if_pos (lc_u hu5)]
    unfold F_X4_beDisturbed F_X9_giveDisturbance
    simp only [pr_lt_s, pr_bd_s, rm_lay_21 _ _ hu5, rm_lay_22 _ _ hu5, rm_lay_23 _ _ hu5]
    have K := k_of hn hU
    refine ⟨_, _, rfl, rfl, rpn_unit hn hU (uk_dist _ _ K) (fun h0 => ?_) (by dsimp only [uq]; simp (disch := omega) only [rd_n]) (by dsimp only [uq]; simp (disch := omega) only [rd_n]) (fun c s hc => by dsimp only [uq] at hc ⊢; simp (disch := omega) only [rd_n]) (fun c k hc => by simp (disch := omega) only [rd_n]) (Or.inl (by simp (disch := omega) only [rd_n])), fun c s hc => by simp (disch := omega) only [rd_n], fun c k hc => by simp (disch := omega) only [rd_n]⟩
    have S := hn.2.2.2.2.2.2.2.2.2.2.2.2.1 h0 _ hU
    unfold ru_s ru_z at S ⊢
    dsimp only [ru_U, ru_V, uq] at S ⊢
    simp (disch := omega) only [rd_n]
    exact S
  · obtain ⟨v, hv, hv9⟩ := o4 c
    rw [if_pos c, hv, ri_cl (by omega)] at ht ⊢
    rw [c, if_neg (show ¬ nI 110 = 100 by decide), if_neg (show ¬ nI 110 = 100 by decide), if_pos (show nI 110 = 110 by decide), if_pos (show nI 110 = 110 by decide)]
    rw [hv] at s3
    obtain ⟨a', b', e1, e2, r, A, B⟩ := op_run50 (k := v) (by omega) v 0 pr_fuel pr_fuel t a b (by omega) (by show v < 4000; omega) (by show v < 4000; omega) (by omega) s3 hn
    unfold F_X9_makeRepeats
    rw [show L_X8_carryOutStep_50 0 pr_fuel 0 a = some ((), a') from e1, show L_X9_makeRepeats_2 0 (nI v) pr_fuel 0 b = some ((), b') from e2, pr_bd_s, pr_bd_s, pr_bd_s]
    exact ⟨_, _, rfl, rfl, r, A, B⟩
  · rw [c, if_neg (show ¬ nI 112 = 100 by decide), if_neg (show ¬ nI 112 = 100 by decide), if_neg (show ¬ nI 112 = 110 by decide), if_neg (show ¬ nI 112 = 110 by decide), if_pos (show nI 112 = 112 by decide), if_neg (show ¬ nI 112 = 118 by decide), s4 (Or.inr c), m4 (Or.inr c), if_neg (show ¬ (112 : Nat) = 110 by decide), Nat.add_zero]
    have D := o5 c
    obtain ⟨r, r', a', b', e1, e2, hr, A, B⟩ := op_start st.2.2.1 (nI st.2.2.2) (nI_ne0 (by omega) (by omega)) (show t ≤ 200000 by omega) hn
    rw [e1, e2, pr_bd_s, pr_bd_s]
    exact ⟨_, _, rfl, rfl, hr, A, B⟩
  · rw [c, if_neg (show ¬ nI 118 = 100 by decide), if_neg (show ¬ nI 118 = 100 by decide), if_neg (show ¬ nI 118 = 110 by decide), if_neg (show ¬ nI 118 = 110 by decide), if_neg (show ¬ nI 118 = 112 by decide), if_pos (show nI 118 = 118 by decide), if_pos (show nI 118 = 118 by decide), pr_lt_s, pr_lt_s, ri_cl_1767, if_neg (show ¬ (118 : Nat) = 110 by decide), Nat.add_zero]
    exact ⟨_, _, rfl, rfl, rpn_speed _ hn, fun c s hc => rd_n (by omega), fun c k hc => rd_n (by omega)⟩
