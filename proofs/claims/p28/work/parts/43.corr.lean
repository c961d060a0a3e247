/-! ===== the class: a correction, and all of control ===== -/
def k_ph (S : Nat → Int32) (w ph sm m : Int32) : Int32 := if w = 0 ∧ ¬ rv_abs m ≤ S 6 then rv_ph ph (S 4) (S 5) (S 7) (rv_sum sm m) m else ph
def k_sk (S : Nat → Int32) (w sk k : Int32) : Int32 := if w = 0 ∧ ¬ rv_abs k ≤ S 6 then rv_sk sk (S 4) (S 7) k else sk
def k_sm (S : Nat → Int32) (w sm m : Int32) : Int32 := if w = 0 ∧ ¬ rv_abs m ≤ S 6 then rv_sum sm m else sm
def k_wt (S : Nat → Int32) (w m k : Int32) : Int32 := if w = 0 ∧ (¬ rv_abs m ≤ S 6 ∨ ¬ rv_abs k ≤ S 6) then S 1 + 1 else w
def k_ad (S : Nat → Int32) (w m k x y A : Int32) : Int32 := if w = 0 ∧ (¬ rv_abs m ≤ S 6 ∨ ¬ rv_abs k ≤ S 6) then x - y else A
def k_fd (S : Nat → Int32) (fd m ex ch : Int32) : Int32 := if ¬ rv_abs ch < 10 ∧ 0 < S 8 then rl_lim (fd + (m - ex) * 100 / ch * S 8 / 256) 500 else fd
theorem t10 : ¬ (1 : Int32) = 0 := by decide
set_option maxHeartbeats 4000000 in
theorem c_corr {q : Nat} {b : pr_M} {m k : Int32} (hq : 5 ≤ q) (hm : b (q + 6) 8 = m) (hk : b (q + 6) 9 = k) :
    ∃ a', rc_corr 1 q b = some ((), a') ∧ a' (q + 2) 2 = k_ph (b (q + 1)) (b (q + 5) 2) (b (q + 2) 2) (b (q + 5) 1) m ∧ a' (q + 2) 3 = k_sk (b (q + 1)) (b (q + 5) 2) (b (q + 2) 3) k ∧
      a' (q + 5) 1 = k_sm (b (q + 1)) (b (q + 5) 2) (b (q + 5) 1) m ∧ a' (q + 5) 2 = k_wt (b (q + 1)) (b (q + 5) 2) m k ∧
      a' (q + 5) 7 = k_ad (b (q + 1)) (b (q + 5) 2) m k (a' (q + 2) 2) (b (q + 2) 2) (b (q + 5) 7) ∧ a' (q + 5) 8 = k_ad (b (q + 1)) (b (q + 5) 2) m k (a' (q + 2) 3) (b (q + 2) 3) (b (q + 5) 8) ∧
      (∀ c s, (c ≠ q + 2 ∨ (s ≠ 2 ∧ s ≠ 3)) → (c ≠ q + 5 ∨ (s ≠ 1 ∧ s ≠ 2 ∧ s ≠ 7 ∧ s ≠ 8)) → (c ≠ 1 + 3 ∨ (s ≠ 3 ∧ s ≠ 4)) → a' c s = b c s) := by
  unfold k_ph k_sk k_sm k_wt k_ad
  by_cases h0 : b (q + 5) 2 = 0
  · by_cases hP : rv_abs m ≤ b (q + 1) 6 <;> by_cases hQ : rv_abs k ≤ b (q + 1) 6
    · refine ⟨b, ?_, ?_, ?_, ?_, ?_, ?_, ?_, fun _ _ _ _ _ => rfl⟩
      · unfold rc_corr
        simp only [h0, if_true, rc_isOff, hm, hk, if_pos hP, if_pos hQ, pr_b1_s]
      · rw [if_neg (fun h => h.2 hP)]
      · rw [if_neg (fun h => h.2 hQ)]
      · rw [if_neg (fun h => h.2 hP)]
      · rw [if_neg (fun h => h.2.elim (fun z => z hP) (fun z => z hQ))]
      · rw [if_neg (fun h => h.2.elim (fun z => z hP) (fun z => z hQ))]
      · rw [if_neg (fun h => h.2.elim (fun z => z hP) (fun z => z hQ))]
    · refine ⟨?_, ?_, ?_⟩
      rotate_left
      · unfold rc_corr
        simp (disch := omega) only [h0, if_true, rc_isOff, hm, hk, if_pos hP, if_neg hQ, if_neg t10, pr_b1_s, pr_lt_s, rc_cs, pr_bd_s, rd_n, rd_e, rc_set_1, ri_cl_4]
        exact rfl
      rw [if_neg (fun h => h.2 hP), if_pos ⟨h0, hQ⟩, if_neg (fun h => h.2 hP), if_pos ⟨h0, Or.inr hQ⟩, if_pos ⟨h0, Or.inr hQ⟩, if_pos ⟨h0, Or.inr hQ⟩]
      refine ⟨?_, ?_, ?_, ?_, ?_, ?_, fun c s h1 h2 h3 => ?_⟩ <;> simp (disch := omega) only [rd_n, rd_e, Int32.sub_self]
    · refine ⟨?_, ?_, ?_⟩
      rotate_left
      · unfold rc_corr
        simp (disch := omega) only [h0, if_true, rc_isOff, hm, hk, if_neg hP, if_pos hQ, if_neg t10, pr_b1_s, pr_lt_s, rc_cp, pr_bd_s, rd_n, rd_e, rc_set_1, ri_cl_3]
        exact rfl
      rw [if_pos ⟨h0, hP⟩, if_neg (fun h => h.2 hQ), if_pos ⟨h0, hP⟩, if_pos ⟨h0, Or.inl hP⟩, if_pos ⟨h0, Or.inl hP⟩, if_pos ⟨h0, Or.inl hP⟩]
      refine ⟨?_, ?_, ?_, ?_, ?_, ?_, fun c s h1 h2 h3 => ?_⟩ <;> simp (disch := omega) only [rd_n, rd_e, Int32.sub_self]
    · refine ⟨?_, ?_, ?_⟩
      rotate_left
      · unfold rc_corr
        simp (disch := omega) only [h0, if_true, rc_isOff, hm, hk, if_neg hP, if_neg hQ, if_neg t10, pr_b1_s, pr_lt_s, rc_cp, rc_cs, pr_bd_s, rd_n, rd_e, rc_set_1, ri_cl_3, ri_cl_4]
        exact rfl
      rw [if_pos ⟨h0, hP⟩, if_pos ⟨h0, hQ⟩, if_pos ⟨h0, hP⟩, if_pos ⟨h0, Or.inl hP⟩, if_pos ⟨h0, Or.inl hP⟩, if_pos ⟨h0, Or.inl hP⟩]
      refine ⟨?_, ?_, ?_, ?_, ?_, ?_, fun c s h1 h2 h3 => ?_⟩ <;> simp (disch := omega) only [rd_n, rd_e, Int32.sub_self]
  · refine ⟨b, ?_, ?_, ?_, ?_, ?_, ?_, ?_, fun _ _ _ _ _ => rfl⟩
    · unfold rc_corr
      rw [if_neg h0]
    all_goals rw [if_neg (fun h => h0 h.1)]
theorem c_control {q : Nat} {a : pr_M} {m k ch : Int32} (hq : 5 ≤ q) (hm : a (q + 6) 8 = m) (hk : a (q + 6) 9 = k) :
    ∃ a', F_X3_control 1 q ch a = some ((), a') ∧ a' (q + 2) 2 = k_ph (a (q + 1)) (a (q + 5) 2) (a (q + 2) 2) (a (q + 5) 1) m ∧ a' (q + 2) 3 = k_sk (a (q + 1)) (a (q + 5) 2) (a (q + 2) 3) k ∧
      a' (q + 5) 1 = k_sm (a (q + 1)) (a (q + 5) 2) (a (q + 5) 1) m ∧ a' (q + 5) 2 = k_wt (a (q + 1)) (a (q + 5) 2) m k ∧
      a' (q + 5) 7 = k_ad (a (q + 1)) (a (q + 5) 2) m k (a' (q + 2) 2) (a (q + 2) 2) (a (q + 5) 7) ∧ a' (q + 5) 8 = k_ad (a (q + 1)) (a (q + 5) 2) m k (a' (q + 2) 3) (a (q + 2) 3) (a (q + 5) 8) ∧
      a' (q + 5) 0 = k_fd (a (q + 1)) (a (q + 5) 0) m (a (q + 5) 5) ch ∧ a' (q + 5) 5 = m ∧ a' (q + 5) 6 = k ∧
      (∀ c s, (c ≠ q + 2 ∨ (s ≠ 2 ∧ s ≠ 3)) → (c ≠ q + 5 ∨ (s ≠ 0 ∧ s ≠ 1 ∧ s ≠ 2 ∧ s ≠ 5 ∧ s ≠ 6 ∧ s ≠ 7 ∧ s ≠ 8)) → (c ≠ 1 + 3 ∨ (s ≠ 3 ∧ s ≠ 4 ∧ s ≠ 5)) → a' c s = a c s) := by
  have key : ∀ a1 : pr_M, (∀ c s, (c ≠ q + 5 ∨ s ≠ 0) → (c ≠ 1 + 3 ∨ s ≠ 5) → a1 c s = a c s) → a1 (q + 5) 0 = k_fd (a (q + 1)) (a (q + 5) 0) m (a (q + 5) 5) ch → F_X3_control 1 q ch a = rc_rest 1 q a1 → 
    ∃ a', F_X3_control 1 q ch a = some ((), a') ∧ a' (q + 2) 2 = k_ph (a (q + 1)) (a (q + 5) 2) (a (q + 2) 2) (a (q + 5) 1) m ∧ a' (q + 2) 3 = k_sk (a (q + 1)) (a (q + 5) 2) (a (q + 2) 3) k ∧
      a' (q + 5) 1 = k_sm (a (q + 1)) (a (q + 5) 2) (a (q + 5) 1) m ∧ a' (q + 5) 2 = k_wt (a (q + 1)) (a (q + 5) 2) m k ∧
      a' (q + 5) 7 = k_ad (a (q + 1)) (a (q + 5) 2) m k (a' (q + 2) 2) (a (q + 2) 2) (a (q + 5) 7) ∧ a' (q + 5) 8 = k_ad (a (q + 1)) (a (q + 5) 2) m k (a' (q + 2) 3) (a (q + 2) 3) (a (q + 5) 8) ∧
      a' (q + 5) 0 = k_fd (a (q + 1)) (a (q + 5) 0) m (a (q + 5) 5) ch ∧ a' (q + 5) 5 = m ∧ a' (q + 5) 6 = k ∧
      (∀ c s, (c ≠ q + 2 ∨ (s ≠ 2 ∧ s ≠ 3)) → (c ≠ q + 5 ∨ (s ≠ 0 ∧ s ≠ 1 ∧ s ≠ 2 ∧ s ≠ 5 ∧ s ≠ 6 ∧ s ≠ 7 ∧ s ≠ 8)) → (c ≠ 1 + 3 ∨ (s ≠ 3 ∧ s ≠ 4 ∧ s ≠ 5)) → a' c s = a c s) := by
    intro a1 hA hf hC
    have hm1 : a1 (q + 6) 8 = m := by rw [hA _ _ (by omega) (by omega)]; exact hm
    have hk1 : a1 (q + 6) 9 = k := by rw [hA _ _ (by omega) (by omega)]; exact hk
    have eX : F_X7_expectAsMeasured q a1 = some ((), pr_up (pr_up a1 (q + 5) 5 m) (q + 5) 6 k) := by
      unfold F_X7_expectAsMeasured
      simp (disch := omega) only [pr_lt_s, rd_n, hm1, hk1]
    have hB : ∀ c s, (c ≠ q + 5 ∨ (s ≠ 0 ∧ s ≠ 5 ∧ s ≠ 6)) → (c ≠ 1 + 3 ∨ s ≠ 5) → (pr_up (pr_up a1 (q + 5) 5 m) (q + 5) 6 k) c s = a c s := fun c s g1 g2 => by
      rw [rd_n (by omega), rd_n (by omega), hA c s (by omega) g2]
    have hS : (pr_up (pr_up a1 (q + 5) 5 m) (q + 5) 6 k) (q + 1) = a (q + 1) := by
      funext j
      exact hB _ _ (by omega) (by omega)
    obtain ⟨a', e1, e2, e3, e4, e5, e6, e7, e8⟩ := c_corr (q := q) (b := pr_up (pr_up a1 (q + 5) 5 m) (q + 5) 6 k) (m := m) (k := k) hq (by rw [hB _ _ (by omega) (by omega)]; exact hm) (by rw [hB _ _ (by omega) (by omega)]; exact hk)
    rw [hS] at e2 e3 e4 e5 e6 e7
    simp (disch := omega) only [hB] at e2 e3 e4 e5 e6 e7
    refine ⟨a', ?_, e2, e3, e4, e5, e6, e7, ?_, ?_, ?_, fun c s g1 g2 g3 => ?_⟩
    · rw [hC, rc_rest, eX, pr_bd_s, e1]
    · rw [e8 _ _ (by omega) (by omega) (by omega), rd_n (by omega), rd_n (by omega), hf]
    · rw [e8 _ _ (by omega) (by omega) (by omega), rd_n (by omega), rd_e ⟨rfl, rfl⟩]
    · rw [e8 _ _ (by omega) (by omega) (by omega), rd_e ⟨rfl, rfl⟩]
    · rw [e8 c s g1 (by omega) (by omega)]
      exact hB c s (by omega) (by omega)
  have eL := rc_learn q ch a
  rw [hm] at eL
  by_cases h : ¬ rv_abs ch < 10 ∧ 0 < a (q + 1) 8
  · rw [if_pos h] at eL
    refine key (pr_up (pr_up a (q + 5) 0 (rl_lim (a (q + 5) 0 + (m - a (q + 5) 5) * 100 / ch * a (q + 1) 8 / 256) 500)) (1 + 3) 5 (a (1 + 3) 5 + 1)) (fun c s g1 g2 => ?_) ?_ ?_
    · rw [rd_n (by omega), rd_n (by omega)]
    · unfold k_fd
      rw [rd_n (by omega), rd_e ⟨rfl, rfl⟩, if_pos h]
    · rw [rc_control, eL, pr_bd_s, if_neg t10, pr_lt_s, ri_cl_5, rd_n (c := 1 + 3) (j := 5) (by omega)]
  · rw [if_neg h] at eL
    refine key a (fun _ _ _ _ => rfl) ?_ ?_
    · unfold k_fd
      rw [if_neg h]
    · rw [rc_control, eL, pr_bd_s, if_pos rfl]
