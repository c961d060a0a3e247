/-! ===== the law's isSeen, over its rows ===== -/
theorem ri_cl_7 : Int32.toNatClampNeg 7 = 7 := by decide +kernel
theorem ri_cl_8 : Int32.toNatClampNeg 8 = 8 := by decide +kernel
theorem ri_cl_9 : Int32.toNatClampNeg 9 = 9 := by decide +kernel
theorem ri_cl_10 : Int32.toNatClampNeg 10 = 10 := by decide +kernel
theorem ri_cl_11 : Int32.toNatClampNeg 11 = 11 := by decide +kernel
theorem ri_cl_12 : Int32.toNatClampNeg 12 = 12 := by decide +kernel
theorem up_id (f : pr_M) (c j : Nat) : pr_up f c j (f c j) = f := by
  funext a b
  unfold pr_up
  by_cases h : a = c ∧ b = j
  · rw [if_pos h, h.1, h.2]
  · rw [if_neg h]
theorem l_if {p : Prop} [Decidable p] {x y : Int32} : (if p then some x else some y) = some (if p then x else y) := by
  by_cases h : p
  · rw [if_pos h, if_pos h]
  · rw [if_neg h, if_neg h]
theorem i_910 (x : Int32) : x ≤ 9 ↔ x < 10 := by
  rw [Int32.le_iff_toInt_le, Int32.lt_iff_toInt_lt, show (9 : Int32).toInt = 9 by decide, show (10 : Int32).toInt = 10 by decide]
  omega
set_option maxHeartbeats 4000000 in
theorem l_C_ok {u : Int32} {q z w : Nat} {b : pr_M} {m k : Int32} (h : UQ u q) (hz : 50 ≤ z) (hw : 50 ≤ w) (hzw : z ≠ w) (h3 : b 1 3 = 2) (h5 : b z 5 = 0) (hor : ¬ rv_abs m ≤ b (q + 1) 6 ∨ ¬ rv_abs k ≤ b (q + 1) 6) :
    ∃ g, l_C u z w (b (q + 1) 6) (b (q + 1) 4) (b (q + 1) 7) m k b = some (1, g) ∧ g z 0 = k_ph (b (q + 1)) (b z 5) (b z 0) (b z 4) m ∧ g z 1 = k_sk (b (q + 1)) (b z 5) (b z 1) k ∧ g z 4 = k_sm (b (q + 1)) (b z 5) (b z 4) m ∧ g z 5 = k_wt (b (q + 1)) (b z 5) m k ∧
      g w 2 = k_ad (b (q + 1)) (b z 5) m k (g z 0) (b z 0) (b w 2) ∧ g w 3 = k_ad (b (q + 1)) (b z 5) m k (g z 1) (b z 1) (b w 3) ∧
      (∀ c j, (c ≠ z ∨ (j ≠ 0 ∧ j ≠ 1 ∧ j ≠ 4 ∧ j ≠ 5)) → (c ≠ w ∨ (j ≠ 2 ∧ j ≠ 3)) → g c j = b c j) := by
  have hq : q ≤ 14 := by rcases h with ⟨-, rfl⟩ | ⟨-, rfl⟩ <;> decide
  have g5 : ∀ x, F_X8_get 0 u 5 (pr_up b z 4 x) = some (b (q + 1) 5) := fun x => by rw [c_get_5 h (by rw [rd_n (by omega)]; exact h3), rd_n (by omega)]
  have e2 : ∀ sk g st m, rl_lim (sk + rl_lim ((-(g * m)) / 256) st) 3000 = rv_sk sk g st m := fun _ _ _ _ => rfl
  have e1 : ∀ ph g sg st s m, rl_lim (ph + rl_lim ((-(g * m + sg * s)) / 256) st) 5000 = rv_ph ph g sg st s m := fun _ _ _ _ _ _ => rfl
  have e0 : ∀ s m, rl_lim (s + m) 20000 = rv_sum s m := fun _ _ => rfl
  unfold k_ph k_sk k_sm k_wt k_ad
  by_cases hP : rv_abs m ≤ b (q + 1) 6 <;> by_cases hQ : rv_abs k ≤ b (q + 1) 6
  · exact absurd hor (fun o => o.elim (fun c => c hP) (fun c => c hQ))
  · refine ⟨?_, ?_, ?_⟩
    rotate_left
    · unfold l_C
      simp (disch := omega) only [l_size, if_pos hP, if_neg hQ, pr_b1_s, pr_bd_s, pr_lt_s, l_limited, ri_cl_0, ri_cl_1, ri_cl_2, ri_cl_3, ri_cl_4, ri_cl_5, e2]
      rw [c_get_1 h (by simp (disch := omega) only [rd_n]; exact h3), pr_b1_s]
    rw [if_neg (fun c => c.2 hP), if_pos ⟨h5, hQ⟩, if_neg (fun c => c.2 hP), if_pos ⟨h5, hor⟩, if_pos ⟨h5, hor⟩, if_pos ⟨h5, hor⟩]
    refine ⟨?_, ?_, ?_, ?_, ?_, ?_, fun c j c1 c2 => ?_⟩ <;> simp (disch := omega) only [rd_n, rd_e]
  · refine ⟨?_, ?_, ?_⟩
    rotate_left
    · unfold l_C
      simp (disch := omega) only [l_size, if_neg hP, if_pos hQ, pr_b1_s, pr_bd_s, pr_lt_s, l_limited, ri_cl_0, ri_cl_1, ri_cl_2, ri_cl_3, ri_cl_4, ri_cl_5, g5, rd_n, rd_e, e0, e1]
      rw [c_get_1 h (by simp (disch := omega) only [rd_n]; exact h3), pr_b1_s]
    rw [if_pos ⟨h5, hP⟩, if_neg (fun c => c.2 hQ), if_pos ⟨h5, hP⟩, if_pos ⟨h5, hor⟩, if_pos ⟨h5, hor⟩, if_pos ⟨h5, hor⟩]
    refine ⟨?_, ?_, ?_, ?_, ?_, ?_, fun c j c1 c2 => ?_⟩ <;> simp (disch := omega) only [rd_n, rd_e]
  · refine ⟨?_, ?_, ?_⟩
    rotate_left
    · unfold l_C
      simp (disch := omega) only [l_size, if_neg hP, if_neg hQ, pr_b1_s, pr_bd_s, pr_lt_s, l_limited, ri_cl_0, ri_cl_1, ri_cl_2, ri_cl_3, ri_cl_4, ri_cl_5, g5, rd_n, rd_e, e0, e1, e2]
      rw [c_get_1 h (by simp (disch := omega) only [rd_n]; exact h3), pr_b1_s]
    rw [if_pos ⟨h5, hP⟩, if_pos ⟨h5, hQ⟩, if_pos ⟨h5, hP⟩, if_pos ⟨h5, hor⟩, if_pos ⟨h5, hor⟩, if_pos ⟨h5, hor⟩]
    refine ⟨?_, ?_, ?_, ?_, ?_, ?_, fun c j c1 c2 => ?_⟩ <;> simp (disch := omega) only [rd_n, rd_e]
theorem l_T_ok {u : Int32} {q z w : Nat} {b : pr_M} {m k : Int32} (h : UQ u q) (hz : 50 ≤ z) (hw : 50 ≤ w) (hzw : z ≠ w) (h3 : b 1 3 = 2) :
    ∃ g, l_T u z w m k b = some (1, g) ∧ g z 0 = k_ph (b (q + 1)) (b z 5) (b z 0) (b z 4) m ∧ g z 1 = k_sk (b (q + 1)) (b z 5) (b z 1) k ∧ g z 4 = k_sm (b (q + 1)) (b z 5) (b z 4) m ∧ g z 5 = k_wt (b (q + 1)) (b z 5) m k ∧
      g w 2 = k_ad (b (q + 1)) (b z 5) m k (g z 0) (b z 0) (b w 2) ∧ g w 3 = k_ad (b (q + 1)) (b z 5) m k (g z 1) (b z 1) (b w 3) ∧
      (∀ c j, (c ≠ z ∨ (j ≠ 0 ∧ j ≠ 1 ∧ j ≠ 4 ∧ j ≠ 5)) → (c ≠ w ∨ (j ≠ 2 ∧ j ≠ 3)) → g c j = b c j) := by
  have eT : l_T u z w m k b = if b z 5 = 0 then (if b (q + 1) 6 < rv_abs m then l_C u z w (b (q + 1) 6) (b (q + 1) 4) (b (q + 1) 7) m k b else if rv_abs k ≤ b (q + 1) 6 then some (1, b) else l_C u z w (b (q + 1) 6) (b (q + 1) 4) (b (q + 1) 7) m k b) else some (1, b) := by
    unfold l_T
    rw [c_get_6 h h3, pr_b1_s, c_get_4 h h3, pr_b1_s, c_get_7 h h3, pr_b1_s, ri_cl_5, l_size, pr_b1_s, l_size, pr_b1_s]
  rw [eT]
  by_cases h5 : b z 5 = 0
  · rw [if_pos h5]
    by_cases hP : rv_abs m ≤ b (q + 1) 6
    · rw [if_neg (Int32.not_lt.mpr hP)]
      by_cases hQ : rv_abs k ≤ b (q + 1) 6
      · rw [if_pos hQ]
        unfold k_ph k_sk k_sm k_wt k_ad
        refine ⟨b, rfl, ?_, ?_, ?_, ?_, ?_, ?_, fun _ _ _ _ => rfl⟩
        · rw [if_neg (fun c => c.2 hP)]
        · rw [if_neg (fun c => c.2 hQ)]
        · rw [if_neg (fun c => c.2 hP)]
        · rw [if_neg (fun c => c.2.elim (fun y => y hP) (fun y => y hQ))]
        · rw [if_neg (fun c => c.2.elim (fun y => y hP) (fun y => y hQ))]
        · rw [if_neg (fun c => c.2.elim (fun y => y hP) (fun y => y hQ))]
      · rw [if_neg hQ]
        exact l_C_ok h hz hw hzw h3 h5 (Or.inr hQ)
    · rw [if_pos (Int32.not_le.mp hP)]
      exact l_C_ok h hz hw hzw h3 h5 (Or.inl hP)
  · rw [if_neg h5]
    unfold k_ph k_sk k_sm k_wt k_ad
    refine ⟨b, rfl, ?_, ?_, ?_, ?_, ?_, ?_, fun _ _ _ _ => rfl⟩ <;> rw [if_neg (fun c => h5 c.1)]
theorem l_Lr_ok {u : Int32} {q z w : Nat} {b : pr_M} {m k ch : Int32} (h : UQ u q) (hz : 50 ≤ z) (h3 : b 1 3 = 2) :
    l_Lr u z w m k ch b = l_T u z w m k (pr_up (pr_up (pr_up b z 3 (k_fd (b (q + 1)) (b z 3) m (b z 8) ch)) z 8 m) z 9 k) := by
  unfold l_Lr
  rw [c_get_8 h h3, pr_b1_s, l_size, pr_b1_s, ri_cl_3, ri_cl_8, ri_cl_9]
  unfold k_fd
  by_cases h1 : rv_abs ch < 10
  · rw [if_pos ((i_910 _).mpr h1), if_neg (fun c => c.1 h1), pr_bd_s, pr_lt_s, pr_lt_s, up_id]
  · rw [if_neg (fun c => h1 ((i_910 _).mp c))]
    by_cases h2 : b (q + 1) 8 ≤ 0
    · rw [if_pos h2, if_neg (fun c => Int32.not_lt.mpr h2 c.2), pr_bd_s, pr_lt_s, pr_lt_s, up_id]
    · rw [if_neg h2, if_pos ⟨h1, Int32.not_le.mp h2⟩, pr_gdT (rv_abs0 h1), l_limited, pr_b1_s, pr_lt_s, pr_bd_s, pr_lt_s, pr_lt_s]
theorem l_pick {hid fl dT dF W : Int32} {β : Type} (K : Int32 → Option β) : (pr_b1 (α := Int32) (if hid = 0 then (if W < dT then some 0 else some 1) else some 0) fun v12 => pr_b1 (α := Int32) (if fl ≤ 0 then some 0 else (if W < dF then some 0 else some 1)) fun v15 => pr_b1 (α := Int32) (if v12 = 0 then (if v15 = 0 then some 0 else some 2) else (if v15 = 0 then some 1 else (if dF < dT then some 2 else some 1))) K) = K (rv_rec hid fl dT dF W) := by
  have t10 : ¬ (1 : Int32) = 0 := by decide
  unfold rv_rec
  by_cases h1 : hid = 0 <;> by_cases h2 : W < dT <;> by_cases h3 : fl ≤ 0 <;> by_cases h4 : W < dF <;> by_cases h5 : dF < dT <;> simp [h1, h2, h3, h4, h5, pr_b1_s]
theorem l_win (S2 S3 n6 n7 : Int32) : S2 * (if S3 ≤ n6 ∨ ¬ n7 ≤ 0 then 4 else 1) = rv_win n6 S3 n7 S2 := by
  unfold rv_win
  by_cases h : S3 ≤ n6 ∨ ¬ n7 ≤ 0
  · rw [if_pos h, if_pos h, Int32.mul_comm]
  · rw [if_neg h, if_neg h, Int32.mul_one]
theorem l_v5 (S3 n6 n7 : Int32) : (if S3 ≤ n6 then some (4 : Int32) else (if n7 ≤ 0 then some 1 else some 4)) = some (if S3 ≤ n6 ∨ ¬ n7 ≤ 0 then 4 else 1) := by
  by_cases h1 : S3 ≤ n6 <;> by_cases h2 : n7 ≤ 0 <;> simp [h1, h2]
set_option maxHeartbeats 4000000 in
theorem l_seen {u : Int32} {q z w t : Nat} {f : pr_M} {err sk ch R m k : Int32} (h : UQ u q) (hz : 50 ≤ z) (hw : 50 ≤ w) (hzw : z ≠ w) (h3 : f 1 3 = 2) (h4 : f 1 4 = nI (t + 1)) (ht : t < 90) (hR : R = w_R (f (q + 1)) (f z) err (f w 4)) (hm : m = if R = 1 then err else f w 4) (hk : k = if R = 1 then sk else f z 9)
    (s4 : f (q + 6) 4 = 1) (s5 : f (q + 6) 5 = err) (s6 : f (q + 6) 6 = sk) (s7 : f (q + 6) 7 = R) (s8 : ¬ R = 0 → f (q + 6) 8 = m ∧ f (q + 6) 9 = k) :
    ∃ g, F_L_isSeen 0 u z w err sk ch f = some (1, g) ∧ (∀ j, j < 13 → g z j = w_N (f (q + 1)) (f z) R m k ch j) ∧ g z 13 = f z 13 ∧ g w 2 = w_A (f (q + 1)) (f z) R m k (f w 2) ∧ g w 3 = w_B (f (q + 1)) (f z) R m k (f w 3) ∧
      (∀ c j, c ≠ z → (c ≠ w ∨ (j ≠ 2 ∧ j ≠ 3)) → g c j = f c j) := by
  have hq : q ≤ 14 := by rcases h with ⟨-, rfl⟩ | ⟨-, rfl⟩ <;> decide
  have hR' : rv_rec (f z 11) (f z 12) (rv_abs (err - f z 8)) (rv_abs (f w 4 - f z 8)) (rv_win (f z 6) (f (q + 1) 3) (f z 7) (f (q + 1) 2)) = R := hR.symm
  rw [l_seen_eq, c_get_2 h h3, pr_b1_s, c_get_3 h h3, pr_b1_s, ri_cl_6, ri_cl_7, ri_cl_8, ri_cl_4, ri_cl_11, ri_cl_12, ri_cl_9, l_v5, pr_b1_s, l_win, l_size, pr_b1_s, l_size, pr_b1_s, l_pick, hR']
  rw [c_seen2 h h3 h4 (by omega), pr_b1_s, s4, if_neg t10, s5, if_pos rfl, c_seen3 h h3 h4 (by omega), pr_b1_s, s4, if_neg t10, s6, if_pos rfl, c_seen4 h h3 h4 (by omega), pr_b1_s, s4, if_neg t10, s7, if_pos rfl]
  by_cases h0 : R = 0
  · have u3 : ∀ x, (pr_up f z 6 x) 1 3 = 2 := fun x => by rw [rd_n (by omega)]; exact h3
    have u4 : ∀ x, (pr_up f z 6 x) 1 4 = nI (t + 1) := fun x => by rw [rd_n (by omega)]; exact h4
    have u7 : ∀ x, (pr_up f z 6 x) (q + 6) 7 = 0 := fun x => by rw [rd_n (by omega), s7, h0]
    rw [if_pos h0, pr_lt_s, c_seen5 h (u3 _) (u4 _) (by omega), pr_b1_s, if_pos (u7 _), if_pos rfl, c_seen6 h (u3 _) (u4 _) (by omega), pr_b1_s, if_pos (u7 _), if_pos rfl]
    refine ⟨_, rfl, fun j hj => ?_, ?_, ?_, ?_, fun c j c1 c2 => ?_⟩
    · rcases k13 hj with rfl | rfl | rfl | rfl | rfl | rfl | rfl | rfl | rfl | rfl | rfl | rfl | rfl <;> simp only [w_N, if_pos h0] <;> simp (disch := omega) only [rd_n, rd_e]
    · rw [rd_n (by omega)]
    · unfold w_A; rw [if_pos h0, rd_n (by omega)]
    · unfold w_B; rw [if_pos h0, rd_n (by omega)]
    · rw [rd_n (by omega)]
  · obtain ⟨s8, s9⟩ := s8 h0
    have hr7 : ¬ f (q + 6) 7 = 0 := by rw [s7]; exact h0
    rw [if_neg h0, l_if, pr_b1_s, l_if, pr_b1_s, ← hm, ← hk, c_seen5 h h3 h4 (by omega), pr_b1_s, if_neg hr7, s8, if_pos rfl, c_seen6 h h3 h4 (by omega), pr_b1_s, if_neg hr7, s9, if_pos rfl, pr_lt_s, l_Lr_ok h hz (by rw [rd_n (by omega)]; exact h3)]
    have S0 : (pr_up f z 6 0) (q + 1) = f (q + 1) := by
      funext j
      exact rd_n (by omega)
    rw [S0, rd_n (c := z) (j := 3) (by omega), rd_n (c := z) (j := 8) (by omega)]
    generalize hb : pr_up (pr_up (pr_up (pr_up f z 6 0) z 3 (k_fd (f (q + 1)) (f z 3) m (f z 8) ch)) z 8 m) z 9 k = b
    have B : ∀ c j, (c ≠ z ∨ (j ≠ 6 ∧ j ≠ 3 ∧ j ≠ 8 ∧ j ≠ 9)) → b c j = f c j := fun c j hc => by
      rw [← hb]; simp (disch := omega) only [rd_n]
    have b6 : b z 6 = 0 := by rw [← hb]; simp (disch := omega) only [rd_n, rd_e]
    have b3 : b z 3 = k_fd (f (q + 1)) (f z 3) m (f z 8) ch := by rw [← hb]; simp (disch := omega) only [rd_n, rd_e]
    have b8 : b z 8 = m := by rw [← hb]; simp (disch := omega) only [rd_n, rd_e]
    have b9 : b z 9 = k := by rw [← hb]; simp (disch := omega) only [rd_n, rd_e]
    have Sb : b (q + 1) = f (q + 1) := by
      funext j
      exact B _ _ (by omega)
    obtain ⟨g, e1, e2, e3, e4, e5, e6, e7, e8⟩ := l_T_ok (u := u) (q := q) (z := z) (w := w) (b := b) (m := m) (k := k) h hz hw hzw (by rw [B _ _ (by omega)]; exact h3)
    rw [Sb] at e2 e3 e4 e5 e6 e7
    simp (disch := omega) only [B] at e2 e3 e4 e5 e6 e7
    refine ⟨g, e1, fun j hj => ?_, ?_, ?_, ?_, fun c j c1 c2 => ?_⟩
    · rcases k13 hj with rfl | rfl | rfl | rfl | rfl | rfl | rfl | rfl | rfl | rfl | rfl | rfl | rfl <;> simp only [w_N, if_neg h0]
      · exact e2
      · exact e3
      · rw [e8 _ _ (by omega) (by omega), B _ _ (by omega)]
      · rw [e8 _ _ (by omega) (by omega)]; exact b3
      · exact e4
      · exact e5
      · rw [e8 _ _ (by omega) (by omega)]; exact b6
      · rw [e8 _ _ (by omega) (by omega), B _ _ (by omega)]
      · rw [e8 _ _ (by omega) (by omega)]; exact b8
      · rw [e8 _ _ (by omega) (by omega)]; exact b9
      · rw [e8 _ _ (by omega) (by omega), B _ _ (by omega)]
      · rw [e8 _ _ (by omega) (by omega), B _ _ (by omega)]
      · rw [e8 _ _ (by omega) (by omega), B _ _ (by omega)]
    · rw [e8 _ _ (by omega) (by omega), B _ _ (by omega)]
    · unfold w_A; rw [if_neg h0, e6, e2]
    · unfold w_B; rw [if_neg h0, e7, e3]
    · rw [e8 _ _ (by omega) c2, B _ _ (by omega)]
