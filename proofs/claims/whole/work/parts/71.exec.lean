/-! ===== a step is carried out ===== -/
def pOK (st : pr_Stp) : Prop := (st.1 = 100 ∨ st.1 = 110 ∨ st.1 = 112 ∨ st.1 = 118) ∧ st.2.1 ≤ 4 ∧ (st.1 ≠ 100 → st.2.1 = 0) ∧ (st.1 = 110 → ∃ v, st.2.2.1 = nI v ∧ v ≤ 99) ∧ (st.1 = 112 → 1 ≤ st.2.2.2 ∧ st.2.2.2 ≤ 50)
theorem q_dist_d {len s s' D : Nat} {A : Int32} {e : Nat → Nat} (h : tx len e) (hs : s ≤ len) (hq : q_dist e s = (s', some (A, D))) : 1 ≤ D ∧ D ≤ 50 := by
  have T : ∀ (sg : Int32 → Int32) (s s' : Nat), s ≤ len → q_tail e sg s = (s', some (A, D)) → 1 ≤ D ∧ D ≤ 50 := fun sg s s' hs hq => by
    unfold q_tail at hq
    rcases q1 : q_num e 0 3000 s with ⟨s2, _ | v⟩
    · rw [q1] at hq
      cases hq
    · rw [q1] at hq
      dsimp only at hq
      by_cases c : e s2 = 47
      · have hl : s2 < len := tx_in h (by omega)
        rw [if_pos c] at hq
        rcases q2 : q_num e 1 50 (s2 + 1) with ⟨s4, _ | d⟩
        · rw [q2] at hq
          cases hq
        · have b2 := (q_num_b h (show s2 + 1 ≤ len by omega) (by decide) q2).2.2 d rfl
          rw [q2] at hq
          cases hq
          omega
      · rw [if_neg c] at hq
        cases hq
  unfold q_dist at hq
  by_cases c : e s = 45
  · rw [if_pos c] at hq
    have hl : s < len := tx_in h (by omega)
    exact T q_neg (s + 1) s' (by omega) hq
  · rw [if_neg c] at hq
    exact T id s s' hs hq
theorem q_step_ok {len s s' : Nat} {st : pr_Stp} {e : Nat → Nat} (h : tx len e) (hs : s ≤ len) (hq : q_step e s = (s', some st)) : pOK st ∧ s < len := by
  unfold q_step at hq
  by_cases c1 : e s = 100
  · have hl : s < len := tx_in h (by omega)
    rw [if_pos c1] at hq
    by_cases c2 : 48 ≤ e (s + 1) ∧ e (s + 1) ≤ 52
    · rw [if_pos c2] at hq
      by_cases c3 : e (s + 2) = 58
      · rw [if_pos c3] at hq
        rcases q : q_dist e (s + 3) with ⟨z, _ | ⟨A, D⟩⟩
        · rw [q] at hq; cases hq
        · rw [q] at hq; cases hq
          exact ⟨⟨Or.inl rfl, by dsimp only; omega, fun c => absurd rfl c, fun c => absurd (show (100 : Nat) = 110 from c) (by decide), fun c => absurd (show (100 : Nat) = 112 from c) (by decide)⟩, hl⟩
      · rw [if_neg c3] at hq; cases hq
    · rw [if_neg c2] at hq; cases hq
  · rw [if_neg c1] at hq
    by_cases c2 : e s = 110
    · have hl : s < len := tx_in h (by omega)
      rw [if_pos c2] at hq
      rcases q : q_num e 1 99 (s + 1) with ⟨z, _ | v⟩
      · rw [q] at hq; cases hq
      · have b := (q_num_b h (show s + 1 ≤ len by omega) (by decide) q).2.2 v rfl
        rw [q] at hq; cases hq
        exact ⟨⟨Or.inr (Or.inl rfl), Nat.zero_le _, fun _ => rfl, fun _ => ⟨v, rfl, b.2.2⟩, fun c => absurd (show (110 : Nat) = 112 from c) (by decide)⟩, hl⟩
    · rw [if_neg c2] at hq
      by_cases c3 : e s = 112
      · have hl : s < len := tx_in h (by omega)
        rw [if_pos c3] at hq
        rcases q : q_dist e (s + 1) with ⟨z, _ | ⟨A, D⟩⟩
        · rw [q] at hq; cases hq
        · have b := q_dist_d h (show s + 1 ≤ len by omega) q
          rw [q] at hq; cases hq
          exact ⟨⟨Or.inr (Or.inr (Or.inl rfl)), Nat.zero_le _, fun _ => rfl, fun c => absurd (show (112 : Nat) = 110 from c) (by decide), fun _ => b⟩, hl⟩
      · rw [if_neg c3] at hq
        by_cases c4 : e s = 118
        · have hl : s < len := tx_in h (by omega)
          rw [if_pos c4] at hq
          rcases q : q_num e 0 1000 (s + 1) with ⟨z, _ | v⟩
          · rw [q] at hq; cases hq
          · rw [q] at hq; cases hq
            exact ⟨⟨Or.inr (Or.inr (Or.inr rfl)), Nat.zero_le _, fun _ => rfl, fun c => absurd (show (118 : Nat) = 110 from c) (by decide), fun c => absurd (show (118 : Nat) = 112 from c) (by decide)⟩, hl⟩
        · rw [if_neg c4] at hq; cases hq
theorem q_at_ok {len p s' : Nat} {st : pr_Stp} {e : Nat → Nat} (h : tx len e) (hp : p ≤ len) (hq : q_at e p = (s', some st)) : pOK st ∧ p < len := by
  unfold q_at at hq
  by_cases c : p = 0
  · subst c
    rw [if_pos rfl] at hq; exact q_step_ok h hp hq
  · rw [if_neg c] at hq
    by_cases c : e p = 44
    · have hl : p < len := tx_in h (by omega)
      rw [if_pos c] at hq
      exact ⟨(q_step_ok h (show p + 1 ≤ len by omega) hq).1, hl⟩
    · rw [if_neg c] at hq; cases hq
theorem rpn_speed {a b : pr_M} {n t : Nat} (x : Int32) (hn : rpn a b 1 n t) : rpn (pr_up a 1 5 x) (pr_up b 1 1767 x) 1 n t := by
  obtain ⟨h1, h2, h3, h4, h5, h6, h7, h8, h9, h10, h11, h12, h13, h14, h15⟩ := hn
  refine ⟨h1, h2, ?_, ?_, ?_, ?_, ?_, ?_, ?_, fun j hj => ?_, fun i g1 g2 => ?_, fun u hu => ?_, fun ht u hu => ?_, fun u hu => ?_, ?_⟩
  · rw [rd_n (by omega)]; exact h3
  · rw [rd_n (by omega)]; exact h4
  · rw [rd_n (by omega)]; exact h5
  · rw [rd_n (by omega)]; exact h6
  · rw [rd_e ⟨rfl, rfl⟩, rd_e ⟨rfl, rfl⟩]
  · rw [rd_n (by omega), rd_n (by omega)]; exact h8
  · exact rp_sp_same h9 (fun s _ _ => rd_n (by omega)) (fun k _ _ => rd_n (by omega)) (Or.inl (wy_cong fun k _ _ => rd_n (by omega)))
  · rw [rd_n (by omega), rd_n (by omega)]; exact h10 j hj
  · rw [rd_n (by omega), rd_n (by omega)]; exact h11 i g1 g2
  · exact ru_k_same (h12 u hu) (fun j s hj => rd_n (by dsimp only [uq]; omega)) (fun k hk => rd_n (by omega))
  · exact ru_s_same (h13 ht u hu) (fun j s hj => rd_n (by dsimp only [uq]; omega)) (fun k hk => rd_n (by omega))
  · rw [rd_n (by dsimp only [uq]; omega)]; exact h14 u hu
  · rw [rd_n (by dsimp only [uq]; omega), rd_n (by dsimp only [uq]; omega)]; exact h15
theorem op_start {a b : pr_M} {n t : Nat} (x y : Int32) (hy : ¬ y = 0) (ht : t ≤ 200000) (hn : rpn a b 1 n t) : ∃ r r' a' b', F_X3_startSplice 1 x y a = some (r, a') ∧ F_X9_startSplice 0 x y b = some (r', b') ∧ rpn a' b' 1 n t ∧ (∀ c s, 50 ≤ c → a' c s = a c s) ∧ (∀ c k, c ≠ 1 → b' c k = b c k) := by
  obtain ⟨h1, h2, h3, h4, h5, h6, h7, h8, h9, h10, h11, h12, h13, h14, h15⟩ := id hn
  have hn2 : rpn (pr_up (pr_up (pr_up a 1 7 (nI t)) 1 8 x) 1 9 y) (pr_up (pr_up (pr_up b 1 1769 x) 1 1770 y) 1 1771 1) 1 n t := by
    refine ⟨h1, h2, ?_, ?_, ?_, ?_, ?_, ?_, Or.inr ⟨t, ?_, Nat.le_refl _, ?_, Or.inl ⟨?_, ?_, ?_, ?_⟩⟩, fun j hj => ?_, fun i g1 g2 => ?_, fun u hu => ?_, fun ht u hu => ?_, fun u hu => ?_, ?_⟩
    · simp (disch := omega) only [rd_n]; exact h3
    · simp (disch := omega) only [rd_n]; exact h4
    · simp (disch := omega) only [rd_n]; exact h5
    · simp (disch := omega) only [rd_n]; exact h6
    · simp (disch := omega) only [rd_n]; exact h7
    · simp (disch := omega) only [rd_n]; exact h8
    · simp (disch := omega) only [rd_n, rd_e]
    · rw [rd_e ⟨rfl, rfl⟩]; exact hy
    · rw [rd_e ⟨rfl, rfl⟩, Nat.sub_self]; rfl
    · rw [Nat.sub_self]; exact Nat.zero_le _
    · simp (disch := omega) only [rd_n, rd_e]
    · simp (disch := omega) only [rd_n, rd_e]
    · simp (disch := omega) only [rd_n]; exact h10 j hj
    · simp (disch := omega) only [rd_n]; exact h11 i g1 g2
    · exact ru_k_same (h12 u hu) (fun j s hj => by dsimp only [ru_U, uq]; simp (disch := omega) only [rd_n]) (fun k hk => by dsimp only [ru_V]; simp (disch := omega) only [rd_n])
    · exact ru_s_same (h13 ht u hu) (fun j s hj => by dsimp only [ru_U, uq]; simp (disch := omega) only [rd_n]) (fun k hk => by dsimp only [ru_V]; simp (disch := omega) only [rd_n])
    · dsimp only [uq]; simp (disch := omega) only [rd_n]; exact h14 u hu
    · dsimp only [uq]; simp (disch := omega) only [rd_n]; exact h15
  have hw2 := (ap_way hn2 (u := n - 1) (by omega)).2
  have e66 : (pr_up (pr_up (pr_up b 1 1769 x) 1 1770 y) 1 1771 1) 1 1766 = nI n := by simp (disch := omega) only [rd_n]; exact h4
  refine ⟨?_, ?_, _, _, ?_, ?_, hn2, fun c s hc => by simp (disch := omega) only [rd_n], fun c k hc => by simp (disch := omega) only [rd_n]⟩
  rotate_left 2
  · unfold F_X3_startSplice
    rw [h5, pr_lt_s, pr_lt_s, pr_lt_s]
  · unfold F_X9_startSplice
    rw [pr_lt_s, pr_lt_s, pr_lt_s, Nat.zero_add, ri_cl_1769, ri_cl_1770, ri_cl_1771, ri_cl_1766, e66, ri_neg1 (by omega), hw2, pr_b1_s]
