/-! ===== the class reads a step: its outcome ===== -/
theorem q_dist_b {len s s' : Nat} {o : Option (Int32 × Nat)} {e : Nat → Nat} (h : tx len e) (hs : s ≤ len) (hq : q_dist e s = (s', o)) : s' ≤ len ∧ s ≤ s' := by
  have T : ∀ (sg : Int32 → Int32) (s s' : Nat) (o : Option (Int32 × Nat)), s ≤ len → q_tail e sg s = (s', o) → s' ≤ len ∧ s ≤ s' := fun sg s s' o hs hq => by
    unfold q_tail at hq
    rcases q1 : q_num e 0 3000 s with ⟨s2, _ | v⟩
    · have b1 := q_num_b h hs (by decide) q1
      rw [q1] at hq
      cases hq
      exact ⟨b1.2.1, b1.1⟩
    · have b1 := q_num_b h hs (by decide) q1
      rw [q1] at hq
      dsimp only at hq
      by_cases c : e s2 = 47
      · have hl : s2 < len := tx_in h (by omega)
        rw [if_pos c] at hq
        rcases q2 : q_num e 1 50 (s2 + 1) with ⟨s4, _ | d⟩
        · have b2 := q_num_b h (by omega) (by decide) q2
          rw [q2] at hq
          cases hq
          exact ⟨b2.2.1, by omega⟩
        · have b2 := q_num_b h (by omega) (by decide) q2
          rw [q2] at hq
          cases hq
          exact ⟨b2.2.1, by omega⟩
      · rw [if_neg c] at hq
        cases hq
        exact ⟨b1.2.1, b1.1⟩
  unfold q_dist at hq
  by_cases c : e s = 45
  · rw [if_pos c] at hq
    have hl : s < len := tx_in h (by omega)
    have := T q_neg (s + 1) s' o (by omega) hq
    exact ⟨this.1, by omega⟩
  · rw [if_neg c] at hq
    exact T id s s' o hs hq
theorem c_step {len s s' : Nat} {o : Option (Nat × Nat × Int32 × Nat)} {e : Nat → Nat} {a : pr_M} (h : tx len e) (ha : tc len e a) (hs : s ≤ len) (g : cG a s) (hq : q_step e s = (s', o)) : ∃ a', G_step a = some ((), a') ∧ cf a a' ∧ s' ≤ len ∧ (∀ st, o = some st → cG a' s' ∧ sO a' st ∧ s + 2 ≤ s') ∧ (o = none → cB a' s') := by
  have h80 := h.1
  have h126 := tx_lt h s
  have ev : ∀ p : Nat, p ≤ 126 → (pr_up a 199 4 (nI (e s)) 199 4 = nI p ↔ e s = p) := fun p hp => by
    rw [rd_e ⟨rfl, rfl⟩]
    exact nI_eq (by omega) (by omega)
  unfold G_step
  rw [g.1, c_code h ha (by omega), pr_b1_s, pr_lt_s]
  have k0 : cf a (pr_up a 199 4 (nI (e s))) := cf_up _ _ _ (by decide) (by decide)
  have g0 : cG (pr_up a 199 4 (nI (e s))) s := cG_up g (by decide)
  have t0 := tc_cf ha k0
  unfold q_step at hq
  by_cases c1 : e s = 100
  · rw [if_pos (show pr_up a 199 4 (nI (e s)) 199 4 = 100 from (ev 100 (by decide)).mpr c1)]
    rw [if_pos c1] at hq
    have hl : s < len := tx_in h (by omega)
    obtain ⟨a1, e1, g1, h1⟩ := (c_sign (p := 100) h t0 (by omega) (by decide) g0).1 c1
    have k1 := cf_t k0 (f2_cf h1)
    have v1 : a1 199 4 = nI 100 := by rw [h1 _ _ (by omega), rd_e ⟨rfl, rfl⟩, c1]
    rw [show F_X2_readSign 199 100 (pr_up a 199 4 (nI (e s))) = some ((), a1) from e1, pr_bd_s]
    have tu := c_unit h (tc_cf ha k1) (show s + 1 ≤ len by omega) g1
    by_cases cu : 48 ≤ e (s + 1) ∧ e (s + 1) ≤ 52
    · obtain ⟨a2, e2, g2, h2⟩ := tu.1 cu
      rw [if_pos cu] at hq
      have hl1 : s + 1 < len := tx_in h (by omega)
      have k2 := cf_t k1 (cf_t (f2_cf h2) (cf_up a2 5 (nI (e (s + 1) - 48)) (by decide) (by decide)))
      rw [e2, pr_bd_s, pr_lt_s]
      have ts := c_sign (p := 58) h (tc_cf ha k2) (show s + 1 + 1 ≤ 90 by omega) (by decide) (cG_up g2 (by decide))
      by_cases cs : e (s + 2) = 58
      · obtain ⟨a3, e3, g3, h3⟩ := ts.1 cs
        rw [if_pos cs] at hq
        have hl2 : s + 2 < len := tx_in h (by omega)
        have k3 := cf_t k2 (f2_cf h3)
        rw [show F_X2_readSign 199 58 (pr_up a2 199 5 (nI (e (s + 1) - 48))) = some ((), a3) from e3, pr_bd_s]
        rcases qd : q_dist e (s + 3) with ⟨s4, _ | ⟨A, D⟩⟩
        · obtain ⟨a4, e4, h4, b4, -, n4⟩ := c_dist h (tc_cf ha k3) (by omega) g3 qd
          rw [e4, pr_bd_s]
          rw [qd] at hq
          cases hq
          exact ⟨_, rfl, cf_t k3 (fd_cf h4), b4, fun st c => (by cases c), fun _ => n4 rfl⟩
        · obtain ⟨a4, e4, h4, b4, n4, -⟩ := c_dist h (tc_cf ha k3) (by omega) g3 qd
          rw [e4, pr_bd_s]
          rw [qd] at hq
          cases hq
          obtain ⟨w1, w2, w3, w4, w5⟩ := n4 A D rfl
          refine ⟨_, rfl, cf_t k3 (fd_cf h4), b4, fun st c => ?_, fun c => (by cases c)⟩
          cases c
          refine ⟨w1, ⟨?_, fun _ => ?_, w2, fun _ => w3⟩, by omega⟩
          · rw [h4 _ _ (by omega), h3 _ _ (by omega), rd_n (by omega), h2 _ _ (by omega)]; exact v1
          · rw [h4 _ _ (by omega), h3 _ _ (by omega), rd_e ⟨rfl, rfl⟩]
      · obtain ⟨a3, e3, g3, h3⟩ := ts.2 cs
        rw [if_neg cs] at hq
        cases hq
        have k3 := cf_t k2 (f2_cf h3)
        obtain ⟨a4, e4, g4, h4⟩ := c_dist_b h (tc_cf ha k3) (by omega) g3
        rw [show F_X2_readSign 199 58 (pr_up a2 199 5 (nI (e (s + 1) - 48))) = some ((), a3) from e3, pr_bd_s, e4, pr_bd_s]
        exact ⟨_, rfl, cf_t k3 (fd_cf h4), by omega, fun st c => (by cases c), fun _ => g4⟩
    · obtain ⟨r2, a2, e2, g2, h2⟩ := tu.2 cu
      rw [if_neg cu] at hq
      cases hq
      have k2 := cf_t k1 (cf_t (f2_cf h2) (cf_up a2 5 r2 (by decide) (by decide)))
      obtain ⟨a3, e3, g3, h3⟩ := c_sign_b 58 h (tc_cf ha k2) (by omega) (cB_up g2 (by decide))
      have k3 := cf_t k2 (f2_cf h3)
      obtain ⟨a4, e4, g4, h4⟩ := c_dist_b h (tc_cf ha k3) (by omega) g3
      rw [e2, pr_bd_s, pr_lt_s, e3, pr_bd_s, e4, pr_bd_s]
      exact ⟨_, rfl, cf_t k3 (fd_cf h4), by omega, fun st c => (by cases c), fun _ => g4⟩
  · rw [if_neg (show ¬ pr_up a 199 4 (nI (e s)) 199 4 = 100 from fun c => c1 ((ev 100 (by decide)).mp c))]
    rw [if_neg c1] at hq
    by_cases c2 : e s = 110
    · rw [if_pos (show pr_up a 199 4 (nI (e s)) 199 4 = 110 from (ev 110 (by decide)).mpr c2)]
      rw [if_pos c2] at hq
      have hl : s < len := tx_in h (by omega)
      obtain ⟨a1, e1, g1, h1⟩ := (c_sign (p := 110) h t0 (by omega) (by decide) g0).1 c2
      have k1 := cf_t k0 (f2_cf h1)
      have v1 : a1 199 4 = nI 110 := by rw [h1 _ _ (by omega), rd_e ⟨rfl, rfl⟩, c2]
      rw [show F_X2_readSign 199 110 (pr_up a 199 4 (nI (e s))) = some ((), a1) from e1, pr_bd_s]
      rcases qn : q_num e 1 99 (s + 1) with ⟨s4, _ | v⟩
      · obtain ⟨r2, a2, e2, g2, h2⟩ := c_num_n h (tc_cf ha k1) (show s + 1 ≤ len by omega) (by decide) (by decide) (by decide) g1 qn
        have b2 := q_num_b h (show s + 1 ≤ len by omega) (by decide) qn
        rw [qn] at hq
        cases hq
        rw [show F_X2_readNumber 199 1 99 a1 = some (r2, a2) from e2, pr_bd_s, pr_lt_s]
        exact ⟨_, rfl, cf_t k1 (cf_t (f2_cf h2) (cf_up a2 6 r2 (by decide) (by decide))), b2.2.1, fun st c => (by cases c), fun _ => cB_up g2 (by decide)⟩
      · obtain ⟨a2, e2, g2, h2⟩ := c_num_s h (tc_cf ha k1) (show s + 1 ≤ len by omega) (by decide) (by decide) (by decide) g1 qn
        have b2 := q_num_b h (show s + 1 ≤ len by omega) (by decide) qn
        have b2v := b2.2.2 v rfl
        rw [qn] at hq
        cases hq
        rw [show F_X2_readNumber 199 1 99 a1 = some (nI v, a2) from e2, pr_bd_s, pr_lt_s]
        refine ⟨_, rfl, cf_t k1 (cf_t (f2_cf h2) (cf_up a2 6 (nI v) (by decide) (by decide))), b2.2.1, fun st c => ?_, fun c => (by cases c)⟩
        cases c
        refine ⟨cG_up g2 (by decide), ⟨?_, fun c => absurd (show (110 : Nat) = 100 from c) (by decide), rd_e ⟨rfl, rfl⟩, fun c => absurd (show (110 : Nat) = 100 ∨ (110 : Nat) = 112 from c) (by decide)⟩, by omega⟩
        rw [rd_n (by omega), h2 _ _ (by omega)]; exact v1
    · rw [if_neg (show ¬ pr_up a 199 4 (nI (e s)) 199 4 = 110 from fun c => c2 ((ev 110 (by decide)).mp c))]
      rw [if_neg c2] at hq
      by_cases c3 : e s = 112
      · rw [if_pos (show pr_up a 199 4 (nI (e s)) 199 4 = 112 from (ev 112 (by decide)).mpr c3)]
        rw [if_pos c3] at hq
        have hl : s < len := tx_in h (by omega)
        obtain ⟨a1, e1, g1, h1⟩ := (c_sign (p := 112) h t0 (by omega) (by decide) g0).1 c3
        have k1 := cf_t k0 (f2_cf h1)
        have v1 : a1 199 4 = nI 112 := by rw [h1 _ _ (by omega), rd_e ⟨rfl, rfl⟩, c3]
        rw [show F_X2_readSign 199 112 (pr_up a 199 4 (nI (e s))) = some ((), a1) from e1, pr_bd_s]
        rcases qd : q_dist e (s + 1) with ⟨s4, _ | ⟨A, D⟩⟩
        · obtain ⟨a4, e4, h4, b4, -, n4⟩ := c_dist h (tc_cf ha k1) (by omega) g1 qd
          rw [e4, pr_bd_s]
          rw [qd] at hq
          cases hq
          exact ⟨_, rfl, cf_t k1 (fd_cf h4), b4, fun st c => (by cases c), fun _ => n4 rfl⟩
        · obtain ⟨a4, e4, h4, b4, n4, -⟩ := c_dist h (tc_cf ha k1) (by omega) g1 qd
          rw [e4, pr_bd_s]
          rw [qd] at hq
          cases hq
          obtain ⟨w1, w2, w3, w4, w5⟩ := n4 A D rfl
          refine ⟨_, rfl, cf_t k1 (fd_cf h4), b4, fun st c => ?_, fun c => (by cases c)⟩
          cases c
          refine ⟨w1, ⟨?_, fun c => absurd (show (112 : Nat) = 100 from c) (by decide), w2, fun _ => w3⟩, by omega⟩
          rw [h4 _ _ (by omega)]; exact v1
      · rw [if_neg (show ¬ pr_up a 199 4 (nI (e s)) 199 4 = 112 from fun c => c3 ((ev 112 (by decide)).mp c))]
        rw [if_neg c3] at hq
        by_cases c4 : e s = 118
        · rw [if_pos (show pr_up a 199 4 (nI (e s)) 199 4 = 118 from (ev 118 (by decide)).mpr c4)]
          rw [if_pos c4] at hq
          have hl : s < len := tx_in h (by omega)
          obtain ⟨a1, e1, g1, h1⟩ := (c_sign (p := 118) h t0 (by omega) (by decide) g0).1 c4
          have k1 := cf_t k0 (f2_cf h1)
          have v1 : a1 199 4 = nI 118 := by rw [h1 _ _ (by omega), rd_e ⟨rfl, rfl⟩, c4]
          rw [show F_X2_readSign 199 118 (pr_up a 199 4 (nI (e s))) = some ((), a1) from e1, pr_bd_s]
          rcases qn : q_num e 0 1000 (s + 1) with ⟨s4, _ | v⟩
          · obtain ⟨r2, a2, e2, g2, h2⟩ := c_num_n h (tc_cf ha k1) (show s + 1 ≤ len by omega) (by decide) (by decide) (by decide) g1 qn
            have b2 := q_num_b h (show s + 1 ≤ len by omega) (by decide) qn
            rw [qn] at hq
            cases hq
            rw [show F_X2_readNumber 199 0 1000 a1 = some (r2, a2) from e2, pr_bd_s, pr_lt_s]
            exact ⟨_, rfl, cf_t k1 (cf_t (f2_cf h2) (cf_up a2 6 r2 (by decide) (by decide))), b2.2.1, fun st c => (by cases c), fun _ => cB_up g2 (by decide)⟩
          · obtain ⟨a2, e2, g2, h2⟩ := c_num_s h (tc_cf ha k1) (show s + 1 ≤ len by omega) (by decide) (by decide) (by decide) g1 qn
            have b2 := q_num_b h (show s + 1 ≤ len by omega) (by decide) qn
            have b2v := b2.2.2 v rfl
            rw [qn] at hq
            cases hq
            rw [show F_X2_readNumber 199 0 1000 a1 = some (nI v, a2) from e2, pr_bd_s, pr_lt_s]
            refine ⟨_, rfl, cf_t k1 (cf_t (f2_cf h2) (cf_up a2 6 (nI v) (by decide) (by decide))), b2.2.1, fun st c => ?_, fun c => (by cases c)⟩
            cases c
            refine ⟨cG_up g2 (by decide), ⟨?_, fun c => absurd (show (118 : Nat) = 100 from c) (by decide), rd_e ⟨rfl, rfl⟩, fun c => absurd (show (118 : Nat) = 100 ∨ (118 : Nat) = 112 from c) (by decide)⟩, by omega⟩
            rw [rd_n (by omega), h2 _ _ (by omega)]; exact v1
        · rw [if_neg (show ¬ pr_up a 199 4 (nI (e s)) 199 4 = 118 from fun c => c4 ((ev 118 (by decide)).mp c)), pr_lt_s]
          rw [if_neg c4] at hq
          cases hq
          exact ⟨_, rfl, cf_t k0 (cf_up _ 3 1 (by decide) (by decide)), hs, fun st c => (by cases c), fun _ => ⟨by rw [rd_n (by omega)]; exact g0.1, rd_e ⟨rfl, rfl⟩⟩⟩
