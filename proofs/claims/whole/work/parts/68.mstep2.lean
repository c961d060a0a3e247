/-! ===== the model reads a step: its outcome ===== -/
def M_tail (v1 p1 : Int32) (f : pr_M) : Option (Unit × pr_M) :=
  pr_bd (F_X9_readNumber 0 0 3000 f) fun r11 f12 => pr_b1 (α := Int32) (if v1 = 0 then some r11 else some (-r11)) fun v14 => pr_gd (¬ ((p1 + 2) < 0 ∨ 164 ≤ Int32.toNatClampNeg (p1 + 2))) <| pr_lt (pr_up f12 (0 + 6) (Int32.toNatClampNeg (p1 + 2)) v14) fun f17 => pr_bd (F_X9_need 0 47 f17) fun _ f21 => pr_bd (F_X9_readNumber 0 1 50 f21) fun r23 f24 => pr_gd (¬ ((p1 + 3) < 0 ∨ 164 ≤ Int32.toNatClampNeg (p1 + 3))) <| pr_lt (pr_up f24 (0 + 6) (Int32.toNatClampNeg (p1 + 3)) r23) fun f26 => some ((), f26)
theorem m_dist_u (p1 : Int32) (f : pr_M) : F_X9_readDisturbance 0 p1 f = pr_b1 (α := Int32) (if (f 0 7) = 0 then pr_b1 (F_X9_next 0 f) fun r4 => if r4 = 45 then some 1 else some 0 else some 0) fun v1 => pr_b1 (α := Int32) (if v1 = 0 then some 0 else some 1) fun v6 => pr_lt (pr_up f 0 6 ((f 0 6) + v6)) fun f8 => M_tail v1 p1 f8 := Eq.trans rfl rfl
theorem md_2 (k : Nat) (b : pr_M) (v : Int32) : md k b (pr_up b (0 + 6) (4 * k + 2) v) := fun c j hc => rd_n (by omega)
theorem md_3 (k : Nat) (b : pr_M) (v : Int32) : md k b (pr_up b (0 + 6) (4 * k + 3) v) := fun c j hc => rd_n (by omega)
theorem mB_up {b : pr_M} {s j : Nat} {v : Int32} (h : mB b s) : mB (pr_up b (0 + 6) j v) s := ⟨by rw [rd_n (by omega)]; exact h.1, by rw [rd_n (by omega)]; exact h.2⟩
theorem mg_up {b : pr_M} {s j : Nat} {v : Int32} (h : mg b s) : mg (pr_up b (0 + 6) j v) s := ⟨by rw [rd_n (by omega)]; exact h.1, by rw [rd_n (by omega)]; exact h.2⟩
theorem mF_up {e : Nat → Nat} {b : pr_M} {s j : Nat} {v : Int32} (h : mF e b s) : mF e (pr_up b (0 + 6) j v) s := ⟨by rw [rd_n (by omega)]; exact h.1, by rw [rd_n (by omega)]; exact h.2⟩
theorem mB_F {e : Nat → Nat} {b : pr_M} {s : Nat} (h : mB b s) : mF e b s := ⟨h.1, Or.inl h.2⟩
theorem tm_md {len k : Nat} {e : Nat → Nat} {b b' : pr_M} (h : tm len e b) (f : md k b b') : tm len e b' := tm_mf h (md_mf f)
theorem ix2 (k : Nat) : nI (4 * k) + 2 = nI (4 * k + 2) := nI_add _ 2
theorem ix3 (k : Nat) : nI (4 * k) + 3 = nI (4 * k + 3) := nI_add _ 3
theorem m_tail_b {len s k : Nat} {e : Nat → Nat} {b : pr_M} (v1 : Int32) (h : tx len e) (hb : tm len e b) (hk : k ≤ 40) (hs : s ≤ 90) (g : mB b s) : ∃ b', M_tail v1 (nI (4 * k)) b = some ((), b') ∧ mB b' s ∧ md k b b' := by
  unfold M_tail
  obtain ⟨r1, b1, e1, h1, g1⟩ := m_num_b 0 3000 g
  obtain ⟨w, hw⟩ : ∃ w, (if v1 = 0 then some r1 else some (-r1)) = some w := by
    by_cases c : v1 = 0
    · rw [if_pos c]; exact ⟨_, rfl⟩
    · rw [if_neg c]; exact ⟨_, rfl⟩
  rw [e1, pr_bd_s, hw, pr_b1_s, ix2, ix3, pr_gd_i (by omega) (by decide), ri_cl (n := 4 * k + 2) (by omega), pr_lt_s]
  have k1 : md k b (pr_up b1 (0 + 6) (4 * k + 2) w) := md_t (m2_md h1) (md_2 _ _ _)
  obtain ⟨b2, e2, g2, h2⟩ := (m_need (p := 47) h (tm_md hb k1) hs (by decide) (by decide) (Or.inl (mB_F (mB_up g1)))).2 (Or.inl (mB_F (mB_up g1)))
  rw [show F_X9_need 0 47 (pr_up b1 (0 + 6) (4 * k + 2) w) = some ((), b2) from e2, pr_bd_s]
  have k2 : md k b b2 := md_t k1 (m2_md h2)
  obtain ⟨r3, b3, e3, h3, g3⟩ := m_num_b 1 50 g2
  rw [e3, pr_bd_s, pr_gd_i (by omega) (by decide), ri_cl (n := 4 * k + 3) (by omega), pr_lt_s]
  exact ⟨_, rfl, mB_up g3, md_t k2 (md_t (m2_md h3) (md_3 _ _ _))⟩
theorem m_tail {len s s' k : Nat} {o : Option (Int32 × Nat)} {e : Nat → Nat} {b : pr_M} {v1 : Int32} (sg : Int32 → Int32) (hsg : ∀ r : Int32, (if v1 = 0 then some r else some (-r)) = some (sg r)) (h : tx len e) (hb : tm len e b) (hk : k ≤ 40) (hs : s ≤ len) (g : mg b s) (hq : q_tail e sg s = (s', o)) :
    ∃ b', M_tail v1 (nI (4 * k)) b = some ((), b') ∧ md k b b' ∧ (∀ A D, o = some (A, D) → mg b' s' ∧ b' 6 (4 * k + 2) = A ∧ b' 6 (4 * k + 3) = nI D) ∧ (o = none → mF e b' s') := by
  have h80 := h.1
  unfold M_tail
  unfold q_tail at hq
  rcases q1 : q_num e 0 3000 s with ⟨s2, _ | v⟩
  · have b1' := q_num_b h hs (by decide) q1
    obtain ⟨r1, b1, e1, h1, -, g1⟩ := m_num h hb hs (by decide) (by decide) (by decide) g q1
    have g1 := g1 rfl
    rw [show F_X9_readNumber 0 0 3000 b = some (r1, b1) from e1, pr_bd_s, hsg, pr_b1_s, ix2, ix3, pr_gd_i (by omega) (by decide), ri_cl (n := 4 * k + 2) (by omega), pr_lt_s]
    have k1 : md k b (pr_up b1 (0 + 6) (4 * k + 2) (sg r1)) := md_t (m2_md h1) (md_2 _ _ _)
    obtain ⟨b2, e2, g2, h2⟩ := (m_need (p := 47) h (tm_md hb k1) (show s2 ≤ 90 by omega) (by decide) (by decide) (Or.inl (mF_up g1))).2 (Or.inl (mF_up g1))
    rw [show F_X9_need 0 47 (pr_up b1 (0 + 6) (4 * k + 2) (sg r1)) = some ((), b2) from e2, pr_bd_s]
    have k2 : md k b b2 := md_t k1 (m2_md h2)
    obtain ⟨r3, b3, e3, h3, g3⟩ := m_num_b 1 50 g2
    rw [e3, pr_bd_s, pr_gd_i (by omega) (by decide), ri_cl (n := 4 * k + 3) (by omega), pr_lt_s]
    rw [q1] at hq
    cases hq
    exact ⟨_, rfl, md_t k2 (md_t (m2_md h3) (md_3 _ _ _)), fun A D c => (by cases c), fun _ => mB_F (mB_up g3)⟩
  · have b1' := q_num_b h hs (by decide) q1
    obtain ⟨r1, b1, e1, h1, g1z, -⟩ := m_num h hb hs (by decide) (by decide) (by decide) g q1
    obtain ⟨rfl, g1⟩ := g1z v rfl
    rw [show F_X9_readNumber 0 0 3000 b = some (nI v, b1) from e1, pr_bd_s, hsg, pr_b1_s, ix2, ix3, pr_gd_i (by omega) (by decide), ri_cl (n := 4 * k + 2) (by omega), pr_lt_s]
    have k1 : md k b (pr_up b1 (0 + 6) (4 * k + 2) (sg (nI v))) := md_t (m2_md h1) (md_2 _ _ _)
    have tn := m_need (p := 47) h (tm_md hb k1) (show s2 ≤ 90 by omega) (by decide) (by decide) (Or.inr (mg_up g1))
    rw [q1] at hq
    dsimp only at hq
    by_cases c : e s2 = 47
    · obtain ⟨b2, e2, g2, h2⟩ := tn.1 (mg_up g1) c
      have hl : s2 < len := tx_in h (by omega)
      rw [show F_X9_need 0 47 (pr_up b1 (0 + 6) (4 * k + 2) (sg (nI v))) = some ((), b2) from e2, pr_bd_s]
      have k2 : md k b b2 := md_t k1 (m2_md h2)
      rw [if_pos c] at hq
      rcases q2 : q_num e 1 50 (s2 + 1) with ⟨s4, _ | d⟩
      · obtain ⟨r3, b3, e3, h3, -, g3⟩ := m_num h (tm_md hb k2) (show s2 + 1 ≤ len by omega) (by decide) (by decide) (by decide) g2 q2
        rw [show F_X9_readNumber 0 1 50 b2 = some (r3, b3) from e3, pr_bd_s, pr_gd_i (by omega) (by decide), ri_cl (n := 4 * k + 3) (by omega), pr_lt_s]
        rw [q2] at hq
        cases hq
        exact ⟨_, rfl, md_t k2 (md_t (m2_md h3) (md_3 _ _ _)), fun A D c => (by cases c), fun _ => mF_up (g3 rfl)⟩
      · obtain ⟨r3, b3, e3, h3, g3z, -⟩ := m_num h (tm_md hb k2) (show s2 + 1 ≤ len by omega) (by decide) (by decide) (by decide) g2 q2
        obtain ⟨rfl, g3⟩ := g3z d rfl
        rw [show F_X9_readNumber 0 1 50 b2 = some (nI d, b3) from e3, pr_bd_s, pr_gd_i (by omega) (by decide), ri_cl (n := 4 * k + 3) (by omega), pr_lt_s]
        rw [q2] at hq
        cases hq
        refine ⟨_, rfl, md_t k2 (md_t (m2_md h3) (md_3 _ _ _)), fun A D c => ?_, fun c => (by cases c)⟩
        cases c
        refine ⟨mg_up g3, ?_, rd_e ⟨rfl, rfl⟩⟩
        rw [rd_n (by omega), h3 _ _ (by omega), h2 _ _ (by omega), rd_e ⟨rfl, rfl⟩]
    · obtain ⟨b2, e2, g2, h2⟩ := tn.2 (Or.inr c)
      rw [show F_X9_need 0 47 (pr_up b1 (0 + 6) (4 * k + 2) (sg (nI v))) = some ((), b2) from e2, pr_bd_s]
      have k2 : md k b b2 := md_t k1 (m2_md h2)
      obtain ⟨r3, b3, e3, h3, g3⟩ := m_num_b 1 50 g2
      rw [e3, pr_bd_s, pr_gd_i (by omega) (by decide), ri_cl (n := 4 * k + 3) (by omega), pr_lt_s]
      rw [if_neg c] at hq
      cases hq
      exact ⟨_, rfl, md_t k2 (md_t (m2_md h3) (md_3 _ _ _)), fun A D c => (by cases c), fun _ => mB_F (mB_up g3)⟩
theorem m_dist_b {len s k : Nat} {e : Nat → Nat} {b : pr_M} (h : tx len e) (hb : tm len e b) (hk : k ≤ 40) (hs : s ≤ 90) (g : mB b s) : ∃ b', F_X9_readDisturbance 0 (nI (4 * k)) b = some ((), b') ∧ mB b' s ∧ md k b b' := by
  rw [m_dist_u, g.2, if_neg (show ¬ (1 : Int32) = 0 by decide), pr_b1_s, if_pos rfl, pr_b1_s, pr_lt_s, g.1, Int32.add_zero]
  obtain ⟨b', e1, g1, h1⟩ := m_tail_b (k := k) 0 h (tm_m2 hb (fun c j hc => rd_n (by omega)) : tm len e (pr_up b 0 6 (nI s))) hk hs ⟨rd_e ⟨rfl, rfl⟩, by rw [rd_n (by omega)]; exact g.2⟩
  exact ⟨b', e1, g1, fun c j hc => by rw [h1 c j hc, rd_n (by omega)]⟩
theorem m_dist {len s s' k : Nat} {o : Option (Int32 × Nat)} {e : Nat → Nat} {b : pr_M} (h : tx len e) (hb : tm len e b) (hk : k ≤ 40) (hs : s ≤ len) (g : mg b s) (hq : q_dist e s = (s', o)) :
    ∃ b', F_X9_readDisturbance 0 (nI (4 * k)) b = some ((), b') ∧ md k b b' ∧ (∀ A D, o = some (A, D) → mg b' s' ∧ b' 6 (4 * k + 2) = A ∧ b' 6 (4 * k + 3) = nI D) ∧ (o = none → mF e b' s') := by
  have h80 := h.1
  have h126 := tx_lt h s
  unfold q_dist at hq
  rw [m_dist_u, if_pos g.2, m_next h hb (by omega) g.1, pr_b1_s]
  by_cases c : e s = 45
  · have hl : s < len := tx_in h (by omega)
    rw [if_pos (show nI (e s) = 45 by rw [c]; rfl), pr_b1_s, if_neg (show ¬ (1 : Int32) = 0 by decide), pr_b1_s, pr_lt_s, g.1, nI_1]
    rw [if_pos c] at hq
    obtain ⟨b', e1, h1, k1, k2⟩ := m_tail (v1 := 1) (k := k) q_neg (fun r => if_neg (by decide)) h (tm_m2 hb (fun c j hc => rd_n (by omega)) : tm len e (pr_up b 0 6 (nI (s + 1)))) hk (show s + 1 ≤ len by omega) ⟨rd_e ⟨rfl, rfl⟩, by rw [rd_n (by omega)]; exact g.2⟩ hq
    exact ⟨b', e1, fun c j hc => by rw [h1 c j hc, rd_n (by omega)], k1, k2⟩
  · rw [if_neg (show ¬ nI (e s) = 45 from fun q => c ((nI_eq (b := 45) (by omega) (by decide)).mp q)), pr_b1_s, if_pos rfl, pr_b1_s, pr_lt_s, g.1, Int32.add_zero]
    rw [if_neg c] at hq
    obtain ⟨b', e1, h1, k1, k2⟩ := m_tail (v1 := 0) (k := k) id (fun r => if_pos rfl) h (tm_m2 hb (fun c j hc => rd_n (by omega)) : tm len e (pr_up b 0 6 (nI s))) hk hs ⟨rd_e ⟨rfl, rfl⟩, by rw [rd_n (by omega)]; exact g.2⟩ hq
    exact ⟨b', e1, fun c j hc => by rw [h1 c j hc, rd_n (by omega)], k1, k2⟩
def mO (k : Nat) (b : pr_M) (st : Nat × Nat × Int32 × Nat) : Prop := b 6 (4 * k) = nI st.1 ∧ b 6 (4 * k + 1) = nI st.2.1 ∧ b 6 (4 * k + 2) = st.2.2.1 ∧ (st.1 = 100 ∨ st.1 = 112 → b 6 (4 * k + 3) = nI st.2.2.2)
theorem m_step {len s s' k : Nat} {o : Option (Nat × Nat × Int32 × Nat)} {e : Nat → Nat} {b : pr_M} (h : tx len e) (hb : tm len e b) (hk : k ≤ 40) (hs : s ≤ len) (g : mg b s) (h9 : b 0 9 = nI k) (hq : q_step e s = (s', o)) :
    ∃ b', F_X9_readStep 0 b = some ((), b') ∧ mf k b b' ∧ (∀ st, o = some st → mg b' s' ∧ mO k b' st ∧ b' 0 9 = nI (k + 1)) ∧ (o = none → mF e b' s') := by
  have h80 := h.1
  have h126 := tx_lt h s
  have i4 : (4 : Int32) * nI k = nI (4 * k) := by rw [show (4 : Int32) = nI 4 from rfl, pk_mul]
  have i1 : nI (4 * k) + 1 = nI (4 * k + 1) := nI_add _ 1
  obtain ⟨b3, hb3⟩ : ∃ b3, b3 = pr_up (pr_up (pr_up b 0 6 (nI (s + 1))) (0 + 6) (4 * k) (nI (e s))) (0 + 6) (4 * k + 1) 0 := ⟨_, rfl⟩
  have G3 : mg b3 (s + 1) := by rw [hb3]; exact ⟨by simp (disch := omega) only [rd_n, rd_e], by simp (disch := omega) only [rd_n]; exact g.2⟩
  have N3 : b3 0 9 = nI k := by rw [hb3]; simp (disch := omega) only [rd_n]; exact h9
  have F3 : mf k b b3 := fun c j hc => by rw [hb3]; simp (disch := omega) only [rd_n]
  have C3 : b3 6 (4 * k) = nI (e s) := by rw [hb3]; simp (disch := omega) only [rd_n, rd_e]
  have U3 : b3 6 (4 * k + 1) = nI 0 := by rw [hb3]; simp (disch := omega) only [rd_n, rd_e]; rfl
  have T3 := tm_mf hb F3
  have f9 : ∀ (b' : pr_M), mf k b' (pr_up b' 0 9 (nI (k + 1))) := fun b' c j hc => rd_n (by omega)
  have g9 : ∀ {b' : pr_M} {s'' : Nat}, mg b' s'' → mg (pr_up b' 0 9 (nI (k + 1))) s'' := fun w => ⟨by rw [rd_n (by omega)]; exact w.1, by rw [rd_n (by omega)]; exact w.2⟩
  have w9 : ∀ {b' : pr_M} {s'' : Nat}, mF e b' s'' → mF e (pr_up b' 0 9 (nI (k + 1))) s'' := fun w => ⟨by rw [rd_n (by omega)]; exact w.1, by rw [rd_n (by omega)]; exact w.2⟩
  unfold F_X9_readStep
  rw [m_next h hb (by omega) g.1, pr_b1_s, h9, i4, i1, ix2, g.1, nI_1]
  unfold q_step at hq
  have key : ∀ p : Nat, p ≤ 126 → e s ≠ p → ¬ nI (e s) = nI p := fun p hp c q => c ((nI_eq (by omega) (by omega)).mp q)
  by_cases c2 : e s = 110
  · have hl : s < len := tx_in h (by omega)
    rw [if_pos (show nI (e s) = 110 by rw [c2]; rfl), pr_lt_s, pr_gd_i (by omega) (by decide), ri_cl (by omega), pr_lt_s, pr_gd_i (by omega) (by decide), ri_cl (by omega), pr_lt_s, ← hb3]
    rw [if_neg (by omega), if_pos c2] at hq
    rcases qn : q_num e 1 99 (s + 1) with ⟨s4, _ | v⟩
    · obtain ⟨r2, b4, e4, h4, -, g4⟩ := m_num h T3 (show s + 1 ≤ len by omega) (by decide) (by decide) (by decide) G3 qn
      rw [show F_X9_readNumber 0 1 99 b3 = some (r2, b4) from e4, pr_bd_s, pr_gd_i (by omega) (by decide), ri_cl (by omega), pr_lt_s, pr_lt_s, rd_n (by omega), h4 _ _ (by omega), N3, nI_1]
      rw [qn] at hq
      cases hq
      exact ⟨_, rfl, mf_t F3 (mf_t (md_mf (m2_md h4)) (mf_t (md_mf (md_2 _ _ _)) (f9 _))), fun st c => (by cases c), fun _ => w9 (mF_up (g4 rfl))⟩
    · obtain ⟨r2, b4, e4, h4, g4z, -⟩ := m_num h T3 (show s + 1 ≤ len by omega) (by decide) (by decide) (by decide) G3 qn
      obtain ⟨rfl, g4⟩ := g4z v rfl
      rw [show F_X9_readNumber 0 1 99 b3 = some (nI v, b4) from e4, pr_bd_s, pr_gd_i (by omega) (by decide), ri_cl (by omega), pr_lt_s, pr_lt_s, rd_n (by omega), h4 _ _ (by omega), N3, nI_1]
      rw [qn] at hq
      cases hq
      refine ⟨_, rfl, mf_t F3 (mf_t (md_mf (m2_md h4)) (mf_t (md_mf (md_2 _ _ _)) (f9 _))), fun st c => ?_, fun c => (by cases c)⟩
      cases c
      refine ⟨g9 (mg_up g4), ⟨?_, ?_, ?_, fun c => absurd (show (110 : Nat) = 100 ∨ (110 : Nat) = 112 from c) (by decide)⟩, rd_e ⟨rfl, rfl⟩⟩
      · rw [rd_n (by omega), rd_n (by omega), h4 _ _ (by omega), C3, c2]
      · rw [rd_n (by omega), rd_n (by omega), h4 _ _ (by omega), U3]
      · rw [rd_n (by omega), rd_e ⟨rfl, rfl⟩]
  · rw [if_neg (show ¬ nI (e s) = 110 from key 110 (by decide) c2)]
    by_cases c4 : e s = 118
    · have hl : s < len := tx_in h (by omega)
      rw [if_pos (show nI (e s) = 118 by rw [c4]; rfl), pr_lt_s, pr_gd_i (by omega) (by decide), ri_cl (by omega), pr_lt_s, pr_gd_i (by omega) (by decide), ri_cl (by omega), pr_lt_s, ← hb3]
      rw [if_neg (by omega), if_neg c2, if_neg (by omega), if_pos c4] at hq
      rcases qn : q_num e 0 1000 (s + 1) with ⟨s4, _ | v⟩
      · obtain ⟨r2, b4, e4, h4, -, g4⟩ := m_num h T3 (show s + 1 ≤ len by omega) (by decide) (by decide) (by decide) G3 qn
        rw [show F_X9_readNumber 0 0 1000 b3 = some (r2, b4) from e4, pr_bd_s, pr_gd_i (by omega) (by decide), ri_cl (by omega), pr_lt_s, pr_lt_s, rd_n (by omega), h4 _ _ (by omega), N3, nI_1]
        rw [qn] at hq
        cases hq
        exact ⟨_, rfl, mf_t F3 (mf_t (md_mf (m2_md h4)) (mf_t (md_mf (md_2 _ _ _)) (f9 _))), fun st c => (by cases c), fun _ => w9 (mF_up (g4 rfl))⟩
      · obtain ⟨r2, b4, e4, h4, g4z, -⟩ := m_num h T3 (show s + 1 ≤ len by omega) (by decide) (by decide) (by decide) G3 qn
        obtain ⟨rfl, g4⟩ := g4z v rfl
        rw [show F_X9_readNumber 0 0 1000 b3 = some (nI v, b4) from e4, pr_bd_s, pr_gd_i (by omega) (by decide), ri_cl (by omega), pr_lt_s, pr_lt_s, rd_n (by omega), h4 _ _ (by omega), N3, nI_1]
        rw [qn] at hq
        cases hq
        refine ⟨_, rfl, mf_t F3 (mf_t (md_mf (m2_md h4)) (mf_t (md_mf (md_2 _ _ _)) (f9 _))), fun st c => ?_, fun c => (by cases c)⟩
        cases c
        refine ⟨g9 (mg_up g4), ⟨?_, ?_, ?_, fun c => absurd (show (118 : Nat) = 100 ∨ (118 : Nat) = 112 from c) (by decide)⟩, rd_e ⟨rfl, rfl⟩⟩
        · rw [rd_n (by omega), rd_n (by omega), h4 _ _ (by omega), C3, c4]
        · rw [rd_n (by omega), rd_n (by omega), h4 _ _ (by omega), U3]
        · rw [rd_n (by omega), rd_e ⟨rfl, rfl⟩]
    · rw [if_neg (show ¬ nI (e s) = 118 from key 118 (by decide) c4)]
      by_cases c1 : e s = 100
      · have hl : s < len := tx_in h (by omega)
        rw [if_pos (show nI (e s) = 100 by rw [c1]; rfl), pr_lt_s, pr_gd_i (by omega) (by decide), ri_cl (by omega), pr_lt_s, pr_gd_i (by omega) (by decide), ri_cl (by omega), pr_lt_s, ← hb3]
        rw [if_pos c1] at hq
        have tu := m_unit h T3 (show s + 1 ≤ len by omega) G3
        have fu : ∀ (b' : pr_M) (v : Int32), mf k b' (pr_up b' (0 + 6) (4 * k + 1) v) := fun b' v c j hc => rd_n (by omega)
        by_cases cu : 48 ≤ e (s + 1) ∧ e (s + 1) ≤ 52
        · obtain ⟨b4, e4, g4, h4⟩ := tu.1 cu
          have hl1 : s + 1 < len := tx_in h (by omega)
          rw [if_pos cu] at hq
          have k4 := mf_t F3 (mf_t (md_mf (m2_md h4)) (fu b4 (nI (e (s + 1) - 48))))
          rw [e4, pr_bd_s, pr_lt_s]
          have tn := m_need (p := 58) h (tm_mf hb k4) (show s + 1 + 1 ≤ 90 by omega) (by decide) (by decide) (Or.inr (mg_up g4))
          by_cases cs : e (s + 2) = 58
          · obtain ⟨b5, e5, g5, h5⟩ := tn.1 (mg_up g4) cs
            have hl2 : s + 2 < len := tx_in h (by omega)
            rw [if_pos cs] at hq
            have k5 := mf_t k4 (md_mf (m2_md h5))
            rw [show F_X9_need 0 58 (pr_up b4 (0 + 6) (4 * k + 1) (nI (e (s + 1) - 48))) = some ((), b5) from e5, pr_bd_s]
            have n5 : b5 0 9 = nI k := by rw [h5 _ _ (by omega), rd_n (by omega), h4 _ _ (by omega), N3]
            rcases qd : q_dist e (s + 3) with ⟨s4, _ | ⟨A, D⟩⟩
            · obtain ⟨b6, e6, h6, -, g6⟩ := m_dist h (tm_mf hb k5) hk (show s + 3 ≤ len by omega) g5 qd
              rw [e6, pr_bd_s, pr_lt_s, h6 _ _ (by omega), n5, nI_1]
              rw [qd] at hq
              cases hq
              exact ⟨_, rfl, mf_t k5 (mf_t (md_mf h6) (f9 _)), fun st c => (by cases c), fun _ => w9 (g6 rfl)⟩
            · obtain ⟨b6, e6, h6, g6, -⟩ := m_dist h (tm_mf hb k5) hk (show s + 3 ≤ len by omega) g5 qd
              rw [e6, pr_bd_s, pr_lt_s, h6 _ _ (by omega), n5, nI_1]
              rw [qd] at hq
              cases hq
              obtain ⟨w1, w2, w3⟩ := g6 A D rfl
              refine ⟨_, rfl, mf_t k5 (mf_t (md_mf h6) (f9 _)), fun st c => ?_, fun c => (by cases c)⟩
              cases c
              refine ⟨g9 w1, ⟨?_, ?_, ?_, fun _ => ?_⟩, rd_e ⟨rfl, rfl⟩⟩
              · rw [rd_n (by omega), h6 _ _ (by omega), h5 _ _ (by omega), rd_n (by omega), h4 _ _ (by omega), C3, c1]
              · rw [rd_n (by omega), h6 _ _ (by omega), h5 _ _ (by omega), rd_e ⟨rfl, rfl⟩]
              · rw [rd_n (by omega)]; exact w2
              · rw [rd_n (by omega)]; exact w3
          · obtain ⟨b5, e5, g5, h5⟩ := tn.2 (Or.inr cs)
            rw [if_neg cs] at hq
            cases hq
            have k5 := mf_t k4 (md_mf (m2_md h5))
            rw [show F_X9_need 0 58 (pr_up b4 (0 + 6) (4 * k + 1) (nI (e (s + 1) - 48))) = some ((), b5) from e5, pr_bd_s]
            have n5 : b5 0 9 = nI k := by rw [h5 _ _ (by omega), rd_n (by omega), h4 _ _ (by omega), N3]
            obtain ⟨b6, e6, g6, h6⟩ := m_dist_b h (tm_mf hb k5) hk (show s + 1 + 1 ≤ 90 by omega) g5
            rw [e6, pr_bd_s, pr_lt_s, h6 _ _ (by omega), n5, nI_1]
            exact ⟨_, rfl, mf_t k5 (mf_t (md_mf h6) (f9 _)), fun st c => (by cases c), fun _ => w9 (mB_F g6)⟩
        · obtain ⟨r4, b4, e4, g4, h4⟩ := tu.2 cu
          rw [if_neg cu] at hq
          cases hq
          have k4 := mf_t F3 (mf_t (md_mf (m2_md h4)) (fu b4 r4))
          rw [e4, pr_bd_s, pr_lt_s]
          obtain ⟨b5, e5, g5, h5⟩ := (m_need (p := 58) h (tm_mf hb k4) (show s + 1 ≤ 90 by omega) (by decide) (by decide) (Or.inl (mB_F (mB_up g4)))).2 (Or.inl (mB_F (mB_up g4)))
          have k5 := mf_t k4 (md_mf (m2_md h5))
          rw [show F_X9_need 0 58 (pr_up b4 (0 + 6) (4 * k + 1) r4) = some ((), b5) from e5, pr_bd_s]
          have n5 : b5 0 9 = nI k := by rw [h5 _ _ (by omega), rd_n (by omega), h4 _ _ (by omega), N3]
          obtain ⟨b6, e6, g6, h6⟩ := m_dist_b h (tm_mf hb k5) hk (show s + 1 ≤ 90 by omega) g5
          rw [e6, pr_bd_s, pr_lt_s, h6 _ _ (by omega), n5, nI_1]
          exact ⟨_, rfl, mf_t k5 (mf_t (md_mf h6) (f9 _)), fun st c => (by cases c), fun _ => w9 (mB_F g6)⟩
      · rw [if_neg (show ¬ nI (e s) = 100 from key 100 (by decide) c1)]
        rw [if_neg c1, if_neg c2] at hq
        by_cases c3 : e s = 112
        · have hl : s < len := tx_in h (by omega)
          rw [if_pos (show nI (e s) = 112 by rw [c3]; rfl), pr_lt_s, pr_gd_i (by omega) (by decide), ri_cl (by omega), pr_lt_s, pr_gd_i (by omega) (by decide), ri_cl (by omega), pr_lt_s, ← hb3]
          rw [if_pos c3] at hq
          rcases qd : q_dist e (s + 1) with ⟨s4, _ | ⟨A, D⟩⟩
          · obtain ⟨b6, e6, h6, -, g6⟩ := m_dist h T3 hk (show s + 1 ≤ len by omega) G3 qd
            rw [e6, pr_bd_s, pr_lt_s, h6 _ _ (by omega), N3, nI_1]
            rw [qd] at hq
            cases hq
            exact ⟨_, rfl, mf_t F3 (mf_t (md_mf h6) (f9 _)), fun st c => (by cases c), fun _ => w9 (g6 rfl)⟩
          · obtain ⟨b6, e6, h6, g6, -⟩ := m_dist h T3 hk (show s + 1 ≤ len by omega) G3 qd
            rw [e6, pr_bd_s, pr_lt_s, h6 _ _ (by omega), N3, nI_1]
            rw [qd] at hq
            cases hq
            obtain ⟨w1, w2, w3⟩ := g6 A D rfl
            refine ⟨_, rfl, mf_t F3 (mf_t (md_mf h6) (f9 _)), fun st c => ?_, fun c => (by cases c)⟩
            cases c
            refine ⟨g9 w1, ⟨?_, ?_, ?_, fun _ => ?_⟩, rd_e ⟨rfl, rfl⟩⟩
            · rw [rd_n (by omega), h6 _ _ (by omega), C3, c3]
            · rw [rd_n (by omega), h6 _ _ (by omega), U3]
            · rw [rd_n (by omega)]; exact w2
            · rw [rd_n (by omega)]; exact w3
        · rw [if_neg (show ¬ nI (e s) = 112 from key 112 (by decide) c3), pr_lt_s]
          rw [if_neg c3, if_neg c4] at hq
          cases hq
          exact ⟨_, rfl, fun c j hc => rd_n (by omega), fun st c => (by cases c), fun _ => ⟨by rw [rd_n (by omega)]; exact g.1, Or.inl (rd_e ⟨rfl, rfl⟩)⟩⟩
