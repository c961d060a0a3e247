/-! ===== the class reads a step ===== -/
theorem c_num_s {len s lo hi s' v : Nat} {e : Nat → Nat} {a : pr_M} (h : tx len e) (ha : tc len e a) (hs : s ≤ len) (hlo : lo ≤ 1) (h9 : 9 ≤ hi) (hh : hi ≤ 3000) (g : cG a s) (hq : q_num e lo hi s = (s', some v)) : ∃ a', F_X2_readNumber 199 (nI lo) (nI hi) a = some (nI v, a') ∧ cG a' s' ∧ f2 a a' := by
  have := (c_num h ha hs hlo h9 hh g).1 v (by rw [hq])
  rw [hq] at this
  exact this
theorem c_num_n {len s lo hi s' : Nat} {e : Nat → Nat} {a : pr_M} (h : tx len e) (ha : tc len e a) (hs : s ≤ len) (hlo : lo ≤ 1) (h9 : 9 ≤ hi) (hh : hi ≤ 3000) (g : cG a s) (hq : q_num e lo hi s = (s', none)) : ∃ r a', F_X2_readNumber 199 (nI lo) (nI hi) a = some (r, a') ∧ cB a' s' ∧ f2 a a' := by
  have := (c_num h ha hs hlo h9 hh g).2 (by rw [hq])
  rw [hq] at this
  exact this
theorem q_num_b {len s lo hi s' : Nat} {o : Option Nat} {e : Nat → Nat} (h : tx len e) (hs : s ≤ len) (h9 : 9 ≤ hi) (hq : q_num e lo hi s = (s', o)) : s ≤ s' ∧ s' ≤ len ∧ (∀ v, o = some v → s < s' ∧ lo ≤ v ∧ v ≤ hi) := by
  have := q_num_f h hs (lo := lo) h9
  rw [hq] at this
  exact this
def q_tail (e : Nat → Nat) (sg : Int32 → Int32) (s : Nat) : Nat × Option (Int32 × Nat) := match q_num e 0 3000 s with
  | (s2, none) => (s2, none)
  | (s2, some v) => if e s2 = 47 then (match q_num e 1 50 (s2 + 1) with
    | (s4, none) => (s4, none)
    | (s4, some d) => (s4, some (sg (nI v), d))) else (s2, none)
def q_neg (x : Int32) : Int32 := -x
def q_dist (e : Nat → Nat) (s : Nat) : Nat × Option (Int32 × Nat) := if e s = 45 then q_tail e q_neg (s + 1) else q_tail e id s
/-- the steps' four values: the sign, the unit, the amount, the length -/
def q_step (e : Nat → Nat) (s : Nat) : Nat × Option (Nat × Nat × Int32 × Nat) :=
  if e s = 100 then (if 48 ≤ e (s + 1) ∧ e (s + 1) ≤ 52 then (if e (s + 2) = 58 then (match q_dist e (s + 3) with
    | (s', none) => (s', none)
    | (s', some (A, D)) => (s', some (100, e (s + 1) - 48, A, D))) else (s + 2, none)) else (s + 1, none))
  else if e s = 110 then (match q_num e 1 99 (s + 1) with
    | (s', none) => (s', none)
    | (s', some v) => (s', some (110, 0, nI v, 0)))
  else if e s = 112 then (match q_dist e (s + 1) with
    | (s', none) => (s', none)
    | (s', some (A, D)) => (s', some (112, 0, A, D)))
  else if e s = 118 then (match q_num e 0 1000 (s + 1) with
    | (s', none) => (s', none)
    | (s', some v) => (s', some (118, 0, nI v, 0)))
  else (s, none)
def G_tail (sg : Int32 → Int32) (f : pr_M) : Option (Unit × pr_M) :=
  pr_bd (F_X2_readNumber 199 0 3000 f) fun r7 f8 => pr_lt (pr_up f8 199 6 (sg r7)) fun f10 => pr_bd (F_X2_readSign 199 47 f10) fun _ f14 => pr_bd (F_X2_readNumber 199 1 50 f14) fun r16 f17 => pr_lt (pr_up f17 199 7 r16) fun f18 => some ((), f18)
theorem c_dist_u (f : pr_M) : F_X2_readDisturbance 199 f = pr_b1 (F_X2_codeAt 199 (f 199 2) f) fun r2 => pr_b1 (α := Int32) (if r2 = 45 then some 1 else some 0) fun v3 => if v3 = 0 then G_tail id f else pr_bd (F_X2_readSign 199 45 f) fun _ f22 => G_tail q_neg f22 := Eq.trans rfl rfl
/-- only what a disturbance's reading lays changed -/
def fd (a a' : pr_M) : Prop := ∀ c j, (c ≠ 199 ∨ (j ≠ 2 ∧ j ≠ 3 ∧ j ≠ 6 ∧ j ≠ 7)) → a' c j = a c j
theorem f2_fd {a a' : pr_M} (h : f2 a a') : fd a a' := fun c j hc => h c j (by omega)
theorem fd_cf {a a' : pr_M} (h : fd a a') : cf a a' := fun c j hc => h c j (by omega)
theorem fd_t {a a' a'' : pr_M} (h : fd a a') (h' : fd a' a'') : fd a a'' := fun c j hc => by rw [h' c j hc, h c j hc]
theorem fd_6 (a : pr_M) (v : Int32) : fd a (pr_up a 199 6 v) := fun c j hc => rd_n (by omega)
theorem fd_7 (a : pr_M) (v : Int32) : fd a (pr_up a 199 7 v) := fun c j hc => rd_n (by omega)
theorem cG_up {a : pr_M} {s j : Nat} {v : Int32} (h : cG a s) (hj : 4 ≤ j) : cG (pr_up a 199 j v) s := ⟨by rw [rd_n (by omega)]; exact h.1, by rw [rd_n (by omega)]; exact h.2⟩
theorem cB_up {a : pr_M} {s j : Nat} {v : Int32} (h : cB a s) (hj : 4 ≤ j) : cB (pr_up a 199 j v) s := ⟨by rw [rd_n (by omega)]; exact h.1, by rw [rd_n (by omega)]; exact h.2⟩
theorem c_tail_b {len s : Nat} {e : Nat → Nat} {a : pr_M} (sg : Int32 → Int32) (h : tx len e) (ha : tc len e a) (hs : s ≤ 90) (g : cB a s) : ∃ a', G_tail sg a = some ((), a') ∧ cB a' s ∧ fd a a' := by
  unfold G_tail
  obtain ⟨r1, a1, e1, g1, h1⟩ := c_num_b 0 3000 h ha hs g
  rw [e1, pr_bd_s, pr_lt_s]
  have k1 : fd a (pr_up a1 199 6 (sg r1)) := fd_t (f2_fd h1) (fd_6 _ _)
  obtain ⟨a2, e2, g2, h2⟩ := c_sign_b 47 h (tc_cf ha (fd_cf k1)) hs (cB_up g1 (by decide) (j := 6) (v := sg r1))
  rw [e2, pr_bd_s]
  have k2 : fd a a2 := fd_t k1 (f2_fd h2)
  obtain ⟨r3, a3, e3, g3, h3⟩ := c_num_b 1 50 h (tc_cf ha (fd_cf k2)) hs g2
  rw [e3, pr_bd_s, pr_lt_s]
  exact ⟨_, rfl, cB_up g3 (by decide), fd_t k2 (fd_t (f2_fd h3) (fd_7 _ _))⟩
theorem c_tail {len s s' : Nat} {o : Option (Int32 × Nat)} {e : Nat → Nat} {a : pr_M} (sg : Int32 → Int32) (h : tx len e) (ha : tc len e a) (hs : s ≤ len) (g : cG a s) (hq : q_tail e sg s = (s', o)) : ∃ a', G_tail sg a = some ((), a') ∧ fd a a' ∧ s' ≤ len ∧ (∀ A D, o = some (A, D) → cG a' s' ∧ a' 199 6 = A ∧ a' 199 7 = nI D ∧ s + 3 ≤ s' ∧ 1 ≤ D ∧ D ≤ 50) ∧ (o = none → cB a' s') := by
  have h80 := h.1
  unfold G_tail
  rcases q1 : q_num e 0 3000 s with ⟨s2, _ | v⟩
  · have b1 := q_num_b h hs (by decide) q1
    obtain ⟨r1, a1, e1, g1, h1⟩ := c_num_n h ha hs (by decide) (by decide) (by decide) g q1
    rw [show F_X2_readNumber 199 0 3000 a = some (r1, a1) from e1, pr_bd_s, pr_lt_s]
    have k1 : fd a (pr_up a1 199 6 (sg r1)) := fd_t (f2_fd h1) (fd_6 _ _)
    obtain ⟨a2, e2, g2, h2⟩ := c_sign_b 47 h (tc_cf ha (fd_cf k1)) (by omega) (cB_up g1 (by decide) (j := 6) (v := sg r1))
    rw [e2, pr_bd_s]
    have k2 : fd a a2 := fd_t k1 (f2_fd h2)
    obtain ⟨r3, a3, e3, g3, h3⟩ := c_num_b 1 50 h (tc_cf ha (fd_cf k2)) (by omega) g2
    rw [e3, pr_bd_s, pr_lt_s]
    unfold q_tail at hq
    rw [q1] at hq
    cases hq
    exact ⟨_, rfl, fd_t k2 (fd_t (f2_fd h3) (fd_7 _ _)), b1.2.1, fun A D c => (by cases c), fun _ => cB_up g3 (by decide)⟩
  · have b1 := q_num_b h hs (by decide) q1
    have b1v := b1.2.2 v rfl
    obtain ⟨a1, e1, g1, h1⟩ := c_num_s h ha hs (by decide) (by decide) (by decide) g q1
    rw [show F_X2_readNumber 199 0 3000 a = some (nI v, a1) from e1, pr_bd_s, pr_lt_s]
    have k1 : fd a (pr_up a1 199 6 (sg (nI v))) := fd_t (f2_fd h1) (fd_6 _ _)
    have t1 := c_sign (p := 47) h (tc_cf ha (fd_cf k1)) (show s2 ≤ 90 by omega) (by decide) (cG_up g1 (by decide) (j := 6) (v := sg (nI v)))
    unfold q_tail at hq
    rw [q1] at hq
    dsimp only at hq
    by_cases c : e s2 = 47
    · obtain ⟨a2, e2, g2, h2⟩ := t1.1 c
      rw [show F_X2_readSign 199 47 (pr_up a1 199 6 (sg (nI v))) = some ((), a2) from e2, pr_bd_s]
      have k2 : fd a a2 := fd_t k1 (f2_fd h2)
      have hl : s2 < len := tx_in h (by omega)
      rw [if_pos c] at hq
      rcases q2 : q_num e 1 50 (s2 + 1) with ⟨s4, _ | d⟩
      · have b2 := q_num_b h (by omega) (by decide) q2
        obtain ⟨r3, a3, e3, g3, h3⟩ := c_num_n h (tc_cf ha (fd_cf k2)) (by omega) (by decide) (by decide) (by decide) g2 q2
        rw [show F_X2_readNumber 199 1 50 a2 = some (r3, a3) from e3, pr_bd_s, pr_lt_s]
        rw [q2] at hq
        cases hq
        exact ⟨_, rfl, fd_t k2 (fd_t (f2_fd h3) (fd_7 _ _)), b2.2.1, fun A D c => (by cases c), fun _ => cB_up g3 (by decide)⟩
      · have b2 := q_num_b h (by omega) (by decide) q2
        have b2v := b2.2.2 d rfl
        obtain ⟨a3, e3, g3, h3⟩ := c_num_s h (tc_cf ha (fd_cf k2)) (by omega) (by decide) (by decide) (by decide) g2 q2
        rw [show F_X2_readNumber 199 1 50 a2 = some (nI d, a3) from e3, pr_bd_s, pr_lt_s]
        rw [q2] at hq
        cases hq
        refine ⟨_, rfl, fd_t k2 (fd_t (f2_fd h3) (fd_7 _ _)), b2.2.1, fun A D c => ?_, fun c => (by cases c)⟩
        cases c
        refine ⟨cG_up g3 (by decide), ?_, rd_e ⟨rfl, rfl⟩, by omega, by omega, by omega⟩
        rw [rd_n (by omega), h3 _ _ (by omega), h2 _ _ (by omega), rd_e ⟨rfl, rfl⟩]
    · obtain ⟨a2, e2, g2, h2⟩ := t1.2 c
      rw [show F_X2_readSign 199 47 (pr_up a1 199 6 (sg (nI v))) = some ((), a2) from e2, pr_bd_s]
      have k2 : fd a a2 := fd_t k1 (f2_fd h2)
      obtain ⟨r3, a3, e3, g3, h3⟩ := c_num_b 1 50 h (tc_cf ha (fd_cf k2)) (by omega) g2
      rw [e3, pr_bd_s, pr_lt_s]
      rw [if_neg c] at hq
      cases hq
      exact ⟨_, rfl, fd_t k2 (fd_t (f2_fd h3) (fd_7 _ _)), b1.2.1, fun A D c => (by cases c), fun _ => cB_up g3 (by decide)⟩
theorem c_dist_b {len s : Nat} {e : Nat → Nat} {a : pr_M} (h : tx len e) (ha : tc len e a) (hs : s ≤ 90) (g : cB a s) : ∃ a', F_X2_readDisturbance 199 a = some ((), a') ∧ cB a' s ∧ fd a a' := by
  rw [c_dist_u, g.1, c_code h ha (by omega), pr_b1_s]
  by_cases c : nI (e s) = 45
  · rw [if_pos c, pr_b1_s, if_neg (show ¬ (1 : Int32) = 0 by decide)]
    obtain ⟨a2, e2, g2, h2⟩ := c_sign_b 45 h ha hs g
    rw [e2, pr_bd_s]
    obtain ⟨a3, e3, g3, h3⟩ := c_tail_b q_neg h (tc_cf ha (f2_cf h2)) hs g2
    exact ⟨a3, e3, g3, fd_t (f2_fd h2) h3⟩
  · rw [if_neg c, pr_b1_s, if_pos rfl]
    exact c_tail_b id h ha hs g
theorem c_dist {len s s' : Nat} {o : Option (Int32 × Nat)} {e : Nat → Nat} {a : pr_M} (h : tx len e) (ha : tc len e a) (hs : s ≤ len) (g : cG a s) (hq : q_dist e s = (s', o)) : ∃ a', F_X2_readDisturbance 199 a = some ((), a') ∧ fd a a' ∧ s' ≤ len ∧ (∀ A D, o = some (A, D) → cG a' s' ∧ a' 199 6 = A ∧ a' 199 7 = nI D ∧ s + 3 ≤ s' ∧ 1 ≤ D ∧ D ≤ 50) ∧ (o = none → cB a' s') := by
  have h80 := h.1
  have := tx_lt h s
  rw [c_dist_u, g.1, c_code h ha (by omega), pr_b1_s]
  unfold q_dist at hq
  by_cases c : e s = 45
  · rw [if_pos (show nI (e s) = 45 by rw [c]; rfl), pr_b1_s, if_neg (show ¬ (1 : Int32) = 0 by decide)]
    rw [if_pos c] at hq
    obtain ⟨a2, e2, g2, h2⟩ := (c_sign (p := 45) h ha (by omega) (by decide) g).1 c
    have hl : s < len := tx_in h (by omega)
    rw [show F_X2_readSign 199 45 a = some ((), a2) from e2, pr_bd_s]
    obtain ⟨a3, e3, h3, k1, k2, k3⟩ := c_tail q_neg h (tc_cf ha (f2_cf h2)) (by omega) g2 hq
    exact ⟨a3, e3, fd_t (f2_fd h2) h3, k1, fun A D c => by obtain ⟨w1, w2, w3, w4, w5⟩ := k2 A D c; exact ⟨w1, w2, w3, by omega, w5⟩, k3⟩
  · rw [if_neg (show ¬ nI (e s) = 45 from fun q => c ((nI_eq (b := 45) (by omega) (by decide)).mp q)), pr_b1_s, if_pos rfl]
    rw [if_neg c] at hq
    exact c_tail id h ha hs g hq
def G_step (f : pr_M) : Option (Unit × pr_M) :=
  pr_b1 (F_X2_codeAt 199 (f 199 2) f) fun r3 => pr_lt (pr_up f 199 4 r3) fun f4 =>
  if (f4 199 4) = 100 then pr_bd (F_X2_readSign 199 100 f4) fun _ f9 => pr_bd (F_X2_readUnit 199 f9) fun r11 f12 => pr_lt (pr_up f12 199 5 r11) fun f13 => pr_bd (F_X2_readSign 199 58 f13) fun _ f17 => pr_bd (F_X2_readDisturbance 199 f17) fun _ f20 => some ((), f20)
  else if (f4 199 4) = 110 then pr_bd (F_X2_readSign 199 110 f4) fun _ f24 => pr_bd (F_X2_readNumber 199 1 99 f24) fun r26 f27 => pr_lt (pr_up f27 199 6 r26) fun f28 => some ((), f28)
  else if (f4 199 4) = 112 then pr_bd (F_X2_readSign 199 112 f4) fun _ f33 => pr_bd (F_X2_readDisturbance 199 f33) fun _ f36 => some ((), f36)
  else if (f4 199 4) = 118 then pr_bd (F_X2_readSign 199 118 f4) fun _ f40 => pr_bd (F_X2_readNumber 199 0 1000 f40) fun r42 f43 => pr_lt (pr_up f43 199 6 r42) fun f44 => some ((), f44)
  else pr_lt (pr_up f4 199 3 1) fun f46 => some ((), f46)
theorem c_step_u (f : pr_M) : F_X2_readStep 199 f = if (f 199 2) ≤ 0 then G_step f else pr_bd (F_X2_readSign 199 44 f) fun _ f50 => G_step f50 := Eq.trans rfl rfl
def sO (a : pr_M) (st : Nat × Nat × Int32 × Nat) : Prop := a 199 4 = nI st.1 ∧ (st.1 = 100 → a 199 5 = nI st.2.1) ∧ a 199 6 = st.2.2.1 ∧ (st.1 = 100 ∨ st.1 = 112 → a 199 7 = nI st.2.2.2)
theorem cf_up (a : pr_M) (j : Nat) (v : Int32) (h : 2 ≤ j) (h2 : j < 8) : cf a (pr_up a 199 j v) := fun c k hc => rd_n (by omega)
theorem c_step_b {len s : Nat} {e : Nat → Nat} {a : pr_M} (h : tx len e) (ha : tc len e a) (hs : s ≤ 90) (g : cB a s) : ∃ a', G_step a = some ((), a') ∧ cB a' s ∧ cf a a' := by
  unfold G_step
  rw [g.1, c_code h ha (by omega), pr_b1_s, pr_lt_s]
  have k0 : cf a (pr_up a 199 4 (nI (e s))) := cf_up _ _ _ (by decide) (by decide)
  have g0 : cB (pr_up a 199 4 (nI (e s))) s := cB_up g (by decide)
  have t0 := tc_cf ha k0
  by_cases c1 : pr_up a 199 4 (nI (e s)) 199 4 = 100
  · rw [if_pos c1]
    obtain ⟨a1, e1, g1, h1⟩ := c_sign_b 100 h t0 hs g0
    have k1 := cf_t k0 (f2_cf h1)
    obtain ⟨r2, a2, e2, g2, h2⟩ := c_unit_b h (tc_cf ha k1) hs g1
    have k2 := cf_t k1 (cf_t (f2_cf h2) (cf_up a2 5 r2 (by decide) (by decide)))
    obtain ⟨a3, e3, g3, h3⟩ := c_sign_b 58 h (tc_cf ha k2) hs (cB_up g2 (by decide))
    have k3 := cf_t k2 (f2_cf h3)
    obtain ⟨a4, e4, g4, h4⟩ := c_dist_b h (tc_cf ha k3) hs g3
    rw [e1, pr_bd_s, e2, pr_bd_s, pr_lt_s, e3, pr_bd_s, e4, pr_bd_s]
    exact ⟨_, rfl, g4, cf_t k3 (fd_cf h4)⟩
  · rw [if_neg c1]
    by_cases c2 : pr_up a 199 4 (nI (e s)) 199 4 = 110
    · rw [if_pos c2]
      obtain ⟨a1, e1, g1, h1⟩ := c_sign_b 110 h t0 hs g0
      have k1 := cf_t k0 (f2_cf h1)
      obtain ⟨r2, a2, e2, g2, h2⟩ := c_num_b 1 99 h (tc_cf ha k1) hs g1
      rw [e1, pr_bd_s, e2, pr_bd_s, pr_lt_s]
      exact ⟨_, rfl, cB_up g2 (by decide), cf_t k1 (cf_t (f2_cf h2) (cf_up a2 6 r2 (by decide) (by decide)))⟩
    · rw [if_neg c2]
      by_cases c3 : pr_up a 199 4 (nI (e s)) 199 4 = 112
      · rw [if_pos c3]
        obtain ⟨a1, e1, g1, h1⟩ := c_sign_b 112 h t0 hs g0
        have k1 := cf_t k0 (f2_cf h1)
        obtain ⟨a4, e4, g4, h4⟩ := c_dist_b h (tc_cf ha k1) hs g1
        rw [e1, pr_bd_s, e4, pr_bd_s]
        exact ⟨_, rfl, g4, cf_t k1 (fd_cf h4)⟩
      · rw [if_neg c3]
        by_cases c4 : pr_up a 199 4 (nI (e s)) 199 4 = 118
        · rw [if_pos c4]
          obtain ⟨a1, e1, g1, h1⟩ := c_sign_b 118 h t0 hs g0
          have k1 := cf_t k0 (f2_cf h1)
          obtain ⟨r2, a2, e2, g2, h2⟩ := c_num_b 0 1000 h (tc_cf ha k1) hs g1
          rw [e1, pr_bd_s, e2, pr_bd_s, pr_lt_s]
          exact ⟨_, rfl, cB_up g2 (by decide), cf_t k1 (cf_t (f2_cf h2) (cf_up a2 6 r2 (by decide) (by decide)))⟩
        · rw [if_neg c4, pr_lt_s]
          exact ⟨_, rfl, ⟨by rw [rd_n (by omega)]; exact g0.1, rd_e ⟨rfl, rfl⟩⟩, cf_t k0 (cf_up _ 3 1 (by decide) (by decide))⟩
