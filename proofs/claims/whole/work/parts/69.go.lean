/-! ===== the whole text; where it is wrong ===== -/
abbrev pr_Stp : Type := Nat × Nat × Int32 × Nat
/-- the step behind the place p -/
def q_at (e : Nat → Nat) (p : Nat) : Nat × Option pr_Stp := if p = 0 then q_step e 0 else if e p = 44 then q_step e (p + 1) else (p, none)
/-- the steps behind the place p, where the reading ended, whether all is whole -/
def q_go (e : Nat → Nat) (len : Nat) : Nat → Nat → List pr_Stp × Nat × Bool
  | 0, p => ([], p, false)
  | n + 1, p => match q_at e p with
    | (s', none) => ([], s', false)
    | (s', some st) => if len ≤ s' then ([st], s', true) else (st :: (q_go e len n s').1, (q_go e len n s').2.1, (q_go e len n s').2.2)
def q_sum : List pr_Stp → Int32 → Int32
  | [], x => x
  | st :: L, x => q_sum L (if st.1 = 110 then x + st.2.2.1 else x)
def q_max : List pr_Stp → Int32 → Int32
  | [], x => x
  | st :: L, x => q_max L (if st.1 = 100 then (if x < nI st.2.1 then nI st.2.1 else x) else x)
theorem q_step_c {e : Nat → Nat} {s s' : Nat} {st : pr_Stp} (h : q_step e s = (s', some st)) : st.1 = 100 ∨ st.1 = 110 ∨ st.1 = 112 ∨ st.1 = 118 := by
  unfold q_step at h
  by_cases c1 : e s = 100
  · rw [if_pos c1] at h
    by_cases c2 : 48 ≤ e (s + 1) ∧ e (s + 1) ≤ 52
    · rw [if_pos c2] at h
      by_cases c3 : e (s + 2) = 58
      · rw [if_pos c3] at h
        rcases q : q_dist e (s + 3) with ⟨z, _ | ⟨A, D⟩⟩
        · rw [q] at h; cases h
        · rw [q] at h; cases h; exact Or.inl rfl
      · rw [if_neg c3] at h; cases h
    · rw [if_neg c2] at h; cases h
  · rw [if_neg c1] at h
    by_cases c2 : e s = 110
    · rw [if_pos c2] at h
      rcases q : q_num e 1 99 (s + 1) with ⟨z, _ | v⟩
      · rw [q] at h; cases h
      · rw [q] at h; cases h; exact Or.inr (Or.inl rfl)
    · rw [if_neg c2] at h
      by_cases c3 : e s = 112
      · rw [if_pos c3] at h
        rcases q : q_dist e (s + 1) with ⟨z, _ | ⟨A, D⟩⟩
        · rw [q] at h; cases h
        · rw [q] at h; cases h; exact Or.inr (Or.inr (Or.inl rfl))
      · rw [if_neg c3] at h
        by_cases c4 : e s = 118
        · rw [if_pos c4] at h
          rcases q : q_num e 0 1000 (s + 1) with ⟨z, _ | v⟩
          · rw [q] at h; cases h
          · rw [q] at h; cases h; exact Or.inr (Or.inr (Or.inr rfl))
        · rw [if_neg c4] at h; cases h
theorem q_at_c {e : Nat → Nat} {p s' : Nat} {st : pr_Stp} (h : q_at e p = (s', some st)) : st.1 = 100 ∨ st.1 = 110 ∨ st.1 = 112 ∨ st.1 = 118 := by
  unfold q_at at h
  by_cases c : p = 0
  · rw [if_pos c] at h; exact q_step_c h
  · rw [if_neg c] at h
    by_cases c : e p = 44
    · rw [if_pos c] at h; exact q_step_c h
    · rw [if_neg c] at h; cases h
theorem c_rd {len p s' : Nat} {o : Option pr_Stp} {e : Nat → Nat} {a : pr_M} (h : tx len e) (ha : tc len e a) (hp : p ≤ len) (g : cG a p) (hq : q_at e p = (s', o)) : ∃ a', F_X2_readStep 199 a = some ((), a') ∧ cf a a' ∧ s' ≤ len ∧ (∀ st, o = some st → cG a' s' ∧ sO a' st ∧ p + 2 ≤ s') ∧ (o = none → cB a' s') := by
  have h80 := h.1
  rw [c_step_u, g.1]
  unfold q_at at hq
  by_cases c : p = 0
  · subst c
    rw [if_pos rfl] at hq
    rw [if_pos (show nI 0 ≤ 0 by decide)]
    exact c_step h ha hp g hq
  · rw [if_neg c] at hq
    rw [if_neg (show ¬ nI p ≤ 0 from nI_ge (a := 0) (by omega) (by omega))]
    have ts := c_sign (p := 44) h ha (show p ≤ 90 by omega) (by decide) g
    by_cases c4 : e p = 44
    · obtain ⟨a1, e1, g1, h1⟩ := ts.1 c4
      have hl : p < len := tx_in h (by omega)
      rw [if_pos c4] at hq
      rw [show F_X2_readSign 199 44 a = some ((), a1) from e1, pr_bd_s]
      obtain ⟨a', e2, h2, k1, k2, k3⟩ := c_step h (tc_cf ha (f2_cf h1)) (show p + 1 ≤ len by omega) g1 hq
      exact ⟨a', e2, cf_t (f2_cf h1) h2, k1, fun st hst => by obtain ⟨w1, w2, w3⟩ := k2 st hst; exact ⟨w1, w2, by omega⟩, k3⟩
    · obtain ⟨a1, e1, g1, h1⟩ := ts.2 c4
      rw [if_neg c4] at hq
      cases hq
      rw [show F_X2_readSign 199 44 a = some ((), a1) from e1, pr_bd_s]
      obtain ⟨a', e2, g2, h2⟩ := c_step_b h (tc_cf ha (f2_cf h1)) (show p ≤ 90 by omega) g1
      exact ⟨a', e2, cf_t (f2_cf h1) h2, hp, fun st hst => (by cases hst), fun _ => g2⟩
def G_post (f : pr_M) : pr_M := if f 199 4 = 110 then pr_up f 199 8 ((f 199 8) + (f 199 6)) else if f 199 4 = 100 then pr_up f 199 9 (if (f 199 9) < (f 199 5) then (f 199 5) else (f 199 9)) else f
def G_more (n : Nat) (x1 : Int32) (f : pr_M) : Option (Unit × pr_M) := pr_b1 (F_X2_hasMore 199 f) fun r => if r = 0 then some ((), f) else if (x1 + 1) < 80 then L_X2_readAll_16 199 n (x1 + 1) f else some ((), f)
theorem c_all_u (n : Nat) (x1 : Int32) (f : pr_M) : L_X2_readAll_16 199 (n + 1) x1 f = pr_bd (F_X2_readStep 199 f) fun _ f1 => G_more n x1 (G_post f1) := by
  rw [L_X2_readAll_16]
  congr 1
  funext _ f1
  unfold G_post
  by_cases c : f1 199 4 = 110
  · rw [if_pos c, if_pos c, pr_lt_s, if_neg (show ¬ pr_up f1 199 8 (f1 199 8 + f1 199 6) 199 4 = 100 by rw [rd_n (by omega), c]; decide)]
    exact Eq.trans rfl rfl
  · rw [if_neg c, if_neg c]
    by_cases c2 : f1 199 4 = 100
    · rw [if_pos c2, if_pos c2, pr_lt_s]
      exact Eq.trans rfl rfl
    · rw [if_neg c2, if_neg c2]
      exact Eq.trans rfl rfl
def cw (a a' : pr_M) : Prop := ∀ c j, (c ≠ 199 ∨ j < 2 ∨ 10 ≤ j) → a' c j = a c j
theorem G_post_f (a : pr_M) : ∀ c j, (c ≠ 199 ∨ j < 8 ∨ 10 ≤ j) → G_post a c j = a c j := fun c j hc => by
  unfold G_post
  by_cases c1 : a 199 4 = 110
  · rw [if_pos c1, rd_n (by omega)]
  · rw [if_neg c1]
    by_cases c2 : a 199 4 = 100
    · rw [if_pos c2, rd_n (by omega)]
    · rw [if_neg c2]
theorem G_post_v {a : pr_M} {st : pr_Stp} (h : sO a st) (hc : st.1 = 100 ∨ st.1 = 110 ∨ st.1 = 112 ∨ st.1 = 118) : G_post a 199 8 = (if st.1 = 110 then a 199 8 + st.2.2.1 else a 199 8) ∧ G_post a 199 9 = (if st.1 = 100 then (if a 199 9 < nI st.2.1 then nI st.2.1 else a 199 9) else a 199 9) := by
  obtain ⟨h1, h2, h3, h4⟩ := h
  unfold G_post
  rw [h1, h3]
  rcases hc with c | c | c | c
  · rw [c, if_neg (show ¬ nI 100 = 110 by decide), if_pos (show nI 100 = 100 by decide), rd_n (by omega), rd_e ⟨rfl, rfl⟩, if_neg (show ¬ (100 : Nat) = 110 by decide), if_pos rfl, h2 c]
    exact ⟨rfl, rfl⟩
  · rw [c, if_pos (show nI 110 = 110 by decide), rd_n (c := 199) (j := 9) (by omega), rd_e ⟨rfl, rfl⟩, if_pos rfl, if_neg (show ¬ (110 : Nat) = 100 by decide)]
    exact ⟨rfl, rfl⟩
  · rw [c, if_neg (show ¬ nI 112 = 110 by decide), if_neg (show ¬ nI 112 = 100 by decide), if_neg (show ¬ (112 : Nat) = 110 by decide), if_neg (show ¬ (112 : Nat) = 100 by decide)]
    exact ⟨rfl, rfl⟩
  · rw [c, if_neg (show ¬ nI 118 = 110 by decide), if_neg (show ¬ nI 118 = 100 by decide), if_neg (show ¬ (118 : Nat) = 110 by decide), if_neg (show ¬ (118 : Nat) = 100 by decide)]
    exact ⟨rfl, rfl⟩
theorem c_go {len : Nat} {e : Nat → Nat} (h : tx len e) : ∀ (n p N cnt : Nat) (a : pr_M), 82 ≤ p + 2 * n → p ≤ len → 2 * cnt ≤ p → n < N → tc len e a → cG a p →
    ∃ a', L_X2_readAll_16 199 N (nI cnt) a = some ((), a') ∧ cw a a' ∧ (q_go e len n p).2.1 ≤ len ∧ ((q_go e len n p).2.2 = true → cG a' (q_go e len n p).2.1 ∧ a' 199 8 = q_sum (q_go e len n p).1 (a 199 8) ∧ a' 199 9 = q_max (q_go e len n p).1 (a 199 9)) ∧ ((q_go e len n p).2.2 = false → cB a' (q_go e len n p).2.1)
  | 0, p, N, cnt, a, h1, h2, h3, hN, ha, g => by have := h.1; omega
  | n + 1, p, N, cnt, a, h1, h2, h3, hN, ha, g => by
    obtain ⟨N, rfl⟩ : ∃ j, N = j + 1 := ⟨N - 1, by omega⟩
    have h80 := h.1
    rw [c_all_u, q_go]
    rcases qa : q_at e p with ⟨s', _ | st⟩
    · obtain ⟨a1, e1, f1, k1, -, k3⟩ := c_rd h ha h2 g qa
      have k3 := k3 rfl
      have P := G_post_f a1
      rw [e1, pr_bd_s]
      unfold G_more F_X2_hasMore
      rw [P 199 3 (by omega), k3.2, if_neg (show ¬ (1 : Int32) = 0 by decide), pr_b1_s, if_pos rfl]
      exact ⟨_, rfl, fun c j hc => by rw [P c j (by omega), f1 c j (by omega)], k1, fun c => (by cases c), fun _ => ⟨by rw [P _ _ (by omega)]; exact k3.1, by rw [P _ _ (by omega)]; exact k3.2⟩⟩
    · obtain ⟨a1, e1, f1, k1, k2, -⟩ := c_rd h ha h2 g qa
      obtain ⟨k2, k3, k4⟩ := k2 st rfl
      have P := G_post_f a1
      obtain ⟨v8, v9⟩ := G_post_v k3 (q_at_c qa)
      rw [f1 199 8 (by omega)] at v8
      rw [f1 199 9 (by omega)] at v9
      have gP : cG (G_post a1) s' := ⟨by rw [P _ _ (by omega)]; exact k2.1, by rw [P _ _ (by omega)]; exact k2.2⟩
      have tP : tc len e (G_post a1) := ⟨by rw [P _ _ (by omega), f1 _ _ (by omega)]; exact ha.1, fun i hi => by rw [P _ _ (by omega), f1 _ _ (by omega)]; exact ha.2 i hi⟩
      have wP : cw a (G_post a1) := fun c j hc => by rw [P c j (by omega), f1 c j (by omega)]
      rw [e1, pr_bd_s]
      unfold G_more F_X2_hasMore
      rw [gP.2, if_pos rfl, tP.1, gP.1]
      dsimp only
      by_cases c : len ≤ s'
      · rw [if_pos (nI_le c (by omega)), if_pos c, pr_b1_s, if_pos rfl]
        exact ⟨_, rfl, wP, k1, fun _ => ⟨gP, v8, v9⟩, fun c => (by cases c)⟩
      · rw [if_neg (nI_ge (by omega) (by omega)), if_neg c, pr_b1_s, if_neg (show ¬ (1 : Int32) = 0 by decide), nI_1, if_pos (show nI (cnt + 1) < 80 from nI_lt (b := 80) (by omega) (by decide))]
        obtain ⟨a', w1, w2, w3, w4, w5⟩ := c_go h n s' N (cnt + 1) (G_post a1) (by omega) k1 (by omega) (by omega) tP gP
        refine ⟨a', w1, fun c j hc => by rw [w2 c j hc, wP c j hc], w3, fun c => ?_, w5⟩
        obtain ⟨y1, y2, y3⟩ := w4 c
        rw [v8] at y2
        rw [v9] at y3
        exact ⟨y1, y2, y3⟩
theorem c_all {len : Nat} {e : Nat → Nat} {a : pr_M} (h : tx len e) (ha : tc len e a) :
    ∃ a', F_X2_readAll 199 a = some ((), a') ∧ cw a a' ∧ (q_go e len 41 0).2.1 ≤ len ∧ ((q_go e len 41 0).2.2 = true → cG a' (q_go e len 41 0).2.1 ∧ a' 199 8 = q_sum (q_go e len 41 0).1 0 ∧ a' 199 9 = q_max (q_go e len 41 0).1 0) ∧ ((q_go e len 41 0).2.2 = false → cB a' (q_go e len 41 0).2.1) := by
  unfold F_X2_readAll F_X2_beginReading
  rw [pr_lt_s, pr_lt_s, pr_bd_s, pr_lt_s, pr_lt_s]
  generalize ha0 : pr_up (pr_up (pr_up (pr_up a 199 2 0) 199 3 0) 199 8 0) 199 9 0 = a0
  have F0 : cw a a0 := fun c j hc => by rw [← ha0]; simp (disch := omega) only [rd_n]
  obtain ⟨a', w1, w2, w3, w4, w5⟩ := c_go h 41 0 pr_fuel 0 a0 (by omega) (Nat.zero_le _) (by omega) (by decide) ⟨by rw [F0 _ _ (by omega)]; exact ha.1, fun i hi => by rw [F0 _ _ (by omega)]; exact ha.2 i hi⟩ ⟨by rw [← ha0]; simp (disch := omega) only [rd_n, rd_e]; rfl, by rw [← ha0]; simp (disch := omega) only [rd_n, rd_e]⟩
  rw [show L_X2_readAll_16 199 pr_fuel 0 a0 = some ((), a') from w1, pr_bd_s]
  rw [show a0 199 8 = 0 by rw [← ha0]; simp (disch := omega) only [rd_n, rd_e], show a0 199 9 = 0 by rw [← ha0]; simp (disch := omega) only [rd_n, rd_e]] at w4
  exact ⟨a', rfl, fun c j hc => by rw [w2 c j hc, F0 c j hc], w3, w4, w5⟩
