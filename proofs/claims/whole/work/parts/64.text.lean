/-! ===== the pad's text: what both sides read ===== -/
def tx (len : Nat) (e : Nat → Nat) : Prop := len ≤ 80 ∧ (∀ i, i < len → 33 ≤ e i ∧ e i ≤ 126) ∧ (∀ i, len ≤ i → e i = 0)
def tc (len : Nat) (e : Nat → Nat) (a : pr_M) : Prop := a 199 1 = nI len ∧ ∀ i, i < len → a 200 i = nI (e i)
def tm (len : Nat) (e : Nat → Nat) (b : pr_M) : Prop := b 0 5 = nI len ∧ ∀ i, i < len → b 5 i = nI (e i)
theorem tx_lt {len : Nat} {e : Nat → Nat} (h : tx len e) (s : Nat) : e s ≤ 126 := by
  rcases Nat.lt_or_ge s len with c | c
  · exact (h.2.1 s c).2
  · rw [h.2.2 s c]; omega
theorem tx_in {len : Nat} {e : Nat → Nat} (h : tx len e) {s : Nat} (hs : 0 < e s) : s < len := by
  rcases Nat.lt_or_ge s len with c | c
  · exact c
  · rw [h.2.2 s c] at hs; omega
theorem c_code {len s : Nat} {e : Nat → Nat} {a : pr_M} (h : tx len e) (ha : tc len e a) (hs : s < 2 ^ 31) : F_X2_codeAt 199 (nI s) a = some (nI (e s)) := by
  unfold F_X2_codeAt
  have h80 := h.1
  rw [if_neg (nI_pos hs), ha.1]
  rcases Nat.lt_or_ge s len with c | c
  · rw [if_neg (nI_ge c (by omega)), if_neg (show ¬ (80 : Int32) ≤ nI s from nI_ge (b := 80) (by omega) (by decide)), pr_gd_i (by omega) (by decide), ri_cl hs, ha.2 s c]
  · rw [if_pos (nI_le c hs), h.2.2 s c]; rfl
theorem m_next {len s : Nat} {e : Nat → Nat} {b : pr_M} (h : tx len e) (hb : tm len e b) (hs : s < 2 ^ 31) (h6 : b 0 6 = nI s) : F_X9_next 0 b = some (nI (e s)) := by
  unfold F_X9_next
  have h80 := h.1
  rw [hb.1, h6]
  rcases Nat.lt_or_ge s len with c | c
  · rw [if_neg (nI_ge c (by omega)), pr_gd_i (by omega) (by decide), ri_cl hs, Nat.zero_add, hb.2 s c]
  · rw [if_pos (nI_le c hs), h.2.2 s c]; rfl
/-! the class -/
abbrev cG (a : pr_M) (s : Nat) : Prop := a 199 2 = nI s ∧ a 199 3 = 0
abbrev cB (a : pr_M) (s : Nat) : Prop := a 199 2 = nI s ∧ a 199 3 = 1
/-- only the reading's own places of the pad changed -/
def cf (a a' : pr_M) : Prop := ∀ c j, (c ≠ 199 ∨ j < 2 ∨ 8 ≤ j) → a' c j = a c j
def f2 (a a' : pr_M) : Prop := ∀ c j, (c ≠ 199 ∨ (j ≠ 2 ∧ j ≠ 3)) → a' c j = a c j
theorem f2_cf {a a' : pr_M} (h : f2 a a') : cf a a' := fun c j hc => h c j (by omega)
theorem f2_t {a a' a'' : pr_M} (h : f2 a a') (h' : f2 a' a'') : f2 a a'' := fun c j hc => by rw [h' c j hc, h c j hc]
theorem cf_t {a a' a'' : pr_M} (h : cf a a') (h' : cf a' a'') : cf a a'' := fun c j hc => by rw [h' c j hc, h c j hc]
theorem cf_r (a : pr_M) : cf a a := fun _ _ _ => rfl
theorem f2_r (a : pr_M) : f2 a a := fun _ _ _ => rfl
theorem tc_cf {len : Nat} {e : Nat → Nat} {a a' : pr_M} (h : tc len e a) (f : cf a a') : tc len e a' := ⟨by rw [f _ _ (by omega)]; exact h.1, fun i hi => by rw [f _ _ (by omega)]; exact h.2 i hi⟩
theorem c_sign {len s p : Nat} {e : Nat → Nat} {a : pr_M} (h : tx len e) (ha : tc len e a) (hs : s ≤ 90) (hp : p ≤ 126) (g : cG a s) :
    (e s = p → ∃ a', F_X2_readSign 199 (nI p) a = some ((), a') ∧ cG a' (s + 1) ∧ f2 a a') ∧ (e s ≠ p → ∃ a', F_X2_readSign 199 (nI p) a = some ((), a') ∧ cB a' s ∧ f2 a a') := by
  have := tx_lt h s
  unfold F_X2_readSign
  rw [g.1, c_code h ha (by omega), pr_b1_s]
  constructor
  · intro c
    rw [if_pos ((nI_eq (by omega) (by omega)).mpr c), if_pos g.2, pr_lt_s, nI_1]
    exact ⟨_, rfl, ⟨rd_e ⟨rfl, rfl⟩, by rw [rd_n (by omega)]; exact g.2⟩, fun c j hc => rd_n (by omega)⟩
  · intro c
    rw [if_neg (fun q => c ((nI_eq (by omega) (by omega)).mp q)), pr_lt_s, rd_e ⟨rfl, rfl⟩, if_neg (show ¬ (1 : Int32) = 0 by decide)]
    exact ⟨_, rfl, ⟨by rw [rd_n (by omega)]; exact g.1, rd_e ⟨rfl, rfl⟩⟩, fun c j hc => rd_n (by omega)⟩
theorem c_sign_b {len s : Nat} {e : Nat → Nat} {a : pr_M} (p : Int32) (h : tx len e) (ha : tc len e a) (hs : s ≤ 90) (g : cB a s) :
    ∃ a', F_X2_readSign 199 p a = some ((), a') ∧ cB a' s ∧ f2 a a' := by
  unfold F_X2_readSign
  rw [g.1, c_code h ha (by omega), pr_b1_s]
  by_cases c : nI (e s) = p
  · rw [if_pos c, g.2, if_neg (show ¬ (1 : Int32) = 0 by decide)]
    exact ⟨_, rfl, g, f2_r a⟩
  · rw [if_neg c, pr_lt_s, rd_e ⟨rfl, rfl⟩, if_neg (show ¬ (1 : Int32) = 0 by decide)]
    exact ⟨_, rfl, ⟨by rw [rd_n (by omega)]; exact g.1, rd_e ⟨rfl, rfl⟩⟩, fun c j hc => rd_n (by omega)⟩
theorem c_digit {len s : Nat} {e : Nat → Nat} {a : pr_M} (h : tx len e) (ha : tc len e a) (hs : s < 2 ^ 31) : F_X2_digitAt 199 (nI s) a = some (if e s < 48 ∨ 57 < e s then -1 else nI (e s - 48)) := by
  have := tx_lt h s
  unfold F_X2_digitAt
  rw [c_code h ha hs, pr_b1_s]
  by_cases c1 : e s < 48
  · rw [if_pos (show nI (e s) < 48 from nI_lt (b := 48) c1 (by decide)), if_pos (Or.inl c1)]
  · rw [if_neg (show ¬ nI (e s) < 48 from nI_nlt (b := 48) (by omega) (by omega))]
    by_cases c2 : 57 < e s
    · rw [if_pos (show (57 : Int32) < nI (e s) from nI_lt (a := 57) c2 (by omega)), if_pos (Or.inr c2)]
    · rw [if_neg (show ¬ (57 : Int32) < nI (e s) from nI_nlt (a := 57) (by omega) (by decide)), if_neg (by omega), show (48 : Int32) = nI 48 from rfl, pk_sub (by omega)]
theorem nI_m1 {n : Nat} (h : n < 2 ^ 31) : ¬ nI n = -1 := fun c => nI_pos h (by rw [c]; decide)
/-- the rest of a number, from its value so far: where it ends, and its value, or none where it breaks -/
def q_l (e : Nat → Nat) (hi : Nat) : Nat → Nat → Nat → Nat × Option Nat
  | 0, x, s => (s, some x)
  | n + 1, x, s => if e s < 48 ∨ 57 < e s then (s, some x) else if x = 0 then (s, none) else if 10 * x + (e s - 48) ≤ hi then q_l e hi n (10 * x + (e s - 48)) (s + 1) else (s, none)
theorem q_l_f {len : Nat} {e : Nat → Nat} (h : tx len e) {hi : Nat} : ∀ (n x s : Nat), s + n = 81 → s ≤ len → x ≤ hi → s ≤ (q_l e hi n x s).1 ∧ (q_l e hi n x s).1 ≤ len ∧ (∀ v, (q_l e hi n x s).2 = some v → v ≤ hi ∧ x ≤ v) ∧ ((q_l e hi n x s).2 = none → 48 ≤ e (q_l e hi n x s).1 ∧ e (q_l e hi n x s).1 ≤ 57)
  | 0, x, s, hs, h2, h3 => by have := h.1; omega
  | n + 1, x, s, hs, h2, h3 => by
    rw [q_l]
    by_cases c1 : e s < 48 ∨ 57 < e s
    · rw [if_pos c1]
      exact ⟨Nat.le_refl _, h2, fun v hv => by cases hv; exact ⟨h3, Nat.le_refl _⟩, fun hv => (by cases hv)⟩
    · rw [if_neg c1]
      by_cases c2 : x = 0
      · rw [if_pos c2]
        exact ⟨Nat.le_refl _, h2, fun v hv => (by cases hv), fun _ => by dsimp only; omega⟩
      · rw [if_neg c2]
        by_cases c3 : 10 * x + (e s - 48) ≤ hi
        · rw [if_pos c3]
          have hl : s < len := tx_in h (by omega)
          obtain ⟨g1, g2, g3, g4⟩ := q_l_f h n (10 * x + (e s - 48)) (s + 1) (by omega) (by omega) c3
          exact ⟨by omega, g2, fun v hv => by have := g3 v hv; omega, g4⟩
        · rw [if_neg c3]
          exact ⟨Nat.le_refl _, h2, fun v hv => (by cases hv), fun _ => by dsimp only; omega⟩
theorem c_num_l {len : Nat} {e : Nat → Nat} (h : tx len e) {hi : Nat} (hh : hi ≤ 3000) : ∀ (n x s N : Nat) (a : pr_M), s + n = 81 → s ≤ len → x ≤ hi → n < N → tc len e a → cG a s →
    (∀ v, (q_l e hi n x s).2 = some v → ∃ a', L_X2_readNumber_43 199 (nI hi) N (nI x) a = some (nI v, a') ∧ cG a' (q_l e hi n x s).1 ∧ f2 a a') ∧ ((q_l e hi n x s).2 = none → ∃ a', L_X2_readNumber_43 199 (nI hi) N (nI x) a = some (0, a') ∧ cB a' (q_l e hi n x s).1 ∧ f2 a a')
  | 0, x, s, N, a, hs, h2, h3, hN, ha, g => by have := h.1; omega
  | n + 1, x, s, N, a, hs, h2, h3, hN, ha, g => by
    obtain ⟨N, rfl⟩ : ∃ j, N = j + 1 := ⟨N - 1, by omega⟩
    have h80 := h.1
    rw [L_X2_readNumber_43, ha.1, g.1, c_digit h ha (by omega), q_l]
    by_cases c1 : e s < 48 ∨ 57 < e s
    · rw [if_pos c1, if_pos c1]
      refine ⟨fun v hv => ?_, fun hv => (by cases hv)⟩
      cases hv
      refine ⟨a, ?_, g, f2_r a⟩
      by_cases c : nI len ≤ nI s
      · rw [if_pos c]
      · rw [if_neg c, pr_b1_s, if_pos rfl]
    · have hl : s < len := tx_in h (by omega)
      rw [if_neg c1, if_neg c1, if_neg (nI_ge hl (by omega)), pr_b1_s, if_neg (nI_m1 (by omega)), pr_b1_s]
      by_cases c2 : x = 0
      · subst c2
        rw [if_pos (show nI 0 = 0 from rfl), if_pos rfl, pr_lt_s]
        exact ⟨fun v hv => (by cases hv), fun _ => ⟨_, rfl, ⟨by rw [rd_n (by omega)]; exact g.1, rd_e ⟨rfl, rfl⟩⟩, fun c j hc => rd_n (by omega)⟩⟩
      · rw [if_neg (nI_ne0 (by omega) (by omega)), if_neg c2, show (10 : Int32) = nI 10 from rfl, pk_mul, nI_add]
        by_cases c3 : 10 * x + (e s - 48) ≤ hi
        · rw [if_pos (nI_le c3 (by omega)), if_pos c3, pr_lt_s, nI_1]
          have f : f2 a (pr_up a 199 2 (nI (s + 1))) := fun c j hc => rd_n (by omega)
          obtain ⟨k1, k2⟩ := c_num_l h hh n (10 * x + (e s - 48)) (s + 1) N (pr_up a 199 2 (nI (s + 1))) (by omega) (by omega) c3 (by omega) (tc_cf ha (f2_cf f)) ⟨rd_e ⟨rfl, rfl⟩, by rw [rd_n (by omega)]; exact g.2⟩
          exact ⟨fun v hv => by obtain ⟨a', w1, w2, w3⟩ := k1 v hv; exact ⟨a', w1, w2, f2_t f w3⟩, fun hv => by obtain ⟨a', w1, w2, w3⟩ := k2 hv; exact ⟨a', w1, w2, f2_t f w3⟩⟩
        · rw [if_neg (nI_ge (by omega) (by omega)), if_neg c3, pr_lt_s]
          exact ⟨fun v hv => (by cases hv), fun _ => ⟨_, rfl, ⟨by rw [rd_n (by omega)]; exact g.1, rd_e ⟨rfl, rfl⟩⟩, fun c j hc => rd_n (by omega)⟩⟩
/-- a number -/
def q_num (e : Nat → Nat) (lo hi s : Nat) : Nat × Option Nat := if e s < 48 + lo ∨ 57 < e s then (s, none) else q_l e hi (80 - s) (e s - 48) (s + 1)
theorem q_num_f {len : Nat} {e : Nat → Nat} (h : tx len e) {lo hi s : Nat} (hs : s ≤ len) (h9 : 9 ≤ hi) : s ≤ (q_num e lo hi s).1 ∧ (q_num e lo hi s).1 ≤ len ∧ (∀ v, (q_num e lo hi s).2 = some v → s < (q_num e lo hi s).1 ∧ lo ≤ v ∧ v ≤ hi) := by
  unfold q_num
  by_cases c : e s < 48 + lo ∨ 57 < e s
  · rw [if_pos c]
    exact ⟨Nat.le_refl _, hs, fun v hv => by cases hv⟩
  · rw [if_neg c]
    have hl : s < len := tx_in h (by omega)
    have h80 := h.1
    obtain ⟨g1, g2, g3, g4⟩ := q_l_f h (hi := hi) (80 - s) (e s - 48) (s + 1) (by omega) (by omega) (by omega)
    exact ⟨by omega, g2, fun v hv => by have := g3 v hv; omega⟩
theorem c_num {len s lo hi : Nat} {e : Nat → Nat} {a : pr_M} (h : tx len e) (ha : tc len e a) (hs : s ≤ len) (hlo : lo ≤ 1) (h9 : 9 ≤ hi) (hh : hi ≤ 3000) (g : cG a s) :
    (∀ v, (q_num e lo hi s).2 = some v → ∃ a', F_X2_readNumber 199 (nI lo) (nI hi) a = some (nI v, a') ∧ cG a' (q_num e lo hi s).1 ∧ f2 a a') ∧ ((q_num e lo hi s).2 = none → ∃ r a', F_X2_readNumber 199 (nI lo) (nI hi) a = some (r, a') ∧ cB a' (q_num e lo hi s).1 ∧ f2 a a') := by
  have h80 := h.1
  unfold F_X2_readNumber q_num
  rw [g.1, c_digit h ha (by omega), pr_b1_s, nI_1]
  have hb : ∀ a1, a1 = pr_up a 199 3 1 → cB a1 s ∧ f2 a a1 := fun a1 e1 => by
    subst e1
    exact ⟨⟨by rw [rd_n (by omega)]; exact g.1, rd_e ⟨rfl, rfl⟩⟩, fun c j hc => rd_n (by omega)⟩
  by_cases c : e s < 48 + lo ∨ 57 < e s
  · rw [if_pos c]
    refine ⟨fun v hv => (by cases hv), fun _ => ?_⟩
    by_cases c1 : e s < 48 ∨ 57 < e s
    · rw [if_pos c1, if_pos rfl, pr_lt_s, rd_e ⟨rfl, rfl⟩, if_neg (show ¬ (1 : Int32) = 0 by decide)]
      exact ⟨_, _, rfl, hb _ rfl⟩
    · rw [if_neg c1, if_neg (nI_m1 (by omega)), if_neg (nI_ge (by omega) (by omega)), pr_lt_s, rd_e ⟨rfl, rfl⟩, if_neg (show ¬ (1 : Int32) = 0 by decide)]
      exact ⟨_, _, rfl, hb _ rfl⟩
  · have hl : s < len := tx_in h (by omega)
    rw [if_neg c, if_neg (show ¬ (e s < 48 ∨ 57 < e s) by omega), if_neg (nI_m1 (by omega)), if_pos (nI_le (by omega) (by omega)), if_pos g.2, pr_lt_s]
    have f : f2 a (pr_up a 199 2 (nI (s + 1))) := fun c j hc => rd_n (by omega)
    obtain ⟨k1, k2⟩ := c_num_l h hh (80 - s) (e s - 48) (s + 1) pr_fuel (pr_up a 199 2 (nI (s + 1))) (by omega) (by omega) (by omega) (by show 80 - s < 4000; omega) (tc_cf ha (f2_cf f)) ⟨rd_e ⟨rfl, rfl⟩, by rw [rd_n (by omega)]; exact g.2⟩
    exact ⟨fun v hv => by obtain ⟨a', w1, w2, w3⟩ := k1 v hv; exact ⟨a', w1, w2, f2_t f w3⟩, fun hv => by obtain ⟨a', w1, w2, w3⟩ := k2 hv; exact ⟨_, a', w1, w2, f2_t f w3⟩⟩
theorem c_num_b {len s : Nat} {e : Nat → Nat} {a : pr_M} (lo hi : Int32) (h : tx len e) (ha : tc len e a) (hs : s ≤ 90) (g : cB a s) :
    ∃ r a', F_X2_readNumber 199 lo hi a = some (r, a') ∧ cB a' s ∧ f2 a a' := by
  have hb : cB (pr_up a 199 3 1) s ∧ f2 a (pr_up a 199 3 1) := ⟨⟨by rw [rd_n (by omega)]; exact g.1, rd_e ⟨rfl, rfl⟩⟩, fun c j hc => rd_n (by omega)⟩
  unfold F_X2_readNumber
  rw [g.1, c_digit h ha (by omega), pr_b1_s]
  by_cases c1 : (if e s < 48 ∨ 57 < e s then (-1 : Int32) else nI (e s - 48)) = -1
  · rw [if_pos c1, pr_lt_s, rd_e ⟨rfl, rfl⟩, if_neg (show ¬ (1 : Int32) = 0 by decide)]
    exact ⟨_, _, rfl, hb⟩
  · rw [if_neg c1]
    by_cases c2 : lo ≤ (if e s < 48 ∨ 57 < e s then (-1 : Int32) else nI (e s - 48))
    · rw [if_pos c2, g.2, if_neg (show ¬ (1 : Int32) = 0 by decide)]
      exact ⟨_, _, rfl, g, f2_r a⟩
    · rw [if_neg c2, pr_lt_s, rd_e ⟨rfl, rfl⟩, if_neg (show ¬ (1 : Int32) = 0 by decide)]
      exact ⟨_, _, rfl, hb⟩
theorem c_unit {len s : Nat} {e : Nat → Nat} {a : pr_M} (h : tx len e) (ha : tc len e a) (hs : s ≤ len) (g : cG a s) :
    (48 ≤ e s ∧ e s ≤ 52 → ∃ a', F_X2_readUnit 199 a = some (nI (e s - 48), a') ∧ cG a' (s + 1) ∧ f2 a a') ∧ (¬ (48 ≤ e s ∧ e s ≤ 52) → ∃ r a', F_X2_readUnit 199 a = some (r, a') ∧ cB a' s ∧ f2 a a') := by
  have h80 := h.1
  have hb : cB (pr_up a 199 3 1) s ∧ f2 a (pr_up a 199 3 1) := ⟨⟨by rw [rd_n (by omega)]; exact g.1, rd_e ⟨rfl, rfl⟩⟩, fun c j hc => rd_n (by omega)⟩
  unfold F_X2_readUnit
  rw [g.1, c_digit h ha (by omega), pr_b1_s, nI_1]
  constructor
  · intro c
    rw [if_neg (show ¬ (e s < 48 ∨ 57 < e s) by omega), if_neg (nI_m1 (by omega)), if_pos (show nI (e s - 48) ≤ 4 from nI_le (b := 4) (by omega) (by decide)), if_pos g.2, pr_lt_s]
    exact ⟨_, rfl, ⟨rd_e ⟨rfl, rfl⟩, by rw [rd_n (by omega)]; exact g.2⟩, fun c j hc => rd_n (by omega)⟩
  · intro c
    by_cases c1 : e s < 48 ∨ 57 < e s
    · rw [if_pos c1, if_pos rfl, pr_lt_s, rd_e ⟨rfl, rfl⟩, if_neg (show ¬ (1 : Int32) = 0 by decide)]
      exact ⟨_, _, rfl, hb⟩
    · rw [if_neg c1, if_neg (nI_m1 (by omega)), if_neg (show ¬ nI (e s - 48) ≤ 4 from nI_ge (a := 4) (by omega) (by omega)), pr_lt_s, rd_e ⟨rfl, rfl⟩, if_neg (show ¬ (1 : Int32) = 0 by decide)]
      exact ⟨_, _, rfl, hb⟩
theorem c_unit_b {len s : Nat} {e : Nat → Nat} {a : pr_M} (h : tx len e) (ha : tc len e a) (hs : s ≤ 90) (g : cB a s) :
    ∃ r a', F_X2_readUnit 199 a = some (r, a') ∧ cB a' s ∧ f2 a a' := by
  have hb : cB (pr_up a 199 3 1) s ∧ f2 a (pr_up a 199 3 1) := ⟨⟨by rw [rd_n (by omega)]; exact g.1, rd_e ⟨rfl, rfl⟩⟩, fun c j hc => rd_n (by omega)⟩
  unfold F_X2_readUnit
  rw [g.1, c_digit h ha (by omega), pr_b1_s]
  by_cases c1 : (if e s < 48 ∨ 57 < e s then (-1 : Int32) else nI (e s - 48)) = -1
  · rw [if_pos c1, pr_lt_s, rd_e ⟨rfl, rfl⟩, if_neg (show ¬ (1 : Int32) = 0 by decide)]
    exact ⟨_, _, rfl, hb⟩
  · rw [if_neg c1]
    by_cases c2 : (if e s < 48 ∨ 57 < e s then (-1 : Int32) else nI (e s - 48)) ≤ 4
    · rw [if_pos c2, g.2, if_neg (show ¬ (1 : Int32) = 0 by decide)]
      exact ⟨_, _, rfl, g, f2_r a⟩
    · rw [if_neg c2, pr_lt_s, rd_e ⟨rfl, rfl⟩, if_neg (show ¬ (1 : Int32) = 0 by decide)]
      exact ⟨_, _, rfl, hb⟩
