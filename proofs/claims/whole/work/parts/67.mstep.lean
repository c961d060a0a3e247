/-! ===== the model reads a step ===== -/
def mF (e : Nat → Nat) (b : pr_M) (s : Nat) : Prop := b 0 6 = nI s ∧ (b 0 7 = 1 ∨ (b 0 7 = 0 ∧ 48 ≤ e s ∧ e s ≤ 57))
abbrev mg (b : pr_M) (s : Nat) : Prop := b 0 6 = nI s ∧ b 0 7 = 0
abbrev mB (b : pr_M) (s : Nat) : Prop := b 0 6 = nI s ∧ b 0 7 = 1
def m2 (b b' : pr_M) : Prop := ∀ c j, (c ≠ 0 ∨ (j ≠ 6 ∧ j ≠ 7)) → b' c j = b c j
theorem m2_t {b b' b'' : pr_M} (h : m2 b b') (h' : m2 b' b'') : m2 b b'' := fun c j hc => by rw [h' c j hc, h c j hc]
/-- a step's own places -/
def mf (k : Nat) (b b' : pr_M) : Prop := ∀ c j, (c ≠ 0 ∧ c ≠ 6 ∨ c = 0 ∧ j ≠ 6 ∧ j ≠ 7 ∧ j ≠ 9 ∨ c = 6 ∧ (j < 4 * k ∨ 4 * k + 4 ≤ j)) → b' c j = b c j
/-- a disturbance's own places -/
def md (k : Nat) (b b' : pr_M) : Prop := ∀ c j, (c ≠ 0 ∧ c ≠ 6 ∨ c = 0 ∧ j ≠ 6 ∧ j ≠ 7 ∨ c = 6 ∧ j ≠ 4 * k + 2 ∧ j ≠ 4 * k + 3) → b' c j = b c j
theorem m2_md {k : Nat} {b b' : pr_M} (h : m2 b b') : md k b b' := fun c j hc => h c j (by omega)
theorem md_t {k : Nat} {b b' b'' : pr_M} (h : md k b b') (h' : md k b' b'') : md k b b'' := fun c j hc => by rw [h' c j hc, h c j hc]
theorem md_mf {k : Nat} {b b' : pr_M} (h : md k b b') : mf k b b' := fun c j hc => h c j (by omega)
theorem mf_t {k : Nat} {b b' b'' : pr_M} (h : mf k b b') (h' : mf k b' b'') : mf k b b'' := fun c j hc => by rw [h' c j hc, h c j hc]
theorem tm_mf {len k : Nat} {e : Nat → Nat} {b b' : pr_M} (h : tm len e b) (f : mf k b b') : tm len e b' := ⟨by rw [f _ _ (by omega)]; exact h.1, fun i hi => by rw [f _ _ (by omega)]; exact h.2 i hi⟩
theorem tm_m2 {len : Nat} {e : Nat → Nat} {b b' : pr_M} (h : tm len e b) (f : m2 b b') : tm len e b' := ⟨by rw [f _ _ (by omega)]; exact h.1, fun i hi => by rw [f _ _ (by omega)]; exact h.2 i hi⟩
theorem m_need {len s p : Nat} {e : Nat → Nat} {b : pr_M} (h : tx len e) (hb : tm len e b) (hs : s ≤ 90) (hp : p ≤ 126) (hp48 : p < 48 ∨ 57 < p) (g : mF e b s ∨ mg b s) :
    (mg b s → e s = p → ∃ b', F_X9_need 0 (nI p) b = some ((), b') ∧ mg b' (s + 1) ∧ m2 b b') ∧ (mF e b s ∨ e s ≠ p → ∃ b', F_X9_need 0 (nI p) b = some ((), b') ∧ mB b' s ∧ m2 b b') := by
  have h126 := tx_lt h s
  have h6 : b 0 6 = nI s := by rcases g with g | g <;> exact g.1
  have bad : (if b 0 7 = 0 then pr_b1 (F_X9_next 0 b) fun r4 => if r4 = nI p then some (0 : Int32) else some 1 else some 1) = some 1 → ∃ b', F_X9_need 0 (nI p) b = some ((), b') ∧ mB b' s ∧ m2 b b' := fun w => by
    unfold F_X9_need pr_gd
    rw [w, pr_b1_s, if_pos (Or.inr rfl), pr_lt_s, rd_e ⟨rfl, rfl⟩, if_neg (show ¬ (1 : Int32) = 0 by decide), pr_b1_s, pr_lt_s, rd_n (by omega), h6, Int32.add_zero]
    exact ⟨_, rfl, ⟨rd_e ⟨rfl, rfl⟩, by rw [rd_n (by omega), rd_e ⟨rfl, rfl⟩]⟩, fun c j hc => by rw [rd_n (by omega), rd_n (by omega)]⟩
  constructor
  · intro g1 c
    unfold F_X9_need pr_gd
    rw [if_pos g1.2, m_next h hb (by omega) h6, pr_b1_s, if_pos (show nI (e s) = nI p by rw [c]), pr_b1_s, if_pos (Or.inl rfl), pr_lt_s, rd_e ⟨rfl, rfl⟩, if_pos rfl, pr_b1_s, pr_lt_s, rd_n (by omega), h6, nI_1]
    exact ⟨_, rfl, ⟨rd_e ⟨rfl, rfl⟩, by rw [rd_n (by omega), rd_e ⟨rfl, rfl⟩]⟩, fun c j hc => by rw [rd_n (by omega), rd_n (by omega)]⟩
  · intro w
    refine bad ?_
    by_cases c7 : b 0 7 = 0
    · have ne : e s ≠ p := by
        rcases w with w | w
        · rcases w.2 with w | ⟨-, w1, w2⟩
          · rw [c7] at w; exact absurd w (by decide)
          · omega
        · exact w
      rw [if_pos c7, m_next h hb (by omega) h6, pr_b1_s, if_neg (fun q => ne ((nI_eq (by omega) (by omega)).mp q))]
    · rw [if_neg c7]
theorem m_num_l {len : Nat} {e : Nat → Nat} (h : tx len e) {hi : Nat} (hh : hi ≤ 3000) : ∀ (n x s N : Nat) (b : pr_M), s + n = 81 → s ≤ len → x ≤ hi → n < N → tm len e b → b 0 6 = nI s →
    ∃ r b', L_X9_readNumber_48 0 (nI hi) N (nI x) b = some (r, b') ∧ (∀ v, (q_l e hi n x s).2 = some v → r = nI v) ∧ b' 0 6 = nI (q_l e hi n x s).1 ∧ (∀ c j, (c ≠ 0 ∨ j ≠ 6) → b' c j = b c j)
  | 0, x, s, N, b, hs, h2, h3, hN, hb, g => by have := h.1; omega
  | n + 1, x, s, N, b, hs, h2, h3, hN, hb, g => by
    obtain ⟨N, rfl⟩ : ∃ j, N = j + 1 := ⟨N - 1, by omega⟩
    have h80 := h.1
    have h126 := tx_lt h s
    rw [L_X9_readNumber_48, m_next h hb (by omega) g, q_l]
    by_cases c1 : e s < 48 ∨ 57 < e s
    · rw [if_pos c1]
      refine ⟨nI x, b, ?_, fun v hv => by cases hv; rfl, g, fun _ _ _ => rfl⟩
      by_cases c : nI x ≤ 0
      · rw [if_pos c]
      · have i0 : F_X9_in (nI (e s)) 48 57 b = some 0 := by
          rw [rm_in]
          rcases c1 with c1 | c1
          · rw [if_pos (show nI (e s) < 48 from nI_lt (b := 48) c1 (by decide))]
          · rw [if_neg (show ¬ nI (e s) < 48 from nI_nlt (b := 48) (by omega) (by omega)), if_pos (show (57 : Int32) < nI (e s) from nI_lt (a := 57) c1 (by omega))]
        rw [if_neg c, pr_b1_s, i0, pr_b1_s, if_pos rfl]
    · have hl : s < len := tx_in h (by omega)
      have i1 : F_X9_in (nI (e s)) 48 57 b = some 1 := by
        rw [rm_in, if_neg (show ¬ nI (e s) < 48 from nI_nlt (b := 48) (by omega) (by omega)), if_neg (show ¬ (57 : Int32) < nI (e s) from nI_nlt (a := 57) (by omega) (by decide))]
      rw [if_neg c1]
      by_cases c2 : x = 0
      · subst c2
        rw [if_pos (show nI 0 ≤ 0 by decide), if_pos rfl]
        exact ⟨_, b, rfl, fun v hv => (by cases hv), g, fun _ _ _ => rfl⟩
      · have ev : (10 : Int32) * nI x + nI (e s) - 48 = nI (10 * x + (e s - 48)) := by
          rw [show (10 : Int32) = nI 10 from rfl, pk_mul, nI_add, show (48 : Int32) = nI 48 from rfl, pk_sub (by omega)]
          congr 1
          omega
        rw [if_neg (show ¬ nI x ≤ 0 from nI_ge (a := 0) (by omega) (by omega)), if_neg c2, pr_b1_s, i1, pr_b1_s, if_neg (show ¬ (1 : Int32) = 0 by decide), pr_b1_s, pr_b1_s, ev]
        by_cases c3 : 10 * x + (e s - 48) ≤ hi
        · rw [if_neg (nI_nlt c3 (by omega)), if_pos c3, pr_lt_s, g, nI_1]
          obtain ⟨r, b', k1, k2, k3, k4⟩ := m_num_l h hh n (10 * x + (e s - 48)) (s + 1) N (pr_up b 0 6 (nI (s + 1))) (by omega) (by omega) c3 (by omega) (tm_m2 hb (fun c j hc => rd_n (by omega))) (rd_e ⟨rfl, rfl⟩)
          exact ⟨r, b', k1, k2, k3, fun c j hc => by rw [k4 c j hc, rd_n (by omega)]⟩
        · rw [if_pos (nI_lt (by omega) (by omega)), if_neg c3]
          exact ⟨_, b, rfl, fun v hv => (by cases hv), g, fun _ _ _ => rfl⟩
theorem m_num {len s lo hi s' : Nat} {o : Option Nat} {e : Nat → Nat} {b : pr_M} (h : tx len e) (hb : tm len e b) (hs : s ≤ len) (hlo : lo ≤ 1) (h9 : 9 ≤ hi) (hh : hi ≤ 3000) (g : mg b s) (hq : q_num e lo hi s = (s', o)) :
    ∃ r b', F_X9_readNumber 0 (nI lo) (nI hi) b = some (r, b') ∧ m2 b b' ∧ (∀ v, o = some v → r = nI v ∧ mg b' s') ∧ (o = none → mF e b' s') := by
  have h80 := h.1
  have h126 := tx_lt h s
  unfold F_X9_readNumber
  unfold q_num at hq
  rw [if_pos g.2, m_next h hb (by omega) g.1, pr_b1_s, rm_in, pr_b1_s, show (48 : Int32) + nI lo = nI (48 + lo) from nI_add 48 lo]
  by_cases c : e s < 48 + lo ∨ 57 < e s
  · have i0 : (if nI (e s) < nI (48 + lo) then (0 : Int32) else if 57 < nI (e s) then 0 else 1) = 0 := by
      by_cases c1 : e s < 48 + lo
      · rw [if_pos (nI_lt c1 (by omega))]
      · rw [if_neg (nI_nlt (by omega) (by omega)), if_pos (show (57 : Int32) < nI (e s) from nI_lt (a := 57) (by omega) (by omega))]
    rw [i0, if_pos rfl, pr_lt_s]
    rw [if_pos c] at hq
    cases hq
    exact ⟨_, _, rfl, fun c j hc => rd_n (by omega), fun v hv => (by cases hv), fun _ => ⟨by rw [rd_n (by omega)]; exact g.1, Or.inl (rd_e ⟨rfl, rfl⟩)⟩⟩
  · have hl : s < len := tx_in h (by omega)
    rw [if_neg (nI_nlt (by omega) (by omega)), if_neg (show ¬ (57 : Int32) < nI (e s) from nI_nlt (a := 57) (by omega) (by decide)), if_neg (show ¬ (1 : Int32) = 0 by decide), pr_b1_s, pr_lt_s, g.1, nI_1, show nI (e s) - 48 = nI (e s - 48) from pk_sub (b := 48) (by omega)]
    rw [if_neg c] at hq
    obtain ⟨r, b', k1, k2, k3, k4⟩ := m_num_l h hh (80 - s) (e s - 48) (s + 1) pr_fuel (pr_up b 0 6 (nI (s + 1))) (by omega) (by omega) (by omega) (by show 80 - s < 4000; omega) (tm_m2 hb (fun c j hc => rd_n (by omega))) (rd_e ⟨rfl, rfl⟩)
    have F := q_l_f h (hi := hi) (80 - s) (e s - 48) (s + 1) (by omega) (by omega) (by omega)
    rw [hq] at k2 k3 F
    have b7 : b' 0 7 = 0 := by rw [k4 _ _ (by omega), rd_n (by omega)]; exact g.2
    rw [k1, pr_bd_s]
    exact ⟨r, b', rfl, fun c j hc => by rw [k4 _ _ (by omega), rd_n (by omega)], fun v hv => ⟨k2 v hv, k3, b7⟩, fun hv => ⟨k3, Or.inr ⟨b7, F.2.2.2 hv⟩⟩⟩
theorem m_num_b {s : Nat} {b : pr_M} (lo hi : Int32) (g : mB b s) : ∃ r b', F_X9_readNumber 0 lo hi b = some (r, b') ∧ m2 b b' ∧ mB b' s := by
  unfold F_X9_readNumber
  rw [g.2, if_neg (show ¬ (1 : Int32) = 0 by decide), pr_lt_s]
  exact ⟨_, _, rfl, fun c j hc => rd_n (by omega), by rw [rd_n (by omega)]; exact g.1, rd_e ⟨rfl, rfl⟩⟩
theorem m_unit {len s : Nat} {e : Nat → Nat} {b : pr_M} (h : tx len e) (hb : tm len e b) (hs : s ≤ len) (g : mg b s) :
    (48 ≤ e s ∧ e s ≤ 52 → ∃ b', F_X9_readUnit 0 b = some (nI (e s - 48), b') ∧ mg b' (s + 1) ∧ m2 b b') ∧ (¬ (48 ≤ e s ∧ e s ≤ 52) → ∃ r b', F_X9_readUnit 0 b = some (r, b') ∧ mB b' s ∧ m2 b b') := by
  have h80 := h.1
  have h126 := tx_lt h s
  unfold F_X9_readUnit
  rw [if_pos g.2, m_next h hb (by omega) g.1, pr_b1_s, rm_in, pr_b1_s]
  constructor
  · intro c
    have hl : s < len := tx_in h (by omega)
    rw [if_neg (show ¬ nI (e s) < 48 from nI_nlt (b := 48) (by omega) (by omega)), if_neg (show ¬ (52 : Int32) < nI (e s) from nI_nlt (a := 52) (by omega) (by decide)), if_neg (show ¬ (1 : Int32) = 0 by decide), pr_lt_s, g.1, nI_1, rd_e ⟨rfl, rfl⟩, nI_pred, pr_gd_i (by omega) (by decide), ri_cl (by omega), Nat.zero_add, rd_n (by omega), hb.2 s hl, show nI (e s) - 48 = nI (e s - 48) from pk_sub (b := 48) (by omega)]
    exact ⟨_, rfl, ⟨rd_e ⟨rfl, rfl⟩, by rw [rd_n (by omega)]; exact g.2⟩, fun c j hc => rd_n (by omega)⟩
  · intro c
    have i0 : (if nI (e s) < 48 then (0 : Int32) else if 52 < nI (e s) then 0 else 1) = 0 := by
      by_cases c1 : e s < 48
      · rw [if_pos (show nI (e s) < 48 from nI_lt (b := 48) c1 (by omega))]
      · rw [if_neg (show ¬ nI (e s) < 48 from nI_nlt (b := 48) (by omega) (by omega)), if_pos (show (52 : Int32) < nI (e s) from nI_lt (a := 52) (by omega) (by omega))]
    rw [i0, if_pos rfl, pr_lt_s]
    exact ⟨_, _, rfl, ⟨by rw [rd_n (by omega)]; exact g.1, rd_e ⟨rfl, rfl⟩⟩, fun c j hc => rd_n (by omega)⟩
theorem m_unit_b {s : Nat} {b : pr_M} (g : mB b s) : ∃ r b', F_X9_readUnit 0 b = some (r, b') ∧ mB b' s ∧ m2 b b' := by
  unfold F_X9_readUnit
  rw [g.2, if_neg (show ¬ (1 : Int32) = 0 by decide), pr_lt_s]
  exact ⟨_, _, rfl, ⟨by rw [rd_n (by omega)]; exact g.1, rd_e ⟨rfl, rfl⟩⟩, fun c j hc => rd_n (by omega)⟩
