/-! ===== the units' numbers, and the calls that read ===== -/
def UQ (u : Int32) (q : Nat) : Prop := (u = 0 ∧ q = 5) ∨ (u = 1 ∧ q = 14)
theorem uq0 : UQ 0 5 := Or.inl ⟨rfl, rfl⟩
theorem uq1 : UQ 1 14 := Or.inr ⟨rfl, rfl⟩
/-- the numbers of a unit's state, its way apart -/
def nu (a : pr_M) (q : Nat) : Nat → Int32
  | 0 => a (q + 2) 2
  | 1 => a (q + 2) 3
  | 2 => a (q + 2) 4
  | 3 => a (q + 5) 0
  | 4 => a (q + 5) 1
  | 5 => a (q + 5) 2
  | 6 => a (q + 5) 3
  | 7 => a (q + 5) 4
  | 8 => a (q + 5) 5
  | 9 => a (q + 5) 6
  | 10 => a (q + 2) 7
  | 11 => a (q + 6) 1
  | 12 => a (q + 6) 3
  | _ => 0
theorem k13 {k : Nat} (h : k < 13) : k = 0 ∨ k = 1 ∨ k = 2 ∨ k = 3 ∨ k = 4 ∨ k = 5 ∨ k = 6 ∨ k = 7 ∨ k = 8 ∨ k = 9 ∨ k = 10 ∨ k = 11 ∨ k = 12 := by omega
theorem pr_op_S {β : Type} {n : Option β} {k : Nat → Option β} {a : Nat} : pr_op (some a) n k = k a := rfl
theorem pr_op_N {β : Type} {n : Option β} {k : Nat → Option β} : pr_op none n k = n := rfl
theorem pr_gdT {β : Type} {p : Prop} [Decidable p] {x : Option β} (h : p) : pr_gd p x = x := if_pos h
theorem c_lc {u : Int32} {q : Nat} (h : UQ u q) : pr_LC[q]? = some (7, 0) := by
  rcases h with ⟨-, rfl⟩ | ⟨-, rfl⟩ <;> decide +kernel
theorem c_unit {u : Int32} {q : Nat} {f : pr_M} (h : UQ u q) (h3 : f 1 3 = 2) : F_X3_unitAt 1 u f = some (some q) := by
  unfold F_X3_unitAt
  rw [h3]
  rcases h with ⟨rfl, rfl⟩ | ⟨rfl, rfl⟩ <;> decide +kernel
theorem c_out {x : Int32} {j n : Nat} (f : pr_M) (hj : j ≤ n) (hn : n < 2 ^ 31) (hx : x = nI j) : F_X8_isOutside x 0 (nI n) f = some 0 := by
  subst hx
  rw [rc_outside, if_neg (nI_pos (by omega)), if_pos (nI_le hj hn)]
theorem c_get {u : Int32} {q j : Nat} {f : pr_M} (h : UQ u q) (h3 : f 1 3 = 2) (hj : j < 11) : F_X8_get 0 u (nI j) f = some (f (q + 1) j) := by
  unfold F_X8_get
  rw [Nat.zero_add, c_unit h h3, pr_b1_s, pr_op_S, pr_gdT (c_lc h), show F_X8_isOutside (nI j) 0 10 f = some 0 from c_out (n := 10) f (by omega) (by decide) rfl, pr_b1_s, if_pos rfl, rc_setting f hj, pr_b1_s]
theorem c_get_0 {u : Int32} {q : Nat} {f : pr_M} (h : UQ u q) (h3 : f 1 3 = 2) : F_X8_get 0 u 0 f = some (f (q + 1) 0) := c_get (j := 0) h h3 (by decide)
theorem c_get_1 {u : Int32} {q : Nat} {f : pr_M} (h : UQ u q) (h3 : f 1 3 = 2) : F_X8_get 0 u 1 f = some (f (q + 1) 1) := c_get (j := 1) h h3 (by decide)
theorem c_get_2 {u : Int32} {q : Nat} {f : pr_M} (h : UQ u q) (h3 : f 1 3 = 2) : F_X8_get 0 u 2 f = some (f (q + 1) 2) := c_get (j := 2) h h3 (by decide)
theorem c_get_3 {u : Int32} {q : Nat} {f : pr_M} (h : UQ u q) (h3 : f 1 3 = 2) : F_X8_get 0 u 3 f = some (f (q + 1) 3) := c_get (j := 3) h h3 (by decide)
theorem c_get_4 {u : Int32} {q : Nat} {f : pr_M} (h : UQ u q) (h3 : f 1 3 = 2) : F_X8_get 0 u 4 f = some (f (q + 1) 4) := c_get (j := 4) h h3 (by decide)
theorem c_get_5 {u : Int32} {q : Nat} {f : pr_M} (h : UQ u q) (h3 : f 1 3 = 2) : F_X8_get 0 u 5 f = some (f (q + 1) 5) := c_get (j := 5) h h3 (by decide)
theorem c_get_6 {u : Int32} {q : Nat} {f : pr_M} (h : UQ u q) (h3 : f 1 3 = 2) : F_X8_get 0 u 6 f = some (f (q + 1) 6) := c_get (j := 6) h h3 (by decide)
theorem c_get_7 {u : Int32} {q : Nat} {f : pr_M} (h : UQ u q) (h3 : f 1 3 = 2) : F_X8_get 0 u 7 f = some (f (q + 1) 7) := c_get (j := 7) h h3 (by decide)
theorem c_get_8 {u : Int32} {q : Nat} {f : pr_M} (h : UQ u q) (h3 : f 1 3 = 2) : F_X8_get 0 u 8 f = some (f (q + 1) 8) := c_get (j := 8) h h3 (by decide)
theorem c_get_9 {u : Int32} {q : Nat} {f : pr_M} (h : UQ u q) (h3 : f 1 3 = 2) : F_X8_get 0 u 9 f = some (f (q + 1) 9) := c_get (j := 9) h h3 (by decide)
theorem c_get_10 {u : Int32} {q : Nat} {f : pr_M} (h : UQ u q) (h3 : f 1 3 = 2) : F_X8_get 0 u 10 f = some (f (q + 1) 10) := c_get (j := 10) h h3 (by decide)
theorem c_way0 {f : pr_M} (h3 : f 1 3 = 2) : F_X3_wayOf 1 0 f = some 0 := by
  unfold F_X3_wayOf
  rw [show pr_fuel = 3999 + 1 from rfl, L_X3_wayOf_4, if_pos (by decide), pr_b1_s]
theorem c_way1 {f : pr_M} (h3 : f 1 3 = 2) : F_X3_wayOf 1 1 f = some (f (14 + 1) 0) := by
  have e : (1 : Nat) + 1 + 3 + 9 * Int32.toNatClampNeg 1 = 14 := by decide +kernel
  unfold F_X3_wayOf
  rw [show pr_fuel = 3998 + 1 + 1 from rfl, L_X3_wayOf_4, h3, if_neg (by decide), if_neg (by decide), pr_gdT (by decide +kernel), e, rc_set_0, pr_b1_s, L_X3_wayOf_4, if_pos (by decide), pr_b1_s, Int32.zero_add]
theorem c_state {u : Int32} {q k : Nat} {f : pr_M} (h : UQ u q) (h3 : f 1 3 = 2) (hk : k < 13) : F_X8_state 0 u (nI k) f = some (nu f q k) := by
  unfold F_X8_state
  rw [Nat.zero_add, c_unit h h3, pr_b1_s, pr_op_S, pr_gdT (c_lc h)]
  rcases k13 hk with rfl | rfl | rfl | rfl | rfl | rfl | rfl | rfl | rfl | rfl | rfl | rfl | rfl
  · rw [if_pos (by decide)]; rfl
  · rw [if_neg (by decide), if_pos (by decide)]; rfl
  · rw [if_neg (by decide), if_neg (by decide), if_pos (by decide)]; rfl
  · rw [if_neg (by decide), if_neg (by decide), if_neg (by decide), if_pos (by decide)]; rfl
  · rw [if_neg (by decide), if_neg (by decide), if_neg (by decide), if_neg (by decide), if_pos (by decide)]; rfl
  · rw [if_neg (by decide), if_neg (by decide), if_neg (by decide), if_neg (by decide), if_neg (by decide), if_pos (by decide)]; rfl
  · rw [if_neg (by decide), if_neg (by decide), if_neg (by decide), if_neg (by decide), if_neg (by decide), if_neg (by decide), if_pos (by decide)]; rfl
  · rw [if_neg (by decide), if_neg (by decide), if_neg (by decide), if_neg (by decide), if_neg (by decide), if_neg (by decide), if_neg (by decide), if_pos (by decide)]; rfl
  · rw [if_neg (by decide), if_neg (by decide), if_neg (by decide), if_neg (by decide), if_neg (by decide), if_neg (by decide), if_neg (by decide), if_neg (by decide), if_pos (by decide)]; rfl
  · rw [if_neg (by decide), if_neg (by decide), if_neg (by decide), if_neg (by decide), if_neg (by decide), if_neg (by decide), if_neg (by decide), if_neg (by decide), if_neg (by decide), if_pos (by decide)]; rfl
  · rw [if_neg (by decide), if_neg (by decide), if_neg (by decide), if_neg (by decide), if_neg (by decide), if_neg (by decide), if_neg (by decide), if_neg (by decide), if_neg (by decide), if_neg (by decide), if_pos (by decide)]; rfl
  · rw [if_neg (by decide), if_neg (by decide), if_neg (by decide), if_neg (by decide), if_neg (by decide), if_neg (by decide), if_neg (by decide), if_neg (by decide), if_neg (by decide), if_neg (by decide), if_neg (by decide), if_pos (by decide)]; rfl
  · rw [if_neg (by decide), if_neg (by decide), if_neg (by decide), if_neg (by decide), if_neg (by decide), if_neg (by decide), if_neg (by decide), if_neg (by decide), if_neg (by decide), if_neg (by decide), if_neg (by decide), if_neg (by decide), if_pos (by decide)]; rfl
theorem c_st13 {u : Int32} {q : Nat} {f : pr_M} {v : Int32} (h : UQ u q) (h3 : f 1 3 = 2) (hv : F_X3_wayOf 1 u f = some v) : F_X8_state 0 u (nI 13) f = some v := by
  unfold F_X8_state
  rw [Nat.zero_add, c_unit h h3, pr_b1_s, pr_op_S, pr_gdT (c_lc h), if_neg (by decide), if_neg (by decide), if_neg (by decide), if_neg (by decide), if_neg (by decide), if_neg (by decide), if_neg (by decide), if_neg (by decide), if_neg (by decide), if_neg (by decide), if_neg (by decide), if_neg (by decide), if_neg (by decide), if_pos (by decide), hv, pr_b1_s]
theorem c_seen0 {u : Int32} {q t : Nat} {f : pr_M} (h : UQ u q) (h3 : f 1 3 = 2) (h4 : f 1 4 = nI (t + 1)) (ht : t < 100) : F_X8_seen 0 u 0 f = some (f (q + 2 + 1) t) := by
  unfold F_X8_seen
  rw [Nat.zero_add, c_unit h h3, pr_b1_s, pr_op_S, pr_gdT (c_lc h), show F_X8_isOutside 0 0 6 f = some 0 from c_out (j := 0) (n := 6) f (by omega) (by decide) rfl, pr_b1_s, if_pos rfl, h4, if_neg (nI_ne0 (by omega) (by omega)), if_pos rfl, nI_pred, rc_offset (by omega), pr_b1_s, Nat.mod_eq_of_lt (by omega)]
theorem c_seen1 {u : Int32} {q t : Nat} {f : pr_M} (h : UQ u q) (h3 : f 1 3 = 2) (h4 : f 1 4 = nI (t + 1)) (ht : t < 100) : F_X8_seen 0 u 1 f = some (f (q + 2 + 2) t) := by
  unfold F_X8_seen
  rw [Nat.zero_add, c_unit h h3, pr_b1_s, pr_op_S, pr_gdT (c_lc h), show F_X8_isOutside 1 0 6 f = some 0 from c_out (j := 1) (n := 6) f (by omega) (by decide) rfl, pr_b1_s, if_pos rfl, h4, if_neg (nI_ne0 (by omega) (by omega)), if_neg (by decide), if_pos rfl, nI_pred, rc_skew (by omega), pr_b1_s, Nat.mod_eq_of_lt (by omega)]
theorem c_seen2 {u : Int32} {q t : Nat} {f : pr_M} (h : UQ u q) (h3 : f 1 3 = 2) (h4 : f 1 4 = nI (t + 1)) (ht : t < 100) : F_X8_seen 0 u 2 f = some (if f (q + 6) 4 = 0 then (-1000000006) else f (q + 6) 5) := by
  unfold F_X8_seen
  rw [Nat.zero_add, c_unit h h3, pr_b1_s, pr_op_S, pr_gdT (c_lc h), show F_X8_isOutside 2 0 6 f = some 0 from c_out (j := 2) (n := 6) f (by omega) (by decide) rfl, pr_b1_s, if_pos rfl, h4, if_neg (nI_ne0 (by omega) (by omega)), if_neg (by decide), if_neg (by decide), if_neg (by decide), pr_b1_s]
  by_cases c : f (q + 6) 4 = 0
  · rw [if_pos c, if_pos c]
  · rw [if_neg c, if_neg c]; rfl
theorem c_seen3 {u : Int32} {q t : Nat} {f : pr_M} (h : UQ u q) (h3 : f 1 3 = 2) (h4 : f 1 4 = nI (t + 1)) (ht : t < 100) : F_X8_seen 0 u 3 f = some (if f (q + 6) 4 = 0 then (-1000000006) else f (q + 6) 6) := by
  unfold F_X8_seen
  rw [Nat.zero_add, c_unit h h3, pr_b1_s, pr_op_S, pr_gdT (c_lc h), show F_X8_isOutside 3 0 6 f = some 0 from c_out (j := 3) (n := 6) f (by omega) (by decide) rfl, pr_b1_s, if_pos rfl, h4, if_neg (nI_ne0 (by omega) (by omega)), if_neg (by decide), if_neg (by decide), if_neg (by decide), pr_b1_s]
  by_cases c : f (q + 6) 4 = 0
  · rw [if_pos c, if_pos c]
  · rw [if_neg c, if_neg c]; rfl
theorem c_seen4 {u : Int32} {q t : Nat} {f : pr_M} (h : UQ u q) (h3 : f 1 3 = 2) (h4 : f 1 4 = nI (t + 1)) (ht : t < 100) : F_X8_seen 0 u 4 f = some (if f (q + 6) 4 = 0 then (-1000000006) else f (q + 6) 7) := by
  unfold F_X8_seen
  rw [Nat.zero_add, c_unit h h3, pr_b1_s, pr_op_S, pr_gdT (c_lc h), show F_X8_isOutside 4 0 6 f = some 0 from c_out (j := 4) (n := 6) f (by omega) (by decide) rfl, pr_b1_s, if_pos rfl, h4, if_neg (nI_ne0 (by omega) (by omega)), if_neg (by decide), if_neg (by decide), if_neg (by decide), pr_b1_s]
  by_cases c : f (q + 6) 4 = 0
  · rw [if_pos c, if_pos c]
  · rw [if_neg c, if_neg c]; rfl
theorem c_seen5 {u : Int32} {q t : Nat} {f : pr_M} (h : UQ u q) (h3 : f 1 3 = 2) (h4 : f 1 4 = nI (t + 1)) (ht : t < 100) : F_X8_seen 0 u 5 f = some (if f (q + 6) 7 = 0 then (-1000000006) else f (q + 6) 8) := by
  unfold F_X8_seen
  rw [Nat.zero_add, c_unit h h3, pr_b1_s, pr_op_S, pr_gdT (c_lc h), show F_X8_isOutside 5 0 6 f = some 0 from c_out (j := 5) (n := 6) f (by omega) (by decide) rfl, pr_b1_s, if_pos rfl, h4, if_neg (nI_ne0 (by omega) (by omega)), if_neg (by decide), if_neg (by decide), if_pos (by decide)]
  by_cases c : f (q + 6) 7 = 0
  · rw [if_pos c, if_pos c, pr_b1_s, if_pos rfl]
  · rw [if_neg c, if_neg c, pr_b1_s, if_neg (by decide)]; rfl
theorem c_seen6 {u : Int32} {q t : Nat} {f : pr_M} (h : UQ u q) (h3 : f 1 3 = 2) (h4 : f 1 4 = nI (t + 1)) (ht : t < 100) : F_X8_seen 0 u 6 f = some (if f (q + 6) 7 = 0 then (-1000000006) else f (q + 6) 9) := by
  unfold F_X8_seen
  rw [Nat.zero_add, c_unit h h3, pr_b1_s, pr_op_S, pr_gdT (c_lc h), show F_X8_isOutside 6 0 6 f = some 0 from c_out (j := 6) (n := 6) f (by omega) (by decide) rfl, pr_b1_s, if_pos rfl, h4, if_neg (nI_ne0 (by omega) (by omega)), if_neg (by decide), if_neg (by decide), if_pos (by decide)]
  by_cases c : f (q + 6) 7 = 0
  · rw [if_pos c, if_pos c, pr_b1_s, if_pos rfl]
  · rw [if_neg c, if_neg c, pr_b1_s, if_neg (by decide)]; rfl
theorem c_count2 (f : pr_M) : F_X8_count 0 2 f = some (f 1 5) := by
  unfold F_X8_count
  rw [if_neg (by decide), if_neg (by decide), if_pos rfl, Nat.zero_add]
theorem l_size (x : Int32) (f : pr_M) : F_L_size x f = some (rv_abs x) := by
  unfold F_L_size rv_abs
  by_cases h : 0 ≤ x
  · rw [if_pos h, if_pos h]
  · rw [if_neg h, if_neg h, Int32.zero_sub]
theorem l_limited (x m : Int32) (f : pr_M) : F_L_limited x m f = some (rl_lim x m) := by
  unfold F_L_limited rl_lim
  by_cases h : x ≤ m
  · rw [if_pos h, if_pos h]
    by_cases h2 : -m ≤ x
    · rw [if_pos h2, if_pos h2]
    · rw [if_neg h2, if_neg h2]
  · rw [if_neg h, if_neg h]
