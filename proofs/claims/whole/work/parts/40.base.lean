/-! ===== plain facts: numbers, places of the flat row, the small methods ===== -/
theorem ri_lit (n : Nat) : (OfNat.ofNat n : Int32) = nI n := rfl
theorem ri_cl {n : Nat} (h : n < 2 ^ 31) : Int32.toNatClampNeg (nI n) = n := nI_clamp h
theorem ri_abs (x : Int32) : (if 0 ≤ x then x else 0 - x) = (if 0 ≤ x then x else -x) := by
  by_cases h : 0 ≤ x
  · rw [if_pos h, if_pos h]
  · rw [if_neg h, if_neg h, Int32.zero_sub]
theorem ri_gd {n N : Nat} (h : n < N) (hN : N < 2 ^ 31) : ¬ (nI n < 0 ∨ N ≤ Int32.toNatClampNeg (nI n)) := by
  rw [nI_clamp (Nat.lt_trans h hN)]
  rintro (a | a)
  · exact nI_pos (Nat.lt_trans h hN) a
  · omega
theorem pr_gd_i {β : Type} {n N : Nat} {x : Option β} (h : n < N) (hN : N < 2 ^ 31) : pr_gd (¬ (nI n < 0 ∨ N ≤ Int32.toNatClampNeg (nI n))) x = x := if_pos (ri_gd h hN)
theorem ri_mask {t k : Nat} (ht : t < 2 ^ 31) {m : Int32} (hm : m.toBitVec.toNat = 2 ^ k - 1) : nI t &&& m = nI (t % 2 ^ k) := pk_andN (by omega) k hm
theorem ri_127 {t : Nat} (ht : t < 2 ^ 31) : nI t &&& 127 = nI (t % 128) := ri_mask (k := 7) ht (by decide)
theorem ri_63 {t : Nat} (ht : t < 2 ^ 31) : nI t &&& 63 = nI (t % 64) := ri_mask (k := 6) ht (by decide)
theorem ri_r128 {t : Nat} (ht : t < 2 ^ 31) : nI t - nI t / 128 * 128 = nI (t % 128) := pk_rem (d := 128) ht (by decide) (by decide)
theorem ri_r60 {t : Nat} (ht : t < 2 ^ 31) : nI t - nI t / 60 * 60 = nI (t % 60) := pk_rem (d := 60) ht (by decide) (by decide)
theorem ri_add (a : Nat) (b : Nat) : (OfNat.ofNat a : Int32) + nI b = nI (a + b) := nI_add a b
/-- a place of the flat row -/
theorem rm_of {u w : Nat} (b : pr_M) (hu : u < 5) (hw : w < 353) : F_X9_of 0 (nI u) (nI w) b = some (b 1 (353 * u + w)) := by
  have e : (353 : Int32) * nI u + nI w = nI (353 * u + w) := by rw [show (353 : Int32) = nI 353 from rfl, pk_mul, nI_add]
  have hl : 353 * u + w < 1906 := by omega
  simp only [F_X9_of, F_X9_place, pr_b1, e]
  rw [pr_gd_i hl (by decide), ri_cl (Nat.lt_trans hl (by decide))]
theorem rm_lay {u w : Nat} (b : pr_M) (v : Int32) (hu : u < 5) (hw : w < 353) : F_X9_lay 0 (nI u) (nI w) v b = some ((), pr_up b 1 (353 * u + w) v) := by
  have e : (353 : Int32) * nI u + nI w = nI (353 * u + w) := by rw [show (353 : Int32) = nI 353 from rfl, pk_mul, nI_add]
  have hl : 353 * u + w < 1906 := by omega
  simp only [F_X9_lay, F_X9_place, pr_b1, pr_lt, e]
  rw [pr_gd_i hl (by decide), ri_cl (Nat.lt_trans hl (by decide))]
theorem rm_size (x : Int32) (b : pr_M) : F_X9_size x b = some (if 0 ≤ x then x else 0 - x) := by
  rw [ri_abs]
  unfold F_X9_size
  by_cases h : 0 ≤ x <;> simp [h]
def rl_lim (x m : Int32) : Int32 := if x ≤ m then (if -m ≤ x then x else -m) else m
theorem rm_limited (x m : Int32) (b : pr_M) : F_X9_limited x m b = some (rl_lim x m) := by
  unfold F_X9_limited rl_lim
  by_cases h : x ≤ m
  · by_cases h2 : -m ≤ x <;> simp [h, h2]
  · simp [h]
theorem rc_limited (x m : Int32) (b : pr_M) : F_X8_limited x m b = some (rl_lim x m) := by
  unfold F_X8_limited rl_lim
  by_cases h : x ≤ m
  · by_cases h2 : -m ≤ x <;> simp [h, h2]
  · simp [h]
theorem rc_lessOne (x : Int32) (b : pr_M) : F_X8_lessOne x b = some (if x ≤ 0 then 0 else x - 1) := by
  unfold F_X8_lessOne
  by_cases h : x ≤ 0 <;> simp [h]
theorem rc_setting {c j : Nat} (a : pr_M) (hj : j < 11) : F_X7_setting c (nI j) a = some (a (c + 1) j) := by
  have h1 : ¬ nI j < 0 := nI_pos (by omega)
  have h2 : ¬ (11 : Int32) ≤ nI j := nI_ge (a := j) (b := 11) hj (by decide)
  simp only [F_X7_setting, if_neg h1, if_neg h2]
  rw [pr_gd_i hj (by decide), ri_cl (show j < 2 ^ 31 by omega)]
theorem rc_change {c j : Nat} (a : pr_M) (v : Int32) (hj : j < 11) : F_X7_changeSetting c (nI j) v a = some ((), pr_up a (c + 1) j v) := by
  have h1 : ¬ nI j < 0 := nI_pos (by omega)
  have h2 : ¬ (11 : Int32) ≤ nI j := nI_ge (a := j) (b := 11) hj (by decide)
  simp only [F_X7_changeSetting, if_neg h1, if_neg h2, pr_lt]
  rw [pr_gd_i hj (by decide), ri_cl (show j < 2 ^ 31 by omega)]
theorem rm_tally (j : Nat) (hj : j < 6) (v : Int32) (b : pr_M) : F_X9_tally 0 (nI j) v b = some ((), pr_up b 1 (1772 + j) (b 1 (1772 + j) + (if v = 0 then 0 else 1))) := by
  have e : (1772 : Int32) + nI j = nI (1772 + j) := nI_add 1772 j
  have hl : 1772 + j < 1906 := by omega
  unfold F_X9_tally
  simp only [e]
  rw [pr_gd_i hl (by decide), ri_cl (Nat.lt_trans hl (by decide))]
  by_cases h : v = 0 <;> simp only [pr_b1, pr_lt, h, if_true, if_false, Nat.zero_add]
theorem rc_outside (x l h : Int32) (a : pr_M) : F_X8_isOutside x l h a = some (if x < l then 1 else if x ≤ h then 0 else 1) := by
  unfold F_X8_isOutside
  by_cases h1 : x < l
  · simp [h1]
  · by_cases h2 : x ≤ h <;> simp [h1, h2]
theorem rm_in (x l h : Int32) (b : pr_M) : F_X9_in x l h b = some (if x < l then 0 else if h < x then 0 else 1) := by
  unfold F_X9_in
  by_cases h1 : x < l
  · simp [h1]
  · by_cases h2 : h < x <;> simp [h1, h2]
theorem rm_of_0 {u : Nat} (b : pr_M) (hu : u < 5) : F_X9_of 0 (nI u) 0 b = some (b 1 (353 * u + 0)) := rm_of (w := 0) b hu (by decide)
theorem rm_of_1 {u : Nat} (b : pr_M) (hu : u < 5) : F_X9_of 0 (nI u) 1 b = some (b 1 (353 * u + 1)) := rm_of (w := 1) b hu (by decide)
theorem rm_of_2 {u : Nat} (b : pr_M) (hu : u < 5) : F_X9_of 0 (nI u) 2 b = some (b 1 (353 * u + 2)) := rm_of (w := 2) b hu (by decide)
theorem rm_of_3 {u : Nat} (b : pr_M) (hu : u < 5) : F_X9_of 0 (nI u) 3 b = some (b 1 (353 * u + 3)) := rm_of (w := 3) b hu (by decide)
theorem rm_of_4 {u : Nat} (b : pr_M) (hu : u < 5) : F_X9_of 0 (nI u) 4 b = some (b 1 (353 * u + 4)) := rm_of (w := 4) b hu (by decide)
theorem rm_of_5 {u : Nat} (b : pr_M) (hu : u < 5) : F_X9_of 0 (nI u) 5 b = some (b 1 (353 * u + 5)) := rm_of (w := 5) b hu (by decide)
theorem rm_of_6 {u : Nat} (b : pr_M) (hu : u < 5) : F_X9_of 0 (nI u) 6 b = some (b 1 (353 * u + 6)) := rm_of (w := 6) b hu (by decide)
theorem rm_of_7 {u : Nat} (b : pr_M) (hu : u < 5) : F_X9_of 0 (nI u) 7 b = some (b 1 (353 * u + 7)) := rm_of (w := 7) b hu (by decide)
theorem rm_of_8 {u : Nat} (b : pr_M) (hu : u < 5) : F_X9_of 0 (nI u) 8 b = some (b 1 (353 * u + 8)) := rm_of (w := 8) b hu (by decide)
theorem rm_of_9 {u : Nat} (b : pr_M) (hu : u < 5) : F_X9_of 0 (nI u) 9 b = some (b 1 (353 * u + 9)) := rm_of (w := 9) b hu (by decide)
theorem rm_of_10 {u : Nat} (b : pr_M) (hu : u < 5) : F_X9_of 0 (nI u) 10 b = some (b 1 (353 * u + 10)) := rm_of (w := 10) b hu (by decide)
theorem rm_of_11 {u : Nat} (b : pr_M) (hu : u < 5) : F_X9_of 0 (nI u) 11 b = some (b 1 (353 * u + 11)) := rm_of (w := 11) b hu (by decide)
theorem rm_of_12 {u : Nat} (b : pr_M) (hu : u < 5) : F_X9_of 0 (nI u) 12 b = some (b 1 (353 * u + 12)) := rm_of (w := 12) b hu (by decide)
theorem rm_of_13 {u : Nat} (b : pr_M) (hu : u < 5) : F_X9_of 0 (nI u) 13 b = some (b 1 (353 * u + 13)) := rm_of (w := 13) b hu (by decide)
theorem rm_of_14 {u : Nat} (b : pr_M) (hu : u < 5) : F_X9_of 0 (nI u) 14 b = some (b 1 (353 * u + 14)) := rm_of (w := 14) b hu (by decide)
theorem rm_of_15 {u : Nat} (b : pr_M) (hu : u < 5) : F_X9_of 0 (nI u) 15 b = some (b 1 (353 * u + 15)) := rm_of (w := 15) b hu (by decide)
theorem rm_of_16 {u : Nat} (b : pr_M) (hu : u < 5) : F_X9_of 0 (nI u) 16 b = some (b 1 (353 * u + 16)) := rm_of (w := 16) b hu (by decide)
theorem rm_of_17 {u : Nat} (b : pr_M) (hu : u < 5) : F_X9_of 0 (nI u) 17 b = some (b 1 (353 * u + 17)) := rm_of (w := 17) b hu (by decide)
theorem rm_of_18 {u : Nat} (b : pr_M) (hu : u < 5) : F_X9_of 0 (nI u) 18 b = some (b 1 (353 * u + 18)) := rm_of (w := 18) b hu (by decide)
theorem rm_of_19 {u : Nat} (b : pr_M) (hu : u < 5) : F_X9_of 0 (nI u) 19 b = some (b 1 (353 * u + 19)) := rm_of (w := 19) b hu (by decide)
theorem rm_of_20 {u : Nat} (b : pr_M) (hu : u < 5) : F_X9_of 0 (nI u) 20 b = some (b 1 (353 * u + 20)) := rm_of (w := 20) b hu (by decide)
theorem rm_of_21 {u : Nat} (b : pr_M) (hu : u < 5) : F_X9_of 0 (nI u) 21 b = some (b 1 (353 * u + 21)) := rm_of (w := 21) b hu (by decide)
theorem rm_of_22 {u : Nat} (b : pr_M) (hu : u < 5) : F_X9_of 0 (nI u) 22 b = some (b 1 (353 * u + 22)) := rm_of (w := 22) b hu (by decide)
theorem rm_of_23 {u : Nat} (b : pr_M) (hu : u < 5) : F_X9_of 0 (nI u) 23 b = some (b 1 (353 * u + 23)) := rm_of (w := 23) b hu (by decide)
theorem rm_of_24 {u : Nat} (b : pr_M) (hu : u < 5) : F_X9_of 0 (nI u) 24 b = some (b 1 (353 * u + 24)) := rm_of (w := 24) b hu (by decide)
theorem rm_of_25 {u : Nat} (b : pr_M) (hu : u < 5) : F_X9_of 0 (nI u) 25 b = some (b 1 (353 * u + 25)) := rm_of (w := 25) b hu (by decide)
theorem rm_of_26 {u : Nat} (b : pr_M) (hu : u < 5) : F_X9_of 0 (nI u) 26 b = some (b 1 (353 * u + 26)) := rm_of (w := 26) b hu (by decide)
theorem rm_of_27 {u : Nat} (b : pr_M) (hu : u < 5) : F_X9_of 0 (nI u) 27 b = some (b 1 (353 * u + 27)) := rm_of (w := 27) b hu (by decide)
theorem rm_of_28 {u : Nat} (b : pr_M) (hu : u < 5) : F_X9_of 0 (nI u) 28 b = some (b 1 (353 * u + 28)) := rm_of (w := 28) b hu (by decide)
theorem rm_of_29 {u : Nat} (b : pr_M) (hu : u < 5) : F_X9_of 0 (nI u) 29 b = some (b 1 (353 * u + 29)) := rm_of (w := 29) b hu (by decide)
theorem rm_of_30 {u : Nat} (b : pr_M) (hu : u < 5) : F_X9_of 0 (nI u) 30 b = some (b 1 (353 * u + 30)) := rm_of (w := 30) b hu (by decide)
theorem rm_of_31 {u : Nat} (b : pr_M) (hu : u < 5) : F_X9_of 0 (nI u) 31 b = some (b 1 (353 * u + 31)) := rm_of (w := 31) b hu (by decide)
theorem rm_of_32 {u : Nat} (b : pr_M) (hu : u < 5) : F_X9_of 0 (nI u) 32 b = some (b 1 (353 * u + 32)) := rm_of (w := 32) b hu (by decide)
theorem rm_of_33 {u : Nat} (b : pr_M) (hu : u < 5) : F_X9_of 0 (nI u) 33 b = some (b 1 (353 * u + 33)) := rm_of (w := 33) b hu (by decide)
theorem rm_of_34 {u : Nat} (b : pr_M) (hu : u < 5) : F_X9_of 0 (nI u) 34 b = some (b 1 (353 * u + 34)) := rm_of (w := 34) b hu (by decide)
theorem rm_of_35 {u : Nat} (b : pr_M) (hu : u < 5) : F_X9_of 0 (nI u) 35 b = some (b 1 (353 * u + 35)) := rm_of (w := 35) b hu (by decide)
theorem rm_of_36 {u : Nat} (b : pr_M) (hu : u < 5) : F_X9_of 0 (nI u) 36 b = some (b 1 (353 * u + 36)) := rm_of (w := 36) b hu (by decide)
theorem rm_lay_11 {u : Nat} (b : pr_M) (v : Int32) (hu : u < 5) : F_X9_lay 0 (nI u) 11 v b = some ((), pr_up b 1 (353 * u + 11) v) := rm_lay (w := 11) b v hu (by decide)
theorem rm_lay_12 {u : Nat} (b : pr_M) (v : Int32) (hu : u < 5) : F_X9_lay 0 (nI u) 12 v b = some ((), pr_up b 1 (353 * u + 12) v) := rm_lay (w := 12) b v hu (by decide)
theorem rm_lay_13 {u : Nat} (b : pr_M) (v : Int32) (hu : u < 5) : F_X9_lay 0 (nI u) 13 v b = some ((), pr_up b 1 (353 * u + 13) v) := rm_lay (w := 13) b v hu (by decide)
theorem rm_lay_14 {u : Nat} (b : pr_M) (v : Int32) (hu : u < 5) : F_X9_lay 0 (nI u) 14 v b = some ((), pr_up b 1 (353 * u + 14) v) := rm_lay (w := 14) b v hu (by decide)
theorem rm_lay_15 {u : Nat} (b : pr_M) (v : Int32) (hu : u < 5) : F_X9_lay 0 (nI u) 15 v b = some ((), pr_up b 1 (353 * u + 15) v) := rm_lay (w := 15) b v hu (by decide)
theorem rm_lay_16 {u : Nat} (b : pr_M) (v : Int32) (hu : u < 5) : F_X9_lay 0 (nI u) 16 v b = some ((), pr_up b 1 (353 * u + 16) v) := rm_lay (w := 16) b v hu (by decide)
theorem rm_lay_17 {u : Nat} (b : pr_M) (v : Int32) (hu : u < 5) : F_X9_lay 0 (nI u) 17 v b = some ((), pr_up b 1 (353 * u + 17) v) := rm_lay (w := 17) b v hu (by decide)
theorem rm_lay_18 {u : Nat} (b : pr_M) (v : Int32) (hu : u < 5) : F_X9_lay 0 (nI u) 18 v b = some ((), pr_up b 1 (353 * u + 18) v) := rm_lay (w := 18) b v hu (by decide)
theorem rm_lay_19 {u : Nat} (b : pr_M) (v : Int32) (hu : u < 5) : F_X9_lay 0 (nI u) 19 v b = some ((), pr_up b 1 (353 * u + 19) v) := rm_lay (w := 19) b v hu (by decide)
theorem rm_lay_20 {u : Nat} (b : pr_M) (v : Int32) (hu : u < 5) : F_X9_lay 0 (nI u) 20 v b = some ((), pr_up b 1 (353 * u + 20) v) := rm_lay (w := 20) b v hu (by decide)
theorem rm_lay_21 {u : Nat} (b : pr_M) (v : Int32) (hu : u < 5) : F_X9_lay 0 (nI u) 21 v b = some ((), pr_up b 1 (353 * u + 21) v) := rm_lay (w := 21) b v hu (by decide)
theorem rm_lay_22 {u : Nat} (b : pr_M) (v : Int32) (hu : u < 5) : F_X9_lay 0 (nI u) 22 v b = some ((), pr_up b 1 (353 * u + 22) v) := rm_lay (w := 22) b v hu (by decide)
theorem rm_lay_23 {u : Nat} (b : pr_M) (v : Int32) (hu : u < 5) : F_X9_lay 0 (nI u) 23 v b = some ((), pr_up b 1 (353 * u + 23) v) := rm_lay (w := 23) b v hu (by decide)
theorem rm_lay_24 {u : Nat} (b : pr_M) (v : Int32) (hu : u < 5) : F_X9_lay 0 (nI u) 24 v b = some ((), pr_up b 1 (353 * u + 24) v) := rm_lay (w := 24) b v hu (by decide)
theorem rm_lay_25 {u : Nat} (b : pr_M) (v : Int32) (hu : u < 5) : F_X9_lay 0 (nI u) 25 v b = some ((), pr_up b 1 (353 * u + 25) v) := rm_lay (w := 25) b v hu (by decide)
theorem rm_lay_26 {u : Nat} (b : pr_M) (v : Int32) (hu : u < 5) : F_X9_lay 0 (nI u) 26 v b = some ((), pr_up b 1 (353 * u + 26) v) := rm_lay (w := 26) b v hu (by decide)
theorem rm_lay_27 {u : Nat} (b : pr_M) (v : Int32) (hu : u < 5) : F_X9_lay 0 (nI u) 27 v b = some ((), pr_up b 1 (353 * u + 27) v) := rm_lay (w := 27) b v hu (by decide)
theorem rm_lay_28 {u : Nat} (b : pr_M) (v : Int32) (hu : u < 5) : F_X9_lay 0 (nI u) 28 v b = some ((), pr_up b 1 (353 * u + 28) v) := rm_lay (w := 28) b v hu (by decide)
theorem rm_lay_29 {u : Nat} (b : pr_M) (v : Int32) (hu : u < 5) : F_X9_lay 0 (nI u) 29 v b = some ((), pr_up b 1 (353 * u + 29) v) := rm_lay (w := 29) b v hu (by decide)
theorem rm_lay_30 {u : Nat} (b : pr_M) (v : Int32) (hu : u < 5) : F_X9_lay 0 (nI u) 30 v b = some ((), pr_up b 1 (353 * u + 30) v) := rm_lay (w := 30) b v hu (by decide)
theorem rm_lay_31 {u : Nat} (b : pr_M) (v : Int32) (hu : u < 5) : F_X9_lay 0 (nI u) 31 v b = some ((), pr_up b 1 (353 * u + 31) v) := rm_lay (w := 31) b v hu (by decide)
theorem rm_lay_32 {u : Nat} (b : pr_M) (v : Int32) (hu : u < 5) : F_X9_lay 0 (nI u) 32 v b = some ((), pr_up b 1 (353 * u + 32) v) := rm_lay (w := 32) b v hu (by decide)
theorem rm_lay_33 {u : Nat} (b : pr_M) (v : Int32) (hu : u < 5) : F_X9_lay 0 (nI u) 33 v b = some ((), pr_up b 1 (353 * u + 33) v) := rm_lay (w := 33) b v hu (by decide)
theorem rm_lay_34 {u : Nat} (b : pr_M) (v : Int32) (hu : u < 5) : F_X9_lay 0 (nI u) 34 v b = some ((), pr_up b 1 (353 * u + 34) v) := rm_lay (w := 34) b v hu (by decide)
theorem rm_lay_35 {u : Nat} (b : pr_M) (v : Int32) (hu : u < 5) : F_X9_lay 0 (nI u) 35 v b = some ((), pr_up b 1 (353 * u + 35) v) := rm_lay (w := 35) b v hu (by decide)
theorem rm_lay_36 {u : Nat} (b : pr_M) (v : Int32) (hu : u < 5) : F_X9_lay 0 (nI u) 36 v b = some ((), pr_up b 1 (353 * u + 36) v) := rm_lay (w := 36) b v hu (by decide)
theorem rc_set_0 (c : Nat) (a : pr_M) : F_X7_setting c 0 a = some (a (c + 1) 0) := rc_setting (j := 0) a (by decide)
theorem rc_set_1 (c : Nat) (a : pr_M) : F_X7_setting c 1 a = some (a (c + 1) 1) := rc_setting (j := 1) a (by decide)
theorem rc_set_2 (c : Nat) (a : pr_M) : F_X7_setting c 2 a = some (a (c + 1) 2) := rc_setting (j := 2) a (by decide)
theorem rc_set_3 (c : Nat) (a : pr_M) : F_X7_setting c 3 a = some (a (c + 1) 3) := rc_setting (j := 3) a (by decide)
theorem rc_set_4 (c : Nat) (a : pr_M) : F_X7_setting c 4 a = some (a (c + 1) 4) := rc_setting (j := 4) a (by decide)
theorem rc_set_5 (c : Nat) (a : pr_M) : F_X7_setting c 5 a = some (a (c + 1) 5) := rc_setting (j := 5) a (by decide)
theorem rc_set_6 (c : Nat) (a : pr_M) : F_X7_setting c 6 a = some (a (c + 1) 6) := rc_setting (j := 6) a (by decide)
theorem rc_set_7 (c : Nat) (a : pr_M) : F_X7_setting c 7 a = some (a (c + 1) 7) := rc_setting (j := 7) a (by decide)
theorem rc_set_8 (c : Nat) (a : pr_M) : F_X7_setting c 8 a = some (a (c + 1) 8) := rc_setting (j := 8) a (by decide)
theorem rc_set_9 (c : Nat) (a : pr_M) : F_X7_setting c 9 a = some (a (c + 1) 9) := rc_setting (j := 9) a (by decide)
theorem rc_set_10 (c : Nat) (a : pr_M) : F_X7_setting c 10 a = some (a (c + 1) 10) := rc_setting (j := 10) a (by decide)
theorem rm_tally_0 (v : Int32) (b : pr_M) : F_X9_tally 0 0 v b = some ((), pr_up b 1 1772 (b 1 1772 + (if v = 0 then 0 else 1))) := rm_tally 0 (by decide) v b
theorem rm_tally_1 (v : Int32) (b : pr_M) : F_X9_tally 0 1 v b = some ((), pr_up b 1 1773 (b 1 1773 + (if v = 0 then 0 else 1))) := rm_tally 1 (by decide) v b
theorem rm_tally_2 (v : Int32) (b : pr_M) : F_X9_tally 0 2 v b = some ((), pr_up b 1 1774 (b 1 1774 + (if v = 0 then 0 else 1))) := rm_tally 2 (by decide) v b
theorem rm_tally_3 (v : Int32) (b : pr_M) : F_X9_tally 0 3 v b = some ((), pr_up b 1 1775 (b 1 1775 + (if v = 0 then 0 else 1))) := rm_tally 3 (by decide) v b
theorem rm_tally_4 (v : Int32) (b : pr_M) : F_X9_tally 0 4 v b = some ((), pr_up b 1 1776 (b 1 1776 + (if v = 0 then 0 else 1))) := rm_tally 4 (by decide) v b
theorem rm_tally_5 (v : Int32) (b : pr_M) : F_X9_tally 0 5 v b = some ((), pr_up b 1 1777 (b 1 1777 + (if v = 0 then 0 else 1))) := rm_tally 5 (by decide) v b
theorem ri_cl_0 : Int32.toNatClampNeg 0 = 0 := by decide +kernel
theorem ri_cl_1 : Int32.toNatClampNeg 1 = 1 := by decide +kernel
theorem ri_cl_2 : Int32.toNatClampNeg 2 = 2 := by decide +kernel
theorem ri_cl_3 : Int32.toNatClampNeg 3 = 3 := by decide +kernel
theorem ri_cl_4 : Int32.toNatClampNeg 4 = 4 := by decide +kernel
theorem ri_cl_5 : Int32.toNatClampNeg 5 = 5 := by decide +kernel
theorem ri_cl_1765 : Int32.toNatClampNeg 1765 = 1765 := by decide +kernel
theorem ri_cl_1766 : Int32.toNatClampNeg 1766 = 1766 := by decide +kernel
theorem ri_cl_1767 : Int32.toNatClampNeg 1767 = 1767 := by decide +kernel
theorem ri_cl_1768 : Int32.toNatClampNeg 1768 = 1768 := by decide +kernel
theorem ri_cl_1769 : Int32.toNatClampNeg 1769 = 1769 := by decide +kernel
theorem ri_cl_1770 : Int32.toNatClampNeg 1770 = 1770 := by decide +kernel
theorem ri_cl_1771 : Int32.toNatClampNeg 1771 = 1771 := by decide +kernel
theorem ri_cl_128 : Int32.toNatClampNeg 128 = 128 := by decide +kernel
theorem ri_cl_6 : Int32.toNatClampNeg 6 = 6 := by decide +kernel
theorem ri_cl_64 : Int32.toNatClampNeg 64 = 64 := by decide +kernel
