/-! ===== what a unit prints: both sides ===== -/
def rv_dis (am le du : Int32) : Int32 := if le ≤ 0 then 0 else am * le / du
theorem ri_pos {x : Int32} (h : ¬ x ≤ 0) : 0 < x := Int32.not_le.mp h
theorem ri_pos0 {x : Int32} (h : 0 < x) : ¬ x = 0 := by
  rintro rfl
  exact absurd h (by decide)
theorem rc_dist {c : Nat} {a : pr_M} (h : 0 < a c 7 → 0 < a c 6) : F_X4_disturbance c a = some (rv_dis (a c 5) (a c 7) (a c 6)) := by
  unfold F_X4_disturbance rv_dis
  by_cases h1 : a c 7 ≤ 0
  · simp [h1]
  · have h2 := h (ri_pos h1)
    simp [h1, h2, pr_gd, ri_pos0 h2]
theorem rc_print {q t : Nat} {d : Int32} {a : pr_M} (ht : t < 2 ^ 31) (h : 0 < a (q + 2) 7 → 0 < a (q + 2) 6) : F_X7_printPiece q (nI t) d a = some ((), pr_up (pr_up a (q + 2 + 1) (t % 128) (a (q + 2) 2 + rv_dis (a (q + 2) 5) (a (q + 2) 7) (a (q + 2) 6) + (a (q + 1) 10 - a (q + 5) 0) * d / 100)) (q + 2 + 2) (t % 128) (a (q + 2) 4 + a (q + 2) 3)) := by
  have hm : t % 128 < 128 := Nat.mod_lt _ (by decide)
  simp only [F_X7_printPiece, F_X4_printPiece, rc_set_10, rc_dist h, pr_b1, pr_bd, pr_lt, ri_127 ht]
  rw [pr_gd_i hm (by decide), ri_cl (show t % 128 < 2 ^ 31 by omega)]
  simp [pr_up]
theorem pr_bd_s {α β : Type} {a : α} {g : pr_M} {k : α → pr_M → Option β} : pr_bd (some (a, g)) k = k a g := Eq.trans rfl rfl
theorem pr_b1_s {α β : Type} {a : α} {k : α → Option β} : pr_b1 (some a) k = k a := Eq.trans rfl rfl
/-- not by rfl: so that simp leaves a step that the kernel takes as it stands -/
theorem pr_lt_s {α β : Type} {v : α} {k : α → β} : pr_lt v k = k v := Eq.trans rfl rfl
theorem rm_fill {u : Nat} {b : pr_M} (hu : u < 5) : L_X9_print_175 0 (nI u) pr_fuel 2 b = some ((), pr_up (pr_up (pr_up (pr_up (pr_up b 1 (353 * u + 31) (-1000000006)) 1 (353 * u + 32) (-1000000006)) 1 (353 * u + 33) (-1000000006)) 1 (353 * u + 34) (-1000000006)) 1 (353 * u + 35) (-1000000006)) := by
  rw [show pr_fuel = 3994 + 1 + 1 + 1 + 1 + 1 + 1 from rfl]
  have e2 : (29 : Int32) + 2 = 31 := by decide
  have e3 : (29 : Int32) + (2 + 1) = 32 := by decide
  have e4 : (29 : Int32) + (2 + 1 + 1) = 33 := by decide
  have e5 : (29 : Int32) + (2 + 1 + 1 + 1) = 34 := by decide
  have e6 : (29 : Int32) + (2 + 1 + 1 + 1 + 1) = 35 := by decide
  have c2 : ¬ (6 : Int32) < 2 := by decide
  have c3 : ¬ (6 : Int32) < 2 + 1 := by decide
  have c4 : ¬ (6 : Int32) < 2 + 1 + 1 := by decide
  have c5 : ¬ (6 : Int32) < 2 + 1 + 1 + 1 := by decide
  have c6 : ¬ (6 : Int32) < 2 + 1 + 1 + 1 + 1 := by decide
  have c7 : (6 : Int32) < 2 + 1 + 1 + 1 + 1 + 1 := by decide
  rw [L_X9_print_175, if_neg c2, e2, rm_lay_31 _ _ hu, pr_bd_s]
  rw [L_X9_print_175, if_neg c3, e3, rm_lay_32 _ _ hu, pr_bd_s]
  rw [L_X9_print_175, if_neg c4, e4, rm_lay_33 _ _ hu, pr_bd_s]
  rw [L_X9_print_175, if_neg c5, e5, rm_lay_34 _ _ hu, pr_bd_s]
  rw [L_X9_print_175, if_neg c6, e6, rm_lay_35 _ _ hu, pr_bd_s]
  rw [L_X9_print_175, if_pos c7]
theorem rm_ring {t k N : Nat} (ht : t < 2 ^ 31) (hN : N + 128 ≤ 2 ^ 31) (hk : k = N) : (nI N) + (nI t - nI t / 128 * 128) = nI (k + t % 128) := by
  rw [ri_r128 ht, nI_add, hk]
theorem rm_print {u t : Nat} {b : pr_M} (hu : u < 5) (ht : t < 2 ^ 31) (hT : b 1 1765 = nI t) (h : 0 < b 1 (353 * u + 23) → 0 < b 1 (353 * u + 22)) :
    ∃ b', F_X9_print 0 (nI u) b = some ((), b') ∧ b' = pr_up (pr_up (pr_up (pr_up (pr_up (pr_up (pr_up (pr_up (pr_up b 1 (353 * u + (97 + t % 128)) (b 1 (353 * u + 11) + rv_dis (b 1 (353 * u + 21)) (b 1 (353 * u + 23)) (b 1 (353 * u + 22)) + (b 1 (353 * u + 10) - b 1 (353 * u + 14)) * b 1 (1778 + t % 128) / 100)) 1 (353 * u + (225 + t % 128)) (b 1 (353 * u + 13) + b 1 (353 * u + 12))) 1 (353 * u + 29) (b 1 (353 * u + 11) + rv_dis (b 1 (353 * u + 21)) (b 1 (353 * u + 23)) (b 1 (353 * u + 22)) + (b 1 (353 * u + 10) - b 1 (353 * u + 14)) * b 1 (1778 + t % 128) / 100)) 1 (353 * u + 30) (b 1 (353 * u + 13) + b 1 (353 * u + 12))) 1 (353 * u + 31) (-1000000006)) 1 (353 * u + 32) (-1000000006)) 1 (353 * u + 33) (-1000000006)) 1 (353 * u + 34) (-1000000006)) 1 (353 * u + 35) (-1000000006) := by
  have hm : t % 128 < 128 := Nat.mod_lt _ (by decide)
  have e1 : (1778 : Int32) + (nI t - nI t / 128 * 128) = nI (1778 + t % 128) := rm_ring ht (N := 1778) (by decide) rfl
  have e2 : (97 : Int32) + (nI t - nI t / 128 * 128) = nI (97 + t % 128) := rm_ring ht (N := 97) (by decide) rfl
  have e3 : (225 : Int32) + (nI t - nI t / 128 * 128) = nI (225 + t % 128) := rm_ring ht (N := 225) (by decide) rfl
  have hv : (pr_b1 (α := Int32) (if b 1 (353 * u + 23) ≤ 0 then some 0 else pr_gd (¬ b 1 (353 * u + 22) = 0) (some (b 1 (353 * u + 21) * b 1 (353 * u + 23) / b 1 (353 * u + 22)))) (fun x => some x)) = some (rv_dis (b 1 (353 * u + 21)) (b 1 (353 * u + 23)) (b 1 (353 * u + 22))) := by
    unfold rv_dis
    by_cases h1 : b 1 (353 * u + 23) ≤ 0
    · simp [h1, pr_b1]
    · simp [h1, pr_b1, pr_gd, ri_pos0 (h (ri_pos h1))]
  have hv2 : (if b 1 (353 * u + 23) ≤ 0 then some (0 : Int32) else pr_gd (¬ b 1 (353 * u + 22) = 0) (some (b 1 (353 * u + 21) * b 1 (353 * u + 23) / b 1 (353 * u + 22)))) = some (rv_dis (b 1 (353 * u + 21)) (b 1 (353 * u + 23)) (b 1 (353 * u + 22))) := by
    unfold rv_dis
    by_cases h1 : b 1 (353 * u + 23) ≤ 0
    · simp [h1]
    · simp [h1, pr_gd, ri_pos0 (h (ri_pos h1))]
  refine ⟨_, ?_, rfl⟩
  unfold F_X9_print
  simp only [Nat.zero_add, ri_cl_1765, hT, e1]
  rw [pr_gd_i (show 1778 + t % 128 < 1906 by omega) (by decide), ri_cl (show 1778 + t % 128 < 2 ^ 31 by omega)]
  simp only [rm_of_23 _ hu, rm_of_21 _ hu, rm_of_22 _ hu, pr_b1, hv2, rm_of_11 _ hu, rm_of_10 _ hu, rm_of_14 _ hu, rm_of_13 _ hu, rm_of_12 _ hu, e2, rm_lay (w := 97 + t % 128) _ _ hu (by omega), pr_bd]
  have hT2 : ∀ v, (pr_up b 1 (353 * u + (97 + t % 128)) v) 1 1765 = nI t := fun v => by
    have : ¬ (1765 = 353 * u + (97 + t % 128)) := by omega
    simp [pr_up, this, hT]
  simp only [hT2, e3, rm_lay (w := 225 + t % 128) _ _ hu (by omega), rm_lay_29 _ _ hu, rm_lay_30 _ _ hu, rm_fill hu]
