/-! ===== a mark is recognized: both sides ===== -/
def rv_abs (x : Int32) : Int32 := if 0 ≤ x then x else 0 - x
def rv_win (mi ms rd w : Int32) : Int32 := if ms ≤ mi ∨ ¬ rd ≤ 0 then 4 * w else w
def rv_rec (hid fl dT dF W : Int32) : Int32 :=
  if hid = 0 ∧ ¬ W < dT then (if ¬ fl ≤ 0 ∧ ¬ W < dF ∧ dF < dT then 2 else 1) else if ¬ fl ≤ 0 ∧ ¬ W < dF then 2 else 0
theorem rv_rec_3 (hid fl dT dF W : Int32) : rv_rec hid fl dT dF W = 0 ∨ rv_rec hid fl dT dF W = 1 ∨ rv_rec hid fl dT dF W = 2 := by
  unfold rv_rec
  by_cases h1 : hid = 0 ∧ ¬ W < dT
  · rw [if_pos h1]
    by_cases h2 : ¬ fl ≤ 0 ∧ ¬ W < dF ∧ dF < dT
    · rw [if_pos h2]; exact Or.inr (Or.inr rfl)
    · rw [if_neg h2]; exact Or.inr (Or.inl rfl)
  · rw [if_neg h1]
    by_cases h2 : ¬ fl ≤ 0 ∧ ¬ W < dF
    · rw [if_pos h2]; exact Or.inr (Or.inr rfl)
    · rw [if_neg h2]; exact Or.inl rfl
theorem rc_window (q : Nat) (a : pr_M) : F_X7_window q a = some (rv_win (a (q + 5) 3) (a (q + 1) 3) (a (q + 5) 4) (a (q + 1) 2)) := by
  unfold F_X7_window rv_win
  simp only [rc_set_3, rc_set_2, pr_b1_s]
  by_cases h1 : a (q + 1) 3 ≤ a (q + 5) 3
  · simp [h1, pr_b1_s]
  · by_cases h2 : a (q + 5) 4 ≤ 0
    · simp [h1, h2, pr_b1_s]
    · simp [h1, h2, pr_b1_s]
def rc_mark (c : Nat) (s : Int32) (R : Int32) (a : pr_M) : pr_M :=
  if R = 0 then a else if R = 1 then pr_up (pr_up (pr_up a c 7 1) c 8 (a c 5)) c 9 (a c 6) else pr_up (pr_up (pr_up a c 7 2) c 8 (a c 2)) c 9 s
theorem rc_near (c : Nat) (e s w : Int32) (a : pr_M) : F_X5_recognizeNear c e s w a = some ((), rc_mark c s (rv_rec (a c 1) (a c 3) (rv_abs (a c 5 - e)) (rv_abs (a c 2 - e)) w) a) := by
  unfold F_X5_recognizeNear rv_rec rc_mark rv_abs
  have t1 : ¬ (1 : Int32) = 0 := by decide
  have t2 : ¬ (2 : Int32) = 0 := by decide
  have t3 : ¬ (2 : Int32) = 1 := by decide
  generalize (if 0 ≤ a c 5 - e then a c 5 - e else 0 - (a c 5 - e)) = dT
  generalize (if 0 ≤ a c 2 - e then a c 2 - e else 0 - (a c 2 - e)) = dF
  by_cases h1 : a c 1 = 0 <;> by_cases h2 : w < dT <;> by_cases h3 : a c 3 ≤ 0 <;> by_cases h4 : w < dF <;> by_cases h5 : dF < dT <;>
    simp (disch := omega) [h1, h2, h3, h4, h5, pr_b1_s, pr_lt, rd_n]
theorem rc_recog {q : Nat} {a : pr_M} (h7 : a (q + 6) 7 = 0) {R : Int32} (hR : R = rv_rec (a (q + 6) 1) (a (q + 6) 3) (rv_abs (a (q + 6) 5 - a (q + 5) 5)) (rv_abs (a (q + 6) 2 - a (q + 5) 5)) (rv_win (a (q + 5) 3) (a (q + 1) 3) (a (q + 5) 4) (a (q + 1) 2))) :
    F_X7_recognizeMark q a = some (if R = 0 then 0 else 1, pr_up (rc_mark (q + 6) (a (q + 5) 6) R a) (q + 5) 3 (if R = 0 then a (q + 5) 3 + 1 else 0)) := by
  have t1 : ¬ (1 : Int32) = 0 := by decide
  have t2 : ¬ (2 : Int32) = 0 := by decide
  have t3 : ¬ (2 : Int32) = 1 := by decide
  unfold F_X7_recognizeMark
  rw [rc_window, pr_b1_s, rc_near, pr_bd_s, ← hR]
  rcases (show R = 0 ∨ R = 1 ∨ R = 2 by rw [hR]; exact rv_rec_3 _ _ _ _ _) with e | e | e <;> rw [e]
  · simp (disch := omega) [rc_mark, h7, pr_b1_s, pr_lt, pr_gd]
  · simp (disch := omega) [rc_mark, rd_n, rd_e, pr_b1_s, pr_lt, pr_gd]
  · simp (disch := omega) [rc_mark, rd_n, rd_e, pr_b1_s, pr_lt, pr_gd]
theorem rm_recd {u : Nat} {b : pr_M} (hu : u < 5) : F_X9_recognized 0 (nI u) b = some (rv_rec (b 1 (353 * u + 24)) (b 1 (353 * u + 26)) (rv_abs (b 1 (353 * u + 31) - b 1 (353 * u + 19))) (rv_abs (b 1 (353 * u + 25) - b 1 (353 * u + 19))) (rv_win (b 1 (353 * u + 17)) (b 1 (353 * u + 3)) (b 1 (353 * u + 18)) (b 1 (353 * u + 2)))) := by
  unfold F_X9_recognized rv_win rv_rec
  simp only [rm_of_17 _ hu, rm_of_3 _ hu, rm_of_18 _ hu, rm_of_2 _ hu, rm_of_31 _ hu, rm_of_19 _ hu, rm_of_25 _ hu, rm_of_24 _ hu, rm_of_26 _ hu, pr_b1_s, rm_size]
  unfold rv_abs
  generalize (if 0 ≤ b 1 (353 * u + 31) - b 1 (353 * u + 19) then b 1 (353 * u + 31) - b 1 (353 * u + 19) else 0 - (b 1 (353 * u + 31) - b 1 (353 * u + 19))) = dT
  generalize (if 0 ≤ b 1 (353 * u + 25) - b 1 (353 * u + 19) then b 1 (353 * u + 25) - b 1 (353 * u + 19) else 0 - (b 1 (353 * u + 25) - b 1 (353 * u + 19))) = dF
  have hW : (pr_b1 (α := Int32) (if b 1 (353 * u + 3) ≤ b 1 (353 * u + 17) then some 1 else if b 1 (353 * u + 18) ≤ 0 then some 0 else some 1) fun v5 => pr_b1 (α := Int32) (if v5 = 0 then some 1 else some 4) fun v12 => some (b 1 (353 * u + 2) * v12)) = some (if b 1 (353 * u + 3) ≤ b 1 (353 * u + 17) ∨ ¬ b 1 (353 * u + 18) ≤ 0 then 4 * b 1 (353 * u + 2) else b 1 (353 * u + 2)) := by
    by_cases h1 : b 1 (353 * u + 3) ≤ b 1 (353 * u + 17) <;> by_cases h2 : b 1 (353 * u + 18) ≤ 0 <;> simp [h1, h2, pr_b1_s, Int32.mul_comm]
  have key : ∀ W : Int32, (pr_b1 (α := Int32) (if b 1 (353 * u + 24) = 0 then if W < dT then some 0 else some 1 else some 0) fun v28 => pr_b1 (α := Int32) (if b 1 (353 * u + 26) ≤ 0 then some 0 else if W < dF then some 0 else some 1) fun v33 => if v28 = 0 then if v33 = 0 then some 0 else some 2 else if v33 = 0 then some 1 else if dF < dT then some 2 else some 1) = some (if b 1 (353 * u + 24) = 0 ∧ ¬ W < dT then (if ¬ b 1 (353 * u + 26) ≤ 0 ∧ ¬ W < dF ∧ dF < dT then 2 else 1) else if ¬ b 1 (353 * u + 26) ≤ 0 ∧ ¬ W < dF then 2 else (0 : Int32)) := by
    intro W
    by_cases h1 : b 1 (353 * u + 24) = 0 <;> by_cases h2 : W < dT <;> by_cases h3 : b 1 (353 * u + 26) ≤ 0 <;> by_cases h4 : W < dF <;> by_cases h5 : dF < dT <;>
      simp [h1, h2, h3, h4, h5, pr_b1_s]
  by_cases h1 : b 1 (353 * u + 3) ≤ b 1 (353 * u + 17)
  · simp only [h1, if_true, pr_b1_s, true_or]
    rw [if_neg (show ¬ (1 : Int32) = 0 by decide), pr_b1_s, Int32.mul_comm]
    exact key _
  · by_cases h2 : b 1 (353 * u + 18) ≤ 0
    · simp only [h1, h2, if_true, if_false, pr_b1_s, not_true, or_self, Int32.mul_one]
      exact key _
    · simp only [h1, h2, if_false, pr_b1_s, not_false_eq_true, or_true, if_true]
      rw [if_neg (show ¬ (1 : Int32) = 0 by decide), pr_b1_s, Int32.mul_comm]
      exact key _
