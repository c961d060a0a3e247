/-! ===== the class: the end of a repeat, splices, prints ===== -/
def eN (A B : Int32) (N : Nat → Int32) : Nat → Int32
  | 0 => N 0
  | 1 => N 1
  | 2 => N 2
  | 3 => N 3
  | 4 => N 4
  | 5 => if N 5 ≤ 0 then N 5 else N 5 - 1
  | 6 => N 6
  | 7 => ri_less (N 7)
  | 8 => if N 5 ≤ 0 then N 8 else if N 5 - 1 = 0 then N 8 + A else N 8
  | 9 => if N 5 ≤ 0 then N 9 else if N 5 - 1 = 0 then N 9 + B else N 9
  | 10 => ri_less (N 10)
  | 11 => ri_less (N 11)
  | 12 => ri_less (N 12)
  | _ => 0
set_option maxHeartbeats 4000000 in
theorem c_end {q : Nat} {a : pr_M} {M : Nat → Int32} {A B : Int32} (hM : ∀ j, j < 13 → nu a q j = M j) (hA : a (q + 5) 7 = A) (hB : a (q + 5) 8 = B) :
    ∃ a', F_X7_endRepeat q a = some ((), a') ∧ (∀ j, j < 13 → nu a' q j = eN A B M j) ∧
      (∀ c s, (c ≠ q + 2 ∨ s ≠ 7) → (c ≠ q + 6 ∨ (s ≠ 1 ∧ s ≠ 3)) → (c ≠ q + 5 ∨ (s ≠ 2 ∧ s ≠ 4 ∧ s ≠ 5 ∧ s ≠ 6)) → a' c s = a c s) := by
  have m0 : a (q + 2) 2 = M 0 := hM 0 (by decide)
  have m1 : a (q + 2) 3 = M 1 := hM 1 (by decide)
  have m2 : a (q + 2) 4 = M 2 := hM 2 (by decide)
  have m3 : a (q + 5) 0 = M 3 := hM 3 (by decide)
  have m4 : a (q + 5) 1 = M 4 := hM 4 (by decide)
  have m5 : a (q + 5) 2 = M 5 := hM 5 (by decide)
  have m6 : a (q + 5) 3 = M 6 := hM 6 (by decide)
  have m7 : a (q + 5) 4 = M 7 := hM 7 (by decide)
  have m8 : a (q + 5) 5 = M 8 := hM 8 (by decide)
  have m9 : a (q + 5) 6 = M 9 := hM 9 (by decide)
  have m10 : a (q + 2) 7 = M 10 := hM 10 (by decide)
  have m11 : a (q + 6) 1 = M 11 := hM 11 (by decide)
  have m12 : a (q + 6) 3 = M 12 := hM 12 (by decide)
  by_cases h0 : M 5 ≤ 0
  · refine ⟨?_, ?_, ?_⟩
    rotate_left
    · unfold F_X7_endRepeat F_X0_endRepeat
      simp only [m5, if_pos h0, rc_less, pr_b1_s, pr_lt_s, pr_bd_s]
      exact rfl
    refine ⟨fun j hj => ?_, fun c s h1 h2 h3 => ?_⟩
    · rcases k13 hj with rfl | rfl | rfl | rfl | rfl | rfl | rfl | rfl | rfl | rfl | rfl | rfl | rfl <;> simp only [nu, eN, if_pos h0] <;> simp (disch := omega) only [rd_n, rd_e, m0, m1, m2, m3, m4, m5, m6, m7, m8, m9, m10, m11, m12]
    · simp (disch := omega) only [rd_n]
  · by_cases h1 : M 5 - 1 = 0
    · refine ⟨?_, ?_, ?_⟩
      rotate_left
      · unfold F_X7_endRepeat F_X0_endRepeat
        simp (disch := omega) only [m5, if_neg h0, pr_lt_s, rd_e, rd_n, h1, if_true, rc_less, pr_b1_s, pr_bd_s]
        exact rfl
      refine ⟨fun j hj => ?_, fun c s h1 h2 h3 => ?_⟩
      · rcases k13 hj with rfl | rfl | rfl | rfl | rfl | rfl | rfl | rfl | rfl | rfl | rfl | rfl | rfl <;> simp only [nu, eN, if_neg h0, if_pos h1] <;> simp (disch := omega) only [rd_n, rd_e, m0, m1, m2, m3, m4, m5, m6, m7, m8, m9, m10, m11, m12, hA, hB, h1]
      · simp (disch := omega) only [rd_n]
    · refine ⟨?_, ?_, ?_⟩
      rotate_left
      · unfold F_X7_endRepeat F_X0_endRepeat
        simp (disch := omega) only [m5, if_neg h0, pr_lt_s, rd_e, rd_n, if_neg h1, rc_less, pr_b1_s, pr_bd_s]
        exact rfl
      refine ⟨fun j hj => ?_, fun c s h1 h2 h3 => ?_⟩
      · rcases k13 hj with rfl | rfl | rfl | rfl | rfl | rfl | rfl | rfl | rfl | rfl | rfl | rfl | rfl <;> simp only [nu, eN, if_neg h0, if_neg h1] <;> simp (disch := omega) only [rd_n, rd_e, m0, m1, m2, m3, m4, m5, m6, m7, m8, m9, m10, m11, m12]
      · simp (disch := omega) only [rd_n]
/-- a splice comes -/
def gS (q : Nat) (am du : Int32) (a : pr_M) : pr_M := pr_up (pr_up (pr_up (pr_up (pr_up a (q + 2) 5 am) (q + 2) 6 du) (q + 2) 7 du) (q + 5) 1 0) (q + 5) 4 (a (q + 1) 1 + a (q + 1) 9)
theorem c_spl (q : Nat) (am du : Int32) (a : pr_M) : F_X7_beSpliced q am du a = some ((), gS q am du a) := by
  unfold F_X7_beSpliced F_X4_beDisturbed gS
  simp (disch := omega) only [pr_lt_s, pr_bd_s, rc_set_1, rc_set_9, pr_b1_s, rd_n]
theorem gS_n {q c s : Nat} {am du : Int32} {a : pr_M} (h1 : c ≠ q + 2 ∨ (s ≠ 5 ∧ s ≠ 6 ∧ s ≠ 7)) (h2 : c ≠ q + 5 ∨ (s ≠ 1 ∧ s ≠ 4)) : gS q am du a c s = a c s := by
  unfold gS
  simp (disch := omega) only [rd_n]
def cN (du rd : Int32) (N : Nat → Int32) : Nat → Int32
  | 0 => N 0
  | 1 => N 1
  | 2 => N 2
  | 3 => N 3
  | 4 => 0
  | 5 => N 5
  | 6 => N 6
  | 7 => rd
  | 8 => N 8
  | 9 => N 9
  | 10 => du
  | 11 => N 11
  | 12 => N 12
  | _ => 0
theorem gS_nu {q j : Nat} {am du : Int32} {a : pr_M} (hj : j < 13) : nu (gS q am du a) q j = cN du (a (q + 1) 1 + a (q + 1) 9) (nu a q) j := by
  rcases k13 hj with rfl | rfl | rfl | rfl | rfl | rfl | rfl | rfl | rfl | rfl | rfl | rfl | rfl <;> simp only [nu, cN, gS] <;> simp (disch := omega) only [rd_n, rd_e]
/-- what comes of the splice under way, at its place x behind its start -/
def gB (x dd : Int32) (f : pr_M) : pr_M :=
  if x = dd then gS 14 (f 1 8) (f 1 9) (if x = 0 then gS 5 (f 1 8) (f 1 9) f else f) else (if x = 0 then gS 5 (f 1 8) (f 1 9) f else f)
theorem gB_n {x dd : Int32} {f : pr_M} {c s : Nat} (h1 : (c ≠ 7 ∧ c ≠ 16) ∨ (s ≠ 5 ∧ s ≠ 6 ∧ s ≠ 7)) (h2 : (c ≠ 10 ∧ c ≠ 19) ∨ (s ≠ 1 ∧ s ≠ 4)) : gB x dd f c s = f c s := by
  have h0 : (if x = 0 then gS 5 (f 1 8) (f 1 9) f else f) c s = f c s := by
    by_cases e : x = 0
    · rw [if_pos e, gS_n (by omega) (by omega)]
    · rw [if_neg e]
  unfold gB
  by_cases e : x = dd
  · rw [if_pos e, gS_n (by omega) (by omega), h0]
  · rw [if_neg e, h0]
/-- the place of the splice: -1 without one -/
def spl (f : pr_M) (t : Nat) (x : Int32) : Prop := (f 1 9 = 0 ∧ x = -1) ∨ (¬ f 1 9 = 0 ∧ ∃ s0, s0 ≤ t ∧ f 1 7 = nI s0 ∧ x = nI (t - s0))
theorem i_u14 : (1 : Nat) + 1 + 3 + 9 * Int32.toNatClampNeg 1 = 14 := by decide +kernel
theorem i_u5 : (1 : Nat) + 1 + 3 + 9 * Int32.toNatClampNeg 0 = 5 := by decide +kernel
theorem i_g0 : ¬ ((0 : Int32) < 0 ∨ 5 ≤ Int32.toNatClampNeg 0) := by decide +kernel
theorem i_g1 : ¬ ((1 : Int32) < 0 ∨ 5 ≤ Int32.toNatClampNeg 1) := by decide +kernel
theorem i_01 : (0 : Int32) + 1 = 1 := by decide
theorem i_12 : (1 : Int32) + 1 = 2 := by decide
theorem c_bring {t d : Nat} {x : Int32} {f : pr_M} (h3 : f 1 3 = 2) (h4 : f 1 4 = nI t) (hd : f (14 + 1) 0 = nI d) (hd1 : 1 ≤ d) (hd2 : d ≤ 9) (ht : t < 100) (hx : spl f t x) : F_X3_bringSplice 1 f = some ((), gB x (nI d) f) := by
  unfold F_X3_bringSplice
  rcases hx with ⟨h9, rfl⟩ | ⟨h9, s0, hs, h7, rfl⟩
  · have n1 : ¬ (-1 : Int32) = nI d := fun h => nI_pos (show d < 2 ^ 31 by omega) (by rw [← h]; decide)
    have n0 : ¬ (-1 : Int32) = 0 := by decide
    rw [if_pos h9]
    unfold gB
    rw [if_neg n1, if_neg n0]
  · rw [if_neg h9]
    have c0 : (nI t = nI s0 + 0) ↔ (nI (t - s0) = 0) := by
      rw [Int32.add_zero, nI_eq (by omega) (by omega), show (0 : Int32) = nI 0 from rfl, nI_eq (by omega) (by omega)]
      omega
    have c1 : (nI t = nI s0 + (0 + nI d)) ↔ (nI (t - s0) = nI d) := by
      rw [Int32.zero_add, nI_add, nI_eq (by omega) (by omega), nI_eq (by omega) (by omega)]
      omega
    have step : ∀ b : pr_M, (∀ s, b 1 s = f 1 s) → b (14 + 1) 0 = nI d → L_X3_bringSplice_12 1 (3997 + 1 + 1) 0 1 b = some ((), if nI (t - s0) = nI d then gS 14 (f 1 8) (f 1 9) b else b) := fun b hb hbd => by
      have b3 : b 1 3 = 2 := by rw [hb]; exact h3
      rw [L_X3_bringSplice_12, b3, if_neg (by decide), if_neg (by decide), pr_gdT i_g1, i_u14, rc_set_0, pr_b1_s, hbd, hb 4, hb 7, hb 8, hb 9, h4, h7]
      by_cases e : nI (t - s0) = nI d
      · rw [if_pos (c1.mpr e), if_pos e, c_spl, pr_bd_s, i_12, L_X3_bringSplice_12, show (gS 14 (f 1 8) (f 1 9) b) 1 3 = 2 by rw [gS_n (by omega) (by omega)]; exact b3, if_pos (by decide)]
      · rw [if_neg (fun h => e (c1.mp h)), if_neg e, i_12, L_X3_bringSplice_12, b3, if_pos (by decide)]
    rw [show pr_fuel = 3997 + 1 + 1 + 1 from rfl, L_X3_bringSplice_12, h3, if_neg (by decide), if_pos (by decide), h4, h7, pr_gdT i_g0, i_u5, i_01]
    unfold gB
    by_cases e : nI (t - s0) = 0
    · rw [if_pos (c0.mpr e), if_pos e, c_spl, pr_bd_s, step _ (fun s => gS_n (by omega) (by omega)) (by rw [gS_n (by omega) (by omega)]; exact hd), pr_bd_s]
    · rw [if_neg (fun h => e (c0.mp h)), if_neg e, step _ (fun _ => rfl) hd, pr_bd_s]
