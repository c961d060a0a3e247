/-! ===== the class alone: its small methods and its repeat, piece by piece (taken over from the rows of whole) ===== -/
theorem ri_lit (n : Nat) : (OfNat.ofNat n : Int32) = nI n := rfl
theorem ri_cl {n : Nat} (h : n < 2 ^ 31) : Int32.toNatClampNeg (nI n) = n := nI_clamp h
theorem ri_abs (x : Int32) : (if 0 ≤ x then x else 0 - x) = (if 0 ≤ x then x else -x) := by
  by_cases h : 0 ≤ x
  · rw [if_pos h, if_pos h]
  · rw [if_neg h, if_neg h, Int32.zero_sub]
theorem ri_gd {n N : Nat} (h : n < N) (hN : N < 2 ^ 31) : ¬ (nI n < 0 ∨ N ≤ Int32.toNatClampNeg (nI n)) := by
  rw [nI_clamp (Nat.lt_trans h hN)]
  rintro (a | a)
  · exact nI_pos (Nat.lt_trans h hN) a
  · omega
theorem pr_gd_i {β : Type} {n N : Nat} {x : Option β} (h : n < N) (hN : N < 2 ^ 31) : pr_gd (¬ (nI n < 0 ∨ N ≤ Int32.toNatClampNeg (nI n))) x = x := if_pos (ri_gd h hN)
theorem ri_mask {t k : Nat} (ht : t < 2 ^ 31) {m : Int32} (hm : m.toBitVec.toNat = 2 ^ k - 1) : nI t &&& m = nI (t % 2 ^ k) := pk_andN (by omega) k hm
theorem ri_127 {t : Nat} (ht : t < 2 ^ 31) : nI t &&& 127 = nI (t % 128) := ri_mask (k := 7) ht (by decide)
theorem ri_63 {t : Nat} (ht : t < 2 ^ 31) : nI t &&& 63 = nI (t % 64) := ri_mask (k := 6) ht (by decide)
def rl_lim (x m : Int32) : Int32 := if x ≤ m then (if -m ≤ x then x else -m) else m
theorem rc_limited (x m : Int32) (b : pr_M) : F_X8_limited x m b = some (rl_lim x m) := by
  unfold F_X8_limited rl_lim
  by_cases h : x ≤ m
  · by_cases h2 : -m ≤ x <;> simp [h, h2]
  · simp [h]
theorem rc_lessOne (x : Int32) (b : pr_M) : F_X8_lessOne x b = some (if x ≤ 0 then 0 else x - 1) := by
  unfold F_X8_lessOne
  by_cases h : x ≤ 0 <;> simp [h]
theorem rc_setting {c j : Nat} (a : pr_M) (hj : j < 11) : F_X7_setting c (nI j) a = some (a (c + 1) j) := by
  have h1 : ¬ nI j < 0 := nI_pos (by omega)
  have h2 : ¬ (11 : Int32) ≤ nI j := nI_ge (a := j) (b := 11) hj (by decide)
  simp only [F_X7_setting, if_neg h1, if_neg h2]
  rw [pr_gd_i hj (by decide), ri_cl (show j < 2 ^ 31 by omega)]
theorem rc_change {c j : Nat} (a : pr_M) (v : Int32) (hj : j < 11) : F_X7_changeSetting c (nI j) v a = some ((), pr_up a (c + 1) j v) := by
  have h1 : ¬ nI j < 0 := nI_pos (by omega)
  have h2 : ¬ (11 : Int32) ≤ nI j := nI_ge (a := j) (b := 11) hj (by decide)
  simp only [F_X7_changeSetting, if_neg h1, if_neg h2, pr_lt]
  rw [pr_gd_i hj (by decide), ri_cl (show j < 2 ^ 31 by omega)]
theorem rc_outside (x l h : Int32) (a : pr_M) : F_X8_isOutside x l h a = some (if x < l then 1 else if x ≤ h then 0 else 1) := by
  unfold F_X8_isOutside
  by_cases h1 : x < l
  · simp [h1]
  · by_cases h2 : x ≤ h <;> simp [h1, h2]
theorem rc_set_0 (c : Nat) (a : pr_M) : F_X7_setting c 0 a = some (a (c + 1) 0) := rc_setting (j := 0) a (by decide)
theorem rc_set_1 (c : Nat) (a : pr_M) : F_X7_setting c 1 a = some (a (c + 1) 1) := rc_setting (j := 1) a (by decide)
theorem rc_set_2 (c : Nat) (a : pr_M) : F_X7_setting c 2 a = some (a (c + 1) 2) := rc_setting (j := 2) a (by decide)
theorem rc_set_3 (c : Nat) (a : pr_M) : F_X7_setting c 3 a = some (a (c + 1) 3) := rc_setting (j := 3) a (by decide)
theorem rc_set_4 (c : Nat) (a : pr_M) : F_X7_setting c 4 a = some (a (c + 1) 4) := rc_setting (j := 4) a (by decide)
theorem rc_set_5 (c : Nat) (a : pr_M) : F_X7_setting c 5 a = some (a (c + 1) 5) := rc_setting (j := 5) a (by decide)
theorem rc_set_6 (c : Nat) (a : pr_M) : F_X7_setting c 6 a = some (a (c + 1) 6) := rc_setting (j := 6) a (by decide)
theorem rc_set_7 (c : Nat) (a : pr_M) : F_X7_setting c 7 a = some (a (c + 1) 7) := rc_setting (j := 7) a (by decide)
theorem rc_set_8 (c : Nat) (a : pr_M) : F_X7_setting c 8 a = some (a (c + 1) 8) := rc_setting (j := 8) a (by decide)
theorem rc_set_9 (c : Nat) (a : pr_M) : F_X7_setting c 9 a = some (a (c + 1) 9) := rc_setting (j := 9) a (by decide)
theorem rc_set_10 (c : Nat) (a : pr_M) : F_X7_setting c 10 a = some (a (c + 1) 10) := rc_setting (j := 10) a (by decide)
theorem ri_cl_0 : Int32.toNatClampNeg 0 = 0 := by decide +kernel
theorem ri_cl_1 : Int32.toNatClampNeg 1 = 1 := by decide +kernel
theorem ri_cl_2 : Int32.toNatClampNeg 2 = 2 := by decide +kernel
theorem ri_cl_3 : Int32.toNatClampNeg 3 = 3 := by decide +kernel
theorem ri_cl_4 : Int32.toNatClampNeg 4 = 4 := by decide +kernel
theorem ri_cl_5 : Int32.toNatClampNeg 5 = 5 := by decide +kernel
theorem ri_cl_6 : Int32.toNatClampNeg 6 = 6 := by decide +kernel
theorem rd_n {f : pr_M} {c c' j j' : Nat} {v : Int32} (h : c ≠ c' ∨ j ≠ j') : pr_up f c' j' v c j = f c j := by
  unfold pr_up
  rw [if_neg]
  rintro ⟨h1, h2⟩
  rcases h with h | h
  · exact h h1
  · exact h h2
theorem rd_e {f : pr_M} {c c' j j' : Nat} {v : Int32} (h : c = c' ∧ j = j') : pr_up f c' j' v c j = v := if_pos h
/-- what a step on one unit leaves: the class's other cells, the model's other places -/
def fr_C (a a' : pr_M) (q : Nat) : Prop := ∀ c s, (c < q ∨ q + 9 ≤ c) → a' c s = a c s
def rv_dis (am le du : Int32) : Int32 := if le ≤ 0 then 0 else am * le / du
theorem ri_pos {x : Int32} (h : ¬ x ≤ 0) : 0 < x := Int32.not_le.mp h
theorem ri_pos0 {x : Int32} (h : 0 < x) : ¬ x = 0 := by
  rintro rfl
  exact absurd h (by decide)
theorem rc_dist {c : Nat} {a : pr_M} (h : 0 < a c 7 → 0 < a c 6) : F_X4_disturbance c a = some (rv_dis (a c 5) (a c 7) (a c 6)) := by
  unfold F_X4_disturbance rv_dis
  by_cases h1 : a c 7 ≤ 0
  · simp [h1]
  · have h2 := h (ri_pos h1)
    simp [h1, h2, pr_gd, ri_pos0 h2]
theorem pr_bd_s {α β : Type} {a : α} {g : pr_M} {k : α → pr_M → Option β} : pr_bd (some (a, g)) k = k a g := Eq.trans rfl rfl
theorem pr_b1_s {α β : Type} {a : α} {k : α → Option β} : pr_b1 (some a) k = k a := Eq.trans rfl rfl
/-- not by rfl: so that simp leaves a step that the kernel takes as it stands -/
theorem pr_lt_s {α β : Type} {v : α} {k : α → β} : pr_lt v k = k v := Eq.trans rfl rfl
theorem rc_print {q t : Nat} {d : Int32} {a : pr_M} (ht : t < 2 ^ 31) (h : 0 < a (q + 2) 7 → 0 < a (q + 2) 6) : F_X7_printPiece q (nI t) d a = some ((), pr_up (pr_up a (q + 2 + 1) (t % 128) (a (q + 2) 2 + rv_dis (a (q + 2) 5) (a (q + 2) 7) (a (q + 2) 6) + (a (q + 1) 10 - a (q + 5) 0) * d / 100)) (q + 2 + 2) (t % 128) (a (q + 2) 4 + a (q + 2) 3)) := by
  have hm : t % 128 < 128 := Nat.mod_lt _ (by decide)
  simp only [F_X7_printPiece, F_X4_printPiece, rc_set_10, rc_dist h, pr_b1, pr_bd, pr_lt, ri_127 ht]
  rw [pr_gd_i hm (by decide), ri_cl (show t % 128 < 2 ^ 31 by omega)]
  simp [pr_up]
def ri_less (x : Int32) : Int32 := if x ≤ 0 then 0 else x - 1
theorem ri_less_pos {l d : Int32} (h : 0 < l → 0 < d) : 0 < ri_less l → 0 < d := by
  intro h1
  unfold ri_less at h1
  by_cases h2 : l ≤ 0
  · rw [if_pos h2] at h1; exact absurd h1 (by decide)
  · exact h (ri_pos h2)
theorem rc_less (x : Int32) (a : pr_M) : F_X8_lessOne x a = some (ri_less x) := rc_lessOne x a
theorem rc_offset {c t : Nat} {a : pr_M} (ht : t < 2 ^ 31) : F_X4_offsetAt c (nI t) a = some (a (c + 1) (t % 128)) := by
  have hm : t % 128 < 128 := Nat.mod_lt _ (by decide)
  unfold F_X4_offsetAt
  rw [ri_127 ht, pr_gd_i hm (by decide), ri_cl (by omega)]
theorem rc_skew {c t : Nat} {a : pr_M} (ht : t < 2 ^ 31) : F_X4_skewAt c (nI t) a = some (a (c + 2) (t % 128)) := by
  have hm : t % 128 < 128 := Nat.mod_lt _ (by decide)
  unfold F_X4_skewAt
  rw [ri_127 ht, pr_gd_i hm (by decide), ri_cl (by omega)]
theorem rc_see {q k : Nat} {a : pr_M} {x y : Int32} (hk : a (q + 7) 1 = nI k) (hkt : k < 2 ^ 30) : F_X5_seePiece (q + 6) x y a = some ((), pr_up (pr_up (pr_up (pr_up (pr_up (pr_up a (q + 6) 4 1) (q + 6) 7 0) (q + 6) 5 x) (q + 6) 6 y) (q + 6 + 1 + 1) (k % 64) x) (q + 6 + 1) 1 (nI (k + 1))) := by
  have hm : k % 64 < 64 := Nat.mod_lt _ (by decide)
  unfold F_X5_seePiece F_X1_add
  have hk2 : a (q + 6 + 1) 1 = nI k := hk
  simp (disch := omega) only [pr_lt, rd_n, hk2, ri_63 (show k < 2 ^ 31 by omega)]
  rw [pr_gd_i hm (by decide), ri_cl (by omega)]
  simp (disch := omega) only [rd_n, hk2, nI_1, pr_bd_s]
def rv_abs (x : Int32) : Int32 := if 0 ≤ x then x else 0 - x
def rv_win (mi ms rd w : Int32) : Int32 := if ms ≤ mi ∨ ¬ rd ≤ 0 then 4 * w else w
def rv_rec (hid fl dT dF W : Int32) : Int32 :=
  if hid = 0 ∧ ¬ W < dT then (if ¬ fl ≤ 0 ∧ ¬ W < dF ∧ dF < dT then 2 else 1) else if ¬ fl ≤ 0 ∧ ¬ W < dF then 2 else 0
theorem rv_rec_3 (hid fl dT dF W : Int32) : rv_rec hid fl dT dF W = 0 ∨ rv_rec hid fl dT dF W = 1 ∨ rv_rec hid fl dT dF W = 2 := by
  unfold rv_rec
  by_cases h1 : hid = 0 ∧ ¬ W < dT
  · rw [if_pos h1]
    by_cases h2 : ¬ fl ≤ 0 ∧ ¬ W < dF ∧ dF < dT
    · rw [if_pos h2]; exact Or.inr (Or.inr rfl)
    · rw [if_neg h2]; exact Or.inr (Or.inl rfl)
  · rw [if_neg h1]
    by_cases h2 : ¬ fl ≤ 0 ∧ ¬ W < dF
    · rw [if_pos h2]; exact Or.inr (Or.inr rfl)
    · rw [if_neg h2]; exact Or.inl rfl
theorem rc_window (q : Nat) (a : pr_M) : F_X7_window q a = some (rv_win (a (q + 5) 3) (a (q + 1) 3) (a (q + 5) 4) (a (q + 1) 2)) := by
  unfold F_X7_window rv_win
  simp only [rc_set_3, rc_set_2, pr_b1_s]
  by_cases h1 : a (q + 1) 3 ≤ a (q + 5) 3
  · simp [h1, pr_b1_s]
  · by_cases h2 : a (q + 5) 4 ≤ 0
    · simp [h1, h2, pr_b1_s]
    · simp [h1, h2, pr_b1_s]
def rc_mark (c : Nat) (s : Int32) (R : Int32) (a : pr_M) : pr_M :=
  if R = 0 then a else if R = 1 then pr_up (pr_up (pr_up a c 7 1) c 8 (a c 5)) c 9 (a c 6) else pr_up (pr_up (pr_up a c 7 2) c 8 (a c 2)) c 9 s
theorem rc_near (c : Nat) (e s w : Int32) (a : pr_M) : F_X5_recognizeNear c e s w a = some ((), rc_mark c s (rv_rec (a c 1) (a c 3) (rv_abs (a c 5 - e)) (rv_abs (a c 2 - e)) w) a) := by
  unfold F_X5_recognizeNear rv_rec rc_mark rv_abs
  have t1 : ¬ (1 : Int32) = 0 := by decide
  have t2 : ¬ (2 : Int32) = 0 := by decide
  have t3 : ¬ (2 : Int32) = 1 := by decide
  generalize (if 0 ≤ a c 5 - e then a c 5 - e else 0 - (a c 5 - e)) = dT
  generalize (if 0 ≤ a c 2 - e then a c 2 - e else 0 - (a c 2 - e)) = dF
  by_cases h1 : a c 1 = 0 <;> by_cases h2 : w < dT <;> by_cases h3 : a c 3 ≤ 0 <;> by_cases h4 : w < dF <;> by_cases h5 : dF < dT <;>
    simp (disch := omega) [h1, h2, h3, h4, h5, pr_b1_s, pr_lt, rd_n]
theorem rc_recog {q : Nat} {a : pr_M} (h7 : a (q + 6) 7 = 0) {R : Int32} (hR : R = rv_rec (a (q + 6) 1) (a (q + 6) 3) (rv_abs (a (q + 6) 5 - a (q + 5) 5)) (rv_abs (a (q + 6) 2 - a (q + 5) 5)) (rv_win (a (q + 5) 3) (a (q + 1) 3) (a (q + 5) 4) (a (q + 1) 2))) :
    F_X7_recognizeMark q a = some (if R = 0 then 0 else 1, pr_up (rc_mark (q + 6) (a (q + 5) 6) R a) (q + 5) 3 (if R = 0 then a (q + 5) 3 + 1 else 0)) := by
  have t1 : ¬ (1 : Int32) = 0 := by decide
  have t2 : ¬ (2 : Int32) = 0 := by decide
  have t3 : ¬ (2 : Int32) = 1 := by decide
  unfold F_X7_recognizeMark
  rw [rc_window, pr_b1_s, rc_near, pr_bd_s, ← hR]
  rcases (show R = 0 ∨ R = 1 ∨ R = 2 by rw [hR]; exact rv_rec_3 _ _ _ _ _) with e | e | e <;> rw [e]
  · simp (disch := omega) [rc_mark, h7, pr_b1_s, pr_lt, pr_gd]
  · simp (disch := omega) [rc_mark, rd_n, rd_e, pr_b1_s, pr_lt, pr_gd]
  · simp (disch := omega) [rc_mark, rd_n, rd_e, pr_b1_s, pr_lt, pr_gd]
theorem rc_mark_n {c c' s' : Nat} {s R : Int32} {a : pr_M} (h : c' ≠ c ∨ (s' ≠ 7 ∧ s' ≠ 8 ∧ s' ≠ 9)) : rc_mark c s R a c' s' = a c' s' := by
  unfold rc_mark
  by_cases h0 : R = 0
  · rw [if_pos h0]
  · by_cases h1 : R = 1
    · rw [if_neg h0, if_pos h1]; simp (disch := omega) only [rd_n]
    · rw [if_neg h0, if_neg h1]; simp (disch := omega) only [rd_n]
theorem rc_mark_1 {c : Nat} {s : Int32} {a : pr_M} : rc_mark c s 1 a c 7 = 1 ∧ rc_mark c s 1 a c 8 = a c 5 ∧ rc_mark c s 1 a c 9 = a c 6 := by
  unfold rc_mark
  rw [if_neg (by decide), if_pos rfl]
  simp (disch := omega) only [rd_n, rd_e, and_self]
theorem rc_mark_2 {c : Nat} {s : Int32} {a : pr_M} : rc_mark c s 2 a c 7 = 2 ∧ rc_mark c s 2 a c 8 = a c 2 ∧ rc_mark c s 2 a c 9 = s := by
  unfold rc_mark
  rw [if_neg (by decide), if_neg (by decide)]
  simp (disch := omega) only [rd_n, rd_e, and_self]
def rc_corr (c : Nat) (p1 : Nat) (f7 : pr_M) : Option (Unit × pr_M) :=
    if (f7 (p1 + 5) 2) = 0 then (
      pr_b1 (F_X7_isOff p1 (f7 (p1 + 6) 8) f7) fun r12 =>
      pr_b1 (F_X7_isOff p1 (f7 (p1 + 6) 9) f7) fun r14 =>
      if r12 = 0 then (
        if r14 = 0 then (
          some ((), f7)
        ) else (
          pr_lt (pr_up f7 (p1 + 5) 7 0) fun f43 =>
          pr_bd (F_X7_correctSkew p1 f43) fun r47 f48 =>
          pr_lt (pr_up f48 (p1 + 5) 8 r47) fun f49 =>
          pr_b1 (F_X7_setting p1 1 f49) fun r52 =>
          pr_lt (pr_up f49 (p1 + 5) 2 (r52 + 1)) fun f53 =>
          pr_lt (pr_up f53 (c + 3) (Int32.toNatClampNeg 4) ((f53 (c + 3) (Int32.toNatClampNeg 4)) + 1)) fun f58 =>
          some ((), f58)
        )
      ) else (
        pr_bd (F_X7_correctPhase p1 f7) fun r18 f19 =>
        pr_lt (pr_up f19 (p1 + 5) 7 r18) fun f20 =>
        pr_bd (α := Int32) (
          if r14 = 0 then (
            some (0, f20)
          ) else (
            pr_bd (F_X7_correctSkew p1 f20) fun r26 f27 =>
            some (r26, f27)
          )
        ) fun v22 f23 =>
        pr_lt (pr_up f23 (p1 + 5) 8 v22) fun f28 =>
        pr_b1 (F_X7_setting p1 1 f28) fun r31 =>
        pr_lt (pr_up f28 (p1 + 5) 2 (r31 + 1)) fun f32 =>
        pr_lt (pr_up f32 (c + 3) (Int32.toNatClampNeg 3) ((f32 (c + 3) (Int32.toNatClampNeg 3)) + 1)) fun f36 =>
        if r14 = 0 then (
          some ((), f36)
        ) else (
          pr_lt (pr_up f36 (c + 3) (Int32.toNatClampNeg 4) ((f36 (c + 3) (Int32.toNatClampNeg 4)) + 1)) fun f39 =>
          some ((), f39)
        )
      )
    ) else (
      some ((), f7)
    )
def rc_rest (c : Nat) (p1 : Nat) (f65 : pr_M) : Option (Unit × pr_M) := pr_bd (F_X7_expectAsMeasured p1 f65) fun _ f7 => rc_corr c p1 f7
theorem rc_control (c p1 : Nat) (p2 : Int32) (f : pr_M) : F_X3_control c p1 p2 f = pr_bd (F_X7_learnFrom p1 p2 f) fun r2 f3 => if r2 = 0 then rc_rest c p1 f3 else pr_lt (pr_up f3 (c + 3) (Int32.toNatClampNeg 5) ((f3 (c + 3) (Int32.toNatClampNeg 5)) + 1)) fun f61 => rc_rest c p1 f61 := rfl
theorem rc_isOff (q : Nat) (x : Int32) (a : pr_M) : F_X7_isOff q x a = some (if rv_abs x ≤ a (q + 1) 6 then 0 else 1) := by
  unfold F_X7_isOff rv_abs
  rw [rc_set_6, pr_b1_s]
  generalize (if 0 ≤ x then x else 0 - x) = y
  by_cases h : y ≤ a (q + 1) 6
  · rw [if_pos h, if_pos h]
  · rw [if_neg h, if_neg h]
def rv_sum (s m : Int32) : Int32 := rl_lim (s + m) 20000
def rv_ph (ph g sg st s m : Int32) : Int32 := rl_lim (ph + rl_lim ((-(g * m + sg * s)) / 256) st) 5000
def rv_sk (sk g st m : Int32) : Int32 := rl_lim (sk + rl_lim ((-(g * m)) / 256) st) 3000
theorem rc_cp (q : Nat) (a : pr_M) : F_X7_correctPhase q a = some (rv_ph (a (q + 2) 2) (a (q + 1) 4) (a (q + 1) 5) (a (q + 1) 7) (rv_sum (a (q + 5) 1) (a (q + 6) 8)) (a (q + 6) 8) - a (q + 2) 2, pr_up (pr_up a (q + 5) 1 (rv_sum (a (q + 5) 1) (a (q + 6) 8))) (q + 2) 2 (rv_ph (a (q + 2) 2) (a (q + 1) 4) (a (q + 1) 5) (a (q + 1) 7) (rv_sum (a (q + 5) 1) (a (q + 6) 8)) (a (q + 6) 8))) := by
  unfold F_X7_correctPhase
  simp (disch := omega) only [rc_limited, rc_set_4, rc_set_5, rc_set_7, pr_b1_s, pr_lt_s, rd_n, rd_e]
  rw [rv_ph, rv_sum]
theorem rc_cs (q : Nat) (a : pr_M) : F_X7_correctSkew q a = some (rv_sk (a (q + 2) 3) (a (q + 1) 4) (a (q + 1) 7) (a (q + 6) 9) - a (q + 2) 3, pr_up a (q + 2) 3 (rv_sk (a (q + 2) 3) (a (q + 1) 4) (a (q + 1) 7) (a (q + 6) 9))) := by
  have e2 : ∀ sk g st m, rl_lim (sk + rl_lim ((-(g * m)) / 256) st) 3000 = rv_sk sk g st m := fun _ _ _ _ => rfl
  unfold F_X7_correctSkew
  simp (disch := omega) only [rc_limited, rc_set_4, rc_set_7, pr_b1_s, pr_lt_s, rd_n, rd_e, e2]
theorem rv_abs0 {d : Int32} (h : ¬ rv_abs d < 10) : ¬ d = 0 := by
  rintro rfl
  exact h (by decide)
theorem rc_learn (q : Nat) (d : Int32) (a : pr_M) : F_X7_learnFrom q d a = if ¬ rv_abs d < 10 ∧ 0 < a (q + 1) 8 then some (1, pr_up a (q + 5) 0 (rl_lim (a (q + 5) 0 + (a (q + 6) 8 - a (q + 5) 5) * 100 / d * a (q + 1) 8 / 256) 500)) else some (0, a) := by
  unfold F_X7_learnFrom
  rw [← rv_abs]
  by_cases h1 : rv_abs d < 10
  · rw [if_pos h1, if_neg (fun h => h.1 h1)]
  · rw [if_neg h1, if_neg (rv_abs0 h1), rc_set_8, pr_b1_s]
    by_cases h2 : 0 < a (q + 1) 8
    · rw [if_pos h2, if_pos ⟨h1, h2⟩, pr_b1_s, rc_limited, pr_b1_s, pr_lt_s]
    · rw [if_neg h2, if_neg (fun h => h2 h.2)]
theorem rc_control2 {c p1 : Nat} {p2 : Int32} {f a' : pr_M} {r : Unit} (h : (pr_bd (F_X7_learnFrom p1 p2 f) fun r2 f3 => if r2 = 0 then some ((), f3) else pr_lt (pr_up f3 (c + 3) (Int32.toNatClampNeg 5) ((f3 (c + 3) (Int32.toNatClampNeg 5)) + 1)) fun f61 => some ((), f61)) = some (r, a')) : F_X3_control c p1 p2 f = rc_rest c p1 a' := by
  rw [rc_control]
  obtain ⟨r2, f3, h1, h2⟩ := pr_bd_some h
  rw [h1, pr_bd_s]
  by_cases h3 : r2 = 0
  · rw [if_pos h3] at h2 ⊢
    rw [(pr_inj h2).2]
  · rw [if_neg h3] at h2 ⊢
    rw [pr_lt_s] at h2 ⊢
    rw [(pr_inj h2).2]
theorem ri_ss (a b c : Int32) : a - b - c = a - (b + c) := by
  rw [Int32.sub_eq_add_neg, Int32.sub_eq_add_neg, Int32.sub_eq_add_neg, Int32.neg_add, Int32.add_assoc, Int32.sub_eq_add_neg]
abbrev uq (p u : Nat) : Nat := p + 1 + 3 + 9 * u
theorem ri_ug {i : Nat} (hi : i < 5) {β : Type} {X : Option β} : pr_gd (¬ (nI i < 0 ∨ 5 ≤ Int32.toNatClampNeg (nI i))) X = X := pr_gd_i hi (by decide)
theorem bg_tot {p : Nat} : ∀ (m i N : Nat) (a : pr_M), i + m = 6 → m < N → (∀ j, j < i → a (p + 3) j = 0) → ∃ a', L_X3_begin_37 p N (nI i) a = some ((), a') ∧ (∀ j, j < 6 → a' (p + 3) j = 0) ∧ (∀ c s, c ≠ p + 3 → a' c s = a c s)
  | 0, i, N, a, hi, h1, h => by
    obtain ⟨N, rfl⟩ : ∃ j, N = j + 1 := ⟨N - 1, by omega⟩
    have hik : i = 6 := by omega
    subst hik
    rw [L_X3_begin_37, if_pos (show (6 : Int32) ≤ nI 6 by decide)]
    exact ⟨_, rfl, h, fun _ _ _ => rfl⟩
  | m + 1, i, N, a, hi, h1, h => by
    obtain ⟨N, rfl⟩ : ∃ j, N = j + 1 := ⟨N - 1, by omega⟩
    obtain ⟨a', e, e1, e2⟩ := bg_tot (p := p) m (i + 1) N (pr_up a (p + 3) i 0) (by omega) (by omega) (fun j hj => by
      by_cases c : j = i
      · exact rd_e ⟨rfl, c⟩
      · rw [rd_n (by omega)]; exact h j (by omega))
    rw [L_X3_begin_37, if_neg (show ¬ (6 : Int32) ≤ nI i from nI_ge (b := 6) (by omega) (by decide)), pr_gd_i (by omega) (by decide), ri_cl (by omega), pr_lt_s, nI_1, e]
    exact ⟨_, rfl, e1, fun c s hc => by rw [e2 c s hc, rd_n (by omega)]⟩
theorem bg_set {q : Nat} : ∀ (m i N : Nat) (a : pr_M), i + m = 11 → m < N → (∀ j, j < i → a (q + 1) j = pr_x2.getD j 0) → ∃ a', L_X7_begin_2 q N (nI i) a = some ((), a') ∧ (∀ j, j < 11 → a' (q + 1) j = pr_x2.getD j 0) ∧ (∀ c s, c ≠ q + 1 → a' c s = a c s)
  | 0, i, N, a, hi, h1, h => by
    obtain ⟨N, rfl⟩ : ∃ j, N = j + 1 := ⟨N - 1, by omega⟩
    have hik : i = 11 := by omega
    subst hik
    rw [L_X7_begin_2, if_pos (show (11 : Int32) ≤ nI 11 by decide)]
    exact ⟨_, rfl, h, fun _ _ _ => rfl⟩
  | m + 1, i, N, a, hi, h1, h => by
    obtain ⟨N, rfl⟩ : ∃ j, N = j + 1 := ⟨N - 1, by omega⟩
    obtain ⟨a', e, e1, e2⟩ := bg_set (q := q) m (i + 1) N (pr_up a (q + 1) i (pr_x2.getD i 0)) (by omega) (by omega) (fun j hj => by
      by_cases c : j = i
      · subst c; exact rd_e ⟨rfl, rfl⟩
      · rw [rd_n (by omega)]; exact h j (by omega))
    rw [L_X7_begin_2, if_neg (show ¬ (11 : Int32) ≤ nI i from nI_ge (b := 11) (by omega) (by decide)), pr_gd_i (by omega) (by decide), ri_cl (by omega), pr_lt_s, nI_1, e]
    exact ⟨_, rfl, e1, fun c s hc => by rw [e2 c s hc, rd_n (by omega)]⟩
/-- a unit of a new set-up -/
def bg_u (a : pr_M) (q : Nat) : Prop := (∀ j, j < 11 → a (q + 1) j = pr_x2.getD j 0) ∧ (∀ j, 2 ≤ j → j ≤ 7 → a (q + 2) j = 0) ∧ (∀ j, j ≤ 8 → a (q + 5) j = 0) ∧ (∀ j, 1 ≤ j → j ≤ 9 → a (q + 6) j = 0) ∧ a (q + 7) 1 = 0
theorem bg_unit (q : Nat) (a : pr_M) : ∃ a', F_X7_begin q a = some ((), a') ∧ bg_u a' q ∧ fr_C a a' q := by
  obtain ⟨a1, e, e1, e2⟩ := bg_set (q := q) 11 0 pr_fuel a rfl (by decide) (fun j hj => absurd hj (Nat.not_lt_zero j))
  unfold F_X7_begin F_X4_begin F_X0_clear F_X5_begin F_X1_begin F_X5_seeNothing
  rw [show L_X7_begin_2 q pr_fuel 0 a = some ((), a1) from e]
  simp only [pr_bd_s, pr_lt_s]
  refine ⟨_, rfl, ⟨fun j hj => ?_, fun j h1 h2 => ?_, fun j h1 => ?_, fun j h1 h2 => ?_, ?_⟩, fun c s hc => ?_⟩
  · simp (disch := omega) only [rd_n]; exact e1 j hj
  · rcases (show j = 2 ∨ j = 3 ∨ j = 4 ∨ j = 5 ∨ j = 6 ∨ j = 7 by omega) with rfl | rfl | rfl | rfl | rfl | rfl <;> simp (disch := omega) only [rd_n, rd_e]
  · rcases (show j = 0 ∨ j = 1 ∨ j = 2 ∨ j = 3 ∨ j = 4 ∨ j = 5 ∨ j = 6 ∨ j = 7 ∨ j = 8 by omega) with rfl | rfl | rfl | rfl | rfl | rfl | rfl | rfl | rfl <;> simp (disch := omega) only [rd_n, rd_e]
  · rcases (show j = 1 ∨ j = 2 ∨ j = 3 ∨ j = 4 ∨ j = 5 ∨ j = 6 ∨ j = 7 ∨ j = 8 ∨ j = 9 by omega) with rfl | rfl | rfl | rfl | rfl | rfl | rfl | rfl | rfl <;> simp (disch := omega) only [rd_n, rd_e]
  · simp (disch := omega) only [rd_n, rd_e]
  · simp (disch := omega) only [rd_n]; exact e2 c s (by omega)
theorem bg_u_same {a a' : pr_M} {q : Nat} (h : bg_u a q) (hA : ∀ j s, j < 9 → a' (q + j) s = a (q + j) s) : bg_u a' q := by
  obtain ⟨h1, h2, h3, h4, h5⟩ := h
  exact ⟨fun j hj => by rw [hA 1 _ (by decide)]; exact h1 j hj, fun j g1 g2 => by rw [hA 2 _ (by decide)]; exact h2 j g1 g2, fun j hj => by rw [hA 5 _ (by decide)]; exact h3 j hj, fun j g1 g2 => by rw [hA 6 _ (by decide)]; exact h4 j g1 g2, by rw [hA 7 _ (by decide)]; exact h5⟩
theorem bg_units {p : Nat} : ∀ (m i N : Nat) (a : pr_M), i + m = 5 → m < N → (∀ u, u < i → bg_u a (uq p u)) → ∃ a', L_X3_begin_58 p N (nI i) a = some ((), a') ∧ (∀ u, u < 5 → bg_u a' (uq p u)) ∧ (∀ c s, (c < p + 4 ∨ p + 49 ≤ c) → a' c s = a c s)
  | 0, i, N, a, hi, h1, h => by
    obtain ⟨N, rfl⟩ : ∃ j, N = j + 1 := ⟨N - 1, by omega⟩
    have hik : i = 5 := by omega
    subst hik
    rw [L_X3_begin_58, if_pos (show (5 : Int32) ≤ nI 5 by decide)]
    exact ⟨_, rfl, h, fun _ _ _ => rfl⟩
  | m + 1, i, N, a, hi, h1, h => by
    obtain ⟨N, rfl⟩ : ∃ j, N = j + 1 := ⟨N - 1, by omega⟩
    obtain ⟨a1, f, f1, f2⟩ := bg_unit (p + 1 + 3 + 9 * i) a
    obtain ⟨a', e, e1, e2⟩ := bg_units (p := p) m (i + 1) N a1 (by omega) (by omega) (fun u hu => by
      by_cases c : u = i
      · subst c; exact f1
      · exact bg_u_same (h u (by omega)) fun j s hj => f2 _ _ (by dsimp only [uq]; omega))
    rw [L_X3_begin_58, if_neg (show ¬ (5 : Int32) ≤ nI i from nI_ge (b := 5) (by omega) (by decide)), pr_gd_i (by omega) (by decide), ri_cl (by omega), f, pr_bd_s, nI_1, e]
    exact ⟨_, rfl, e1, fun c s hc => by rw [e2 c s hc, f2 c s (by omega)]⟩
theorem bg_press (p : Nat) (x : Int32) (a : pr_M) : ∃ a', F_X3_begin p x a = some ((), a') ∧ a' p 3 = x ∧ (∀ j, 4 ≤ j → j ≤ 9 → a' p j = 0) ∧ (∀ j, j < 6 → a' (p + 3) j = 0) ∧ (∀ u, u < 5 → bg_u a' (uq p u)) ∧ (∀ c s, (c < p ∨ p + 49 ≤ c) → a' c s = a c s) := by
  unfold F_X3_begin
  simp only [pr_lt_s]
  generalize ha0 : pr_up (pr_up (pr_up (pr_up (pr_up (pr_up (pr_up a p 3 x) p 4 0) p 5 0) p 6 0) p 7 0) p 8 0) p 9 0 = a0
  obtain ⟨a1, e1, e2, e3⟩ := bg_tot (p := p) 6 0 pr_fuel a0 rfl (by decide) (fun j hj => absurd hj (Nat.not_lt_zero j))
  obtain ⟨a2, f1, f2, f3⟩ := bg_units (p := p) 5 0 pr_fuel a1 rfl (by decide) (fun j hj => absurd hj (Nat.not_lt_zero j))
  rw [show L_X3_begin_37 p pr_fuel 0 a0 = some ((), a1) from e1, pr_bd_s, show L_X3_begin_58 p pr_fuel 0 a1 = some ((), a2) from f1, pr_bd_s]
  refine ⟨_, rfl, ?_, fun j h1 h2 => ?_, fun j hj => ?_, f2, fun c s hc => ?_⟩
  · rw [f3 _ _ (by omega), e3 _ _ (by omega), ← ha0]; simp (disch := omega) only [rd_n, rd_e]
  · rw [f3 _ _ (by omega), e3 _ _ (by omega), ← ha0]
    rcases (show j = 4 ∨ j = 5 ∨ j = 6 ∨ j = 7 ∨ j = 8 ∨ j = 9 by omega) with rfl | rfl | rfl | rfl | rfl | rfl <;> simp (disch := omega) only [rd_n, rd_e]
  · rw [f3 _ _ (by omega)]; exact e2 j hj
  · rw [f3 _ _ (by omega), e3 _ _ (by omega), ← ha0]; simp (disch := omega) only [rd_n]
