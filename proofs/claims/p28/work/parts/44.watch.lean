/-! ===== the class: what a sensor does in a repeat ===== -/
def w_R (S N : Nat → Int32) (err fo : Int32) : Int32 := rv_rec (N 11) (N 12) (rv_abs (err - N 8)) (rv_abs (fo - N 8)) (rv_win (N 6) (S 3) (N 7) (S 2))
def w_N (S N : Nat → Int32) (R m k ch : Int32) : Nat → Int32
  | 0 => if R = 0 then N 0 else k_ph S (N 5) (N 0) (N 4) m
  | 1 => if R = 0 then N 1 else k_sk S (N 5) (N 1) k
  | 2 => N 2
  | 3 => if R = 0 then N 3 else k_fd S (N 3) m (N 8) ch
  | 4 => if R = 0 then N 4 else k_sm S (N 5) (N 4) m
  | 5 => if R = 0 then N 5 else k_wt S (N 5) m k
  | 6 => if R = 0 then N 6 + 1 else 0
  | 7 => N 7
  | 8 => if R = 0 then N 8 else m
  | 9 => if R = 0 then N 9 else k
  | 10 => N 10
  | 11 => N 11
  | 12 => N 12
  | _ => 0
/-- what the latest correction has added: to the phase, to the skew -/
def w_A (S N : Nat → Int32) (R m k A : Int32) : Int32 := if R = 0 then A else k_ad S (N 5) m k (k_ph S (N 5) (N 0) (N 4) m) (N 0) A
def w_B (S N : Nat → Int32) (R m k B : Int32) : Int32 := if R = 0 then B else k_ad S (N 5) m k (k_sk S (N 5) (N 1) k) (N 1) B
theorem i_3 (x y : Int32) : x + 1 + y = x + y + 1 := by rw [Int32.add_assoc, Int32.add_comm 1 y, ← Int32.add_assoc]
theorem c_see {q n : Nat} {a : pr_M} {x y : Int32} (hk : a (q + 7) 1 = nI n) (hn : n < 1000) :
    ∃ a', F_X5_seePiece (q + 6) x y a = some ((), a') ∧ a' (q + 6) 4 = 1 ∧ a' (q + 6) 5 = x ∧ a' (q + 6) 6 = y ∧ a' (q + 6) 7 = 0 ∧ a' (q + 7) 1 = nI (n + 1) ∧
      (∀ c s, (c ≠ q + 6 ∨ (s ≠ 4 ∧ s ≠ 5 ∧ s ≠ 6 ∧ s ≠ 7)) → c ≠ q + 7 → c ≠ q + 8 → a' c s = a c s) := by
  refine ⟨_, rc_see hk (by omega), ?_, ?_, ?_, ?_, ?_, fun c s h1 h2 h3 => ?_⟩ <;> simp (disch := omega) only [rd_n, rd_e]
theorem c_rec {q : Nat} {a : pr_M} {err sk : Int32} (h4 : a (q + 6) 4 = 1) (h5 : a (q + 6) 5 = err) (h6 : a (q + 6) 6 = sk) (h7 : a (q + 6) 7 = 0) {R : Int32} (hR : R = w_R (a (q + 1)) (nu a q) err (a (q + 6) 2)) :
    ∃ a', F_X7_recognizeMark q a = some (if R = 0 then 0 else 1, a') ∧ (R = 0 ∨ R = 1 ∨ R = 2) ∧ a' (q + 6) 7 = R ∧ (¬ R = 0 → a' (q + 6) 8 = (if R = 1 then err else a (q + 6) 2) ∧ a' (q + 6) 9 = (if R = 1 then sk else a (q + 5) 6)) ∧ a' (q + 5) 3 = (if R = 0 then a (q + 5) 3 + 1 else 0) ∧
      (∀ c s, (c ≠ q + 6 ∨ (s ≠ 7 ∧ s ≠ 8 ∧ s ≠ 9)) → (c ≠ q + 5 ∨ s ≠ 3) → a' c s = a c s) := by
  have hR' : R = rv_rec (a (q + 6) 1) (a (q + 6) 3) (rv_abs (a (q + 6) 5 - a (q + 5) 5)) (rv_abs (a (q + 6) 2 - a (q + 5) 5)) (rv_win (a (q + 5) 3) (a (q + 1) 3) (a (q + 5) 4) (a (q + 1) 2)) := by
    rw [h5]; exact hR
  have h3 : R = 0 ∨ R = 1 ∨ R = 2 := by rw [hR']; exact rv_rec_3 _ _ _ _ _
  refine ⟨_, rc_recog h7 hR', h3, ?_, ?_, rd_e ⟨rfl, rfl⟩, fun c s g1 g2 => by rw [rd_n g2, rc_mark_n (by omega)]⟩
  · rw [rd_n (by omega)]
    rcases h3 with e | e | e <;> rw [e]
    · unfold rc_mark; rw [if_pos rfl, h7]
    · exact rc_mark_1.1
    · exact rc_mark_2.1
  · intro h0
    rw [rd_n (by omega), rd_n (by omega)]
    rcases h3 with e | e | e
    · exact absurd e h0
    · rw [e, rc_mark_1.2.1, rc_mark_1.2.2, if_pos rfl, if_pos rfl]; exact ⟨h5, h6⟩
    · rw [e, rc_mark_2.2.1, rc_mark_2.2.2, if_neg (by decide), if_neg (by decide)]; exact ⟨rfl, rfl⟩
theorem c_watch0 {q t s d : Nat} {a : pr_M} (h4 : a 1 4 = nI t) (hs : a (q + 1) 1 = nI s) (hlt : t < s + d) (hs9 : s ≤ 9) (hd9 : d ≤ 9) :
    F_X3_watchUnit 1 q (nI d) a = some ((), pr_up (pr_up a (q + 6) 4 0) (q + 6) 7 0) := by
  have hneg : ¬ (0 : Int32) ≤ nI t - nI s - nI d := by
    rw [ri_ss, nI_add]
    exact Int32.not_le.mpr (pk_sneg (by omega) hlt)
  unfold F_X3_watchUnit F_X5_seeNothing
  rw [rc_set_1, pr_b1_s, h4, hs, if_neg hneg, pr_lt_s, pr_lt_s, pr_bd_s]
set_option maxHeartbeats 4000000 in
theorem c_watch1 {q t s d n : Nat} {a : pr_M} {err sk ch R m k : Int32} (hq : 5 ≤ q) (h4 : a 1 4 = nI t) (hs : a (q + 1) 1 = nI s) (hle : s + d ≤ t) (ht : t < 100) (hlog : a (q + 7) 1 = nI n) (hn : n < 1000)
    (he : err = a (q + 2 + 1) (t - s) - a (5 + 2 + 1) (t - s - d)) (hk : sk = a (q + 2 + 2) (t - s)) (hch : ch = a (1 + 2) (t - s)) (hR : R = w_R (a (q + 1)) (nu a q) err (a (q + 6) 2)) (hm : m = if R = 1 then err else a (q + 6) 2) (hkk : k = if R = 1 then sk else a (q + 5) 6) :
    ∃ a', F_X3_watchUnit 1 q (nI d) a = some ((), a') ∧ a' (q + 6) 4 = 1 ∧ a' (q + 6) 5 = err ∧ a' (q + 6) 6 = sk ∧ a' (q + 6) 7 = R ∧ (¬ R = 0 → a' (q + 6) 8 = m ∧ a' (q + 6) 9 = k) ∧
      (∀ j, j < 13 → nu a' q j = w_N (a (q + 1)) (nu a q) R m k ch j) ∧ a' (q + 5) 7 = w_A (a (q + 1)) (nu a q) R m k (a (q + 5) 7) ∧ a' (q + 5) 8 = w_B (a (q + 1)) (nu a q) R m k (a (q + 5) 8) ∧
      a' (q + 7) 1 = nI (n + 1) ∧ a' (1 + 3) 0 + a' (1 + 3) 2 = a (1 + 3) 0 + a (1 + 3) 2 + 1 ∧
      (∀ c s, (c ≠ q + 2 ∨ (s ≠ 2 ∧ s ≠ 3)) → (c ≠ q + 5 ∨ 8 < s ∨ s = 4) → (c ≠ q + 6 ∨ s < 4) → c ≠ q + 7 → c ≠ q + 8 → c ≠ 1 + 3 → a' c s = a c s) := by
  have e1 : nI t - nI s = nI (t - s) := pk_sub (by omega)
  have e2 : nI (t - s) - nI d = nI (t - s - d) := pk_sub (by omega)
  have hm1 : (t - s) % 128 = t - s := Nat.mod_eq_of_lt (by omega)
  have hm2 : (t - s - d) % 128 = t - s - d := Nat.mod_eq_of_lt (by omega)
  obtain ⟨a1, E1, f4, f5, f6, f7, f71, A1⟩ := c_see (q := q) (x := err) (y := sk) hlog hn
  have n1 : nu a1 q = nu a q := by
    funext j
    match j with
    | 0 | 1 | 2 | 3 | 4 | 5 | 6 | 7 | 8 | 9 | 10 | 11 | 12 => exact A1 _ _ (by omega) (by omega) (by omega)
    | j + 13 => rfl
  have S1 : a1 (q + 1) = a (q + 1) := by
    funext j
    exact A1 _ _ (by omega) (by omega) (by omega)
  obtain ⟨a2, E2, h3, g7, g8, g3, A2⟩ := c_rec (R := R) f4 f5 f6 f7 (by rw [S1, n1, A1 (q + 6) 2 (by omega) (by omega) (by omega)]; exact hR)
  rw [A1 (q + 6) 2 (by omega) (by omega) (by omega), A1 (q + 5) 6 (by omega) (by omega) (by omega), ← hm, ← hkk] at g8
  rw [A1 (q + 5) 3 (by omega) (by omega) (by omega)] at g3
  have A12 : ∀ c s, (c ≠ q + 6 ∨ s < 4) → (c ≠ q + 5 ∨ s ≠ 3) → c ≠ q + 7 → c ≠ q + 8 → a2 c s = a c s := fun c s z1 z2 z3 z4 => by
    rw [A2 c s (by omega) z2, A1 c s (by omega) z3 z4]
  have S2 : a2 (q + 1) = a (q + 1) := by
    funext j
    exact A12 _ _ (by omega) (by omega) (by omega) (by omega)
  have hC0 : F_X3_watchUnit 1 q (nI d) a = pr_bd (F_X7_recognizeMark q a1) fun r19 f20 =>
        if r19 = 0 then (
          pr_lt (pr_up f20 (1 + 3) (Int32.toNatClampNeg 2) ((f20 (1 + 3) (Int32.toNatClampNeg 2)) + 1)) fun f23 =>
          some ((), f23)
        ) else (
          pr_lt (pr_up f20 (1 + 3) (Int32.toNatClampNeg 0) ((f20 (1 + 3) (Int32.toNatClampNeg 0)) + 1)) fun f26 =>
          if (f26 (q + 6) 7) = 2 then (
            pr_lt (pr_up f26 (1 + 3) (Int32.toNatClampNeg 1) ((f26 (1 + 3) (Int32.toNatClampNeg 1)) + 1)) fun f34 =>
            pr_bd (F_X3_control 1 q (f34 (1 + 2) (t - s)) f34) fun u39 f40 =>
            some ((), f40)
          ) else (
            pr_bd (F_X3_control 1 q (f26 (1 + 2) (t - s)) f26) fun u32 f33 =>
            some ((), f33))) := by
    have hl : t - s < 128 := by omega
    have em : nI (t - s) &&& 127 = nI (t - s) := by rw [ri_127 (by omega), hm1]
    unfold F_X3_watchUnit
    rw [rc_set_1, pr_b1_s, h4, hs, e1, e2, if_pos (nI_pos' (by omega)), rc_offset (by omega), pr_b1_s, show F_X4_offsetAt (1 + 1 + 3 + 9 * Int32.toNatClampNeg 0 + 2) (nI (t - s - d)) a = some (a (5 + 2 + 1) ((t - s - d) % 128)) from rc_offset (c := 5 + 2) (by omega), pr_b1_s, rc_skew (by omega), pr_b1_s, hm1, hm2, ← he, ← hk, E1, pr_bd_s]
    simp only [em, pr_gd_i hl (by decide : 128 < 2 ^ 31)]
    simp only [ri_cl (show t - s < 2 ^ 31 by omega)]
  rw [E2, pr_bd_s] at hC0
  by_cases h0 : R = 0
  · rw [if_pos h0] at hC0 g3
    rw [if_pos rfl, pr_lt_s, ri_cl_2] at hC0
    refine ⟨_, hC0, ?_, ?_, ?_, ?_, fun h => absurd h0 h, fun j hj => ?_, ?_, ?_, ?_, ?_, fun c z z1 z2 z3 z4 z5 z6 => ?_⟩
    · rw [rd_n (by omega), A2 _ _ (by omega) (by omega)]; exact f4
    · rw [rd_n (by omega), A2 _ _ (by omega) (by omega)]; exact f5
    · rw [rd_n (by omega), A2 _ _ (by omega) (by omega)]; exact f6
    · rw [rd_n (by omega)]; exact g7
    · rcases k13 hj with rfl | rfl | rfl | rfl | rfl | rfl | rfl | rfl | rfl | rfl | rfl | rfl | rfl <;> simp only [nu, w_N, if_pos h0] <;> rw [rd_n (by omega)]
      case inr.inr.inr.inr.inr.inr.inl => exact g3
      all_goals exact A12 _ _ (by omega) (by omega) (by omega) (by omega)
    · unfold w_A; rw [if_pos h0, rd_n (by omega)]; exact A12 _ _ (by omega) (by omega) (by omega) (by omega)
    · unfold w_B; rw [if_pos h0, rd_n (by omega)]; exact A12 _ _ (by omega) (by omega) (by omega) (by omega)
    · rw [rd_n (by omega), A2 _ _ (by omega) (by omega)]; exact f71
    · rw [rd_n (by omega), rd_e ⟨rfl, rfl⟩, A12 _ _ (by omega) (by omega) (by omega) (by omega), A12 _ _ (by omega) (by omega) (by omega) (by omega), Int32.add_assoc]
    · rw [rd_n (by omega), A12 c z z3 (by omega) z4 z5]
  · rw [if_neg h0] at hC0 g3
    rw [if_neg t10, pr_lt_s, ri_cl_0, ri_cl_1] at hC0
    obtain ⟨g8a, g8b⟩ := g8 h0
    have fin : ∀ a3 : pr_M, (∀ c z, (c ≠ 1 + 3 ∨ (z ≠ 0 ∧ z ≠ 1)) → a3 c z = a2 c z) → a3 (1 + 3) 0 = a2 (1 + 3) 0 + 1 → (∀ C, F_X3_control 1 q (a3 (1 + 2) (t - s)) a3 = some ((), C) → F_X3_watchUnit 1 q (nI d) a = some ((), C)) →
      ∃ a', F_X3_watchUnit 1 q (nI d) a = some ((), a') ∧ a' (q + 6) 4 = 1 ∧ a' (q + 6) 5 = err ∧ a' (q + 6) 6 = sk ∧ a' (q + 6) 7 = R ∧ (¬ R = 0 → a' (q + 6) 8 = m ∧ a' (q + 6) 9 = k) ∧
      (∀ j, j < 13 → nu a' q j = w_N (a (q + 1)) (nu a q) R m k ch j) ∧ a' (q + 5) 7 = w_A (a (q + 1)) (nu a q) R m k (a (q + 5) 7) ∧ a' (q + 5) 8 = w_B (a (q + 1)) (nu a q) R m k (a (q + 5) 8) ∧
      a' (q + 7) 1 = nI (n + 1) ∧ a' (1 + 3) 0 + a' (1 + 3) 2 = a (1 + 3) 0 + a (1 + 3) 2 + 1 ∧
      (∀ c s, (c ≠ q + 2 ∨ (s ≠ 2 ∧ s ≠ 3)) → (c ≠ q + 5 ∨ 8 < s ∨ s = 4) → (c ≠ q + 6 ∨ s < 4) → c ≠ q + 7 → c ≠ q + 8 → c ≠ 1 + 3 → a' c s = a c s) := by
      intro a3 A3 t0 hC
      have A13 : ∀ c z, (c ≠ q + 6 ∨ z < 4) → (c ≠ q + 5 ∨ z ≠ 3) → c ≠ q + 7 → c ≠ q + 8 → (c ≠ 1 + 3 ∨ (z ≠ 0 ∧ z ≠ 1)) → a3 c z = a c z := fun c z z1 z2 z3 z4 z5 => by
        rw [A3 c z z5, A12 c z z1 z2 z3 z4]
      have S3 : a3 (q + 1) = a (q + 1) := by
        funext j
        exact A13 _ _ (by omega) (by omega) (by omega) (by omega) (by omega)
      obtain ⟨a', F1, F2, F3, F4, F5, F6, F7, F8, F9, F10, F11⟩ := c_control (q := q) (a := a3) (m := m) (k := k) (ch := ch) hq (by rw [A3 _ _ (by omega)]; exact g8a) (by rw [A3 _ _ (by omega)]; exact g8b)
      rw [S3] at F2 F3 F4 F5 F6 F7 F8
      simp (disch := omega) only [A13] at F2 F3 F4 F5 F6 F7 F8
      refine ⟨a', hC a' ?_, ?_, ?_, ?_, ?_, fun _ => ⟨?_, ?_⟩, fun j hj => ?_, ?_, ?_, ?_, ?_, fun c z z1 z2 z3 z4 z5 z6 => ?_⟩
      · rw [A13 (1 + 2) (t - s) (by omega) (by omega) (by omega) (by omega) (by omega), ← hch]; exact F1
      · rw [F11 _ _ (by omega) (by omega) (by omega), A3 _ _ (by omega), A2 _ _ (by omega) (by omega)]; exact f4
      · rw [F11 _ _ (by omega) (by omega) (by omega), A3 _ _ (by omega), A2 _ _ (by omega) (by omega)]; exact f5
      · rw [F11 _ _ (by omega) (by omega) (by omega), A3 _ _ (by omega), A2 _ _ (by omega) (by omega)]; exact f6
      · rw [F11 _ _ (by omega) (by omega) (by omega), A3 _ _ (by omega)]; exact g7
      · rw [F11 _ _ (by omega) (by omega) (by omega), A3 _ _ (by omega)]; exact g8a
      · rw [F11 _ _ (by omega) (by omega) (by omega), A3 _ _ (by omega)]; exact g8b
      · have rest : ∀ c z, (c ≠ q + 2 ∨ (z ≠ 2 ∧ z ≠ 3)) → (c ≠ q + 5 ∨ (z ≠ 0 ∧ z ≠ 1 ∧ z ≠ 2 ∧ z ≠ 3 ∧ z ≠ 5 ∧ z ≠ 6 ∧ z ≠ 7 ∧ z ≠ 8)) → (c ≠ q + 6 ∨ z < 4) → c ≠ q + 7 → c ≠ q + 8 → c ≠ 1 + 3 → a' c z = a c z := fun c z z1 z2 z3 z4 z5 z6 => by
          rw [F11 c z z1 (by omega) (by omega), A13 c z z3 (by omega) z4 z5 (by omega)]
        rcases k13 hj with rfl | rfl | rfl | rfl | rfl | rfl | rfl | rfl | rfl | rfl | rfl | rfl | rfl <;> simp only [nu, w_N, if_neg h0]
        · exact F2
        · exact F3
        · exact rest _ _ (by omega) (by omega) (by omega) (by omega) (by omega) (by omega)
        · exact F8
        · exact F4
        · exact F5
        · rw [F11 _ _ (by omega) (by omega) (by omega), A3 _ _ (by omega)]; exact g3
        · exact rest _ _ (by omega) (by omega) (by omega) (by omega) (by omega) (by omega)
        · exact F9
        · exact F10
        · exact rest _ _ (by omega) (by omega) (by omega) (by omega) (by omega) (by omega)
        · exact rest _ _ (by omega) (by omega) (by omega) (by omega) (by omega) (by omega)
        · exact rest _ _ (by omega) (by omega) (by omega) (by omega) (by omega) (by omega)
      · unfold w_A; rw [if_neg h0, F6, F2]; rfl
      · unfold w_B; rw [if_neg h0, F7, F3]; rfl
      · rw [F11 _ _ (by omega) (by omega) (by omega), A3 _ _ (by omega), A2 _ _ (by omega) (by omega)]; exact f71
      · rw [F11 _ _ (by omega) (by omega) (by omega), F11 _ _ (by omega) (by omega) (by omega), t0, A3 (1 + 3) 2 (by omega), A12 _ _ (by omega) (by omega) (by omega) (by omega), A12 _ _ (by omega) (by omega) (by omega) (by omega), i_3]
      · rw [F11 c z z1 (by omega) (by omega), A13 c z z3 (by omega) z4 z5 (by omega)]
    by_cases h2 : R = 2
    · refine fin (pr_up (pr_up a2 (1 + 3) 0 (a2 (1 + 3) 0 + 1)) (1 + 3) 1 (a2 (1 + 3) 1 + 1)) (fun c z h => by rw [rd_n (by omega), rd_n (by omega)]) (by rw [rd_n (by omega), rd_e ⟨rfl, rfl⟩]) (fun C hC => ?_)
      rw [hC0, if_pos (by rw [rd_n (by omega), g7, h2]), pr_lt_s, rd_n (c := 1 + 3) (j := 1) (by omega), hC, pr_bd_s]
    · refine fin (pr_up a2 (1 + 3) 0 (a2 (1 + 3) 0 + 1)) (fun c z h => by rw [rd_n (by omega)]) (rd_e ⟨rfl, rfl⟩) (fun C hC => ?_)
      rw [hC0, if_neg (by rw [rd_n (by omega), g7]; exact h2), hC, pr_bd_s]
