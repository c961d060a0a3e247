/-! ===== the class: a whole repeat ===== -/
def p_off (N : Nat → Int32) (am du pu ch : Int32) : Int32 := N 0 + rv_dis am (N 10) du + (pu - N 3) * ch / 100
def p_sk (N : Nat → Int32) : Int32 := N 2 + N 1
theorem c_print {q t : Nat} {ch : Int32} {a : pr_M} (ht : t < 100) (h : 0 < a (q + 2) 7 → 0 < a (q + 2) 6) : ∃ a', F_X7_printPiece q (nI t) ch a = some ((), a') ∧ a' (q + 2 + 1) t = p_off (nu a q) (a (q + 2) 5) (a (q + 2) 6) (a (q + 1) 10) ch ∧ a' (q + 2 + 2) t = p_sk (nu a q) ∧ (∀ c s, (c ≠ q + 3 ∨ s ≠ t) → (c ≠ q + 4 ∨ s ≠ t) → a' c s = a c s) := by
  refine ⟨_, rc_print (by omega) h, ?_, ?_, fun c s h1 h2 => ?_⟩
  · rw [Nat.mod_eq_of_lt (show t < 128 by omega), rd_n (by omega), rd_e ⟨rfl, rfl⟩]; rfl
  · rw [Nat.mod_eq_of_lt (show t < 128 by omega), rd_e ⟨rfl, rfl⟩]; rfl
  · rw [Nat.mod_eq_of_lt (show t < 128 by omega), rd_n (by omega), rd_n (by omega)]
theorem c_prints {t : Nat} {ch : Int32} {a : pr_M} (h3 : a 1 3 = 2) (h4 : a 1 4 = nI t) (ht : t < 100) (g0 : 0 < a (5 + 2) 7 → 0 < a (5 + 2) 6) (g1 : 0 < a (14 + 2) 7 → 0 < a (14 + 2) 6) :
    ∃ a', L_X3_makeRepeat_29 1 ch pr_fuel 0 a = some ((), a') ∧ a' (5 + 2 + 1) t = p_off (nu a 5) (a (5 + 2) 5) (a (5 + 2) 6) (a (5 + 1) 10) ch ∧ a' (5 + 2 + 2) t = p_sk (nu a 5) ∧
      a' (14 + 2 + 1) t = p_off (nu a 14) (a (14 + 2) 5) (a (14 + 2) 6) (a (14 + 1) 10) ch ∧ a' (14 + 2 + 2) t = p_sk (nu a 14) ∧
      (∀ c s, ((c ≠ 8 ∧ c ≠ 9 ∧ c ≠ 17 ∧ c ≠ 18) ∨ s ≠ t) → a' c s = a c s) := by
  obtain ⟨a1, E1, p1, p2, A1⟩ := c_print (q := 5) (ch := ch) ht g0
  obtain ⟨a2, E2, p3, p4, A2⟩ := c_print (q := 14) (a := a1) (ch := ch) ht (by rw [A1 _ _ (by omega) (by omega), A1 _ _ (by omega) (by omega)]; exact g1)
  have n1 : nu a1 14 = nu a 14 := by
    funext j
    match j with
    | 0 | 1 | 2 | 3 | 4 | 5 | 6 | 7 | 8 | 9 | 10 | 11 | 12 => exact A1 _ _ (by omega) (by omega)
    | j + 13 => rfl
  rw [n1, A1 _ _ (by omega) (by omega), A1 _ _ (by omega) (by omega), A1 _ _ (by omega) (by omega)] at p3
  rw [n1] at p4
  refine ⟨a2, ?_, ?_, ?_, p3, p4, fun c s h => ?_⟩
  · rw [show pr_fuel = 3997 + 1 + 1 + 1 from rfl, L_X3_makeRepeat_29, h3, if_neg (by decide), pr_gdT i_g0, i_u5, h4, E1, pr_bd_s, i_01, L_X3_makeRepeat_29, A1 1 3 (by omega) (by omega), h3, if_neg (by decide), pr_gdT i_g1, i_u14, A1 1 4 (by omega) (by omega), h4, E2, pr_bd_s, i_12, L_X3_makeRepeat_29, A2 1 3 (by omega) (by omega), A1 1 3 (by omega) (by omega), h3, if_pos (by decide)]
  · rw [A2 _ _ (by omega) (by omega)]; exact p1
  · rw [A2 _ _ (by omega) (by omega)]; exact p2
  · rw [A2 _ _ (by omega) (by omega), A1 _ _ (by omega) (by omega)]
theorem c_ends {a : pr_M} {M0 M1 : Nat → Int32} {A B : Int32} (h3 : a 1 3 = 2) (hM0 : ∀ j, j < 13 → nu a 5 j = M0 j) (hM1 : ∀ j, j < 13 → nu a 14 j = M1 j) (hA : a (14 + 5) 7 = A) (hB : a (14 + 5) 8 = B) :
    ∃ a', L_X3_makeRepeat_101 1 pr_fuel 0 a = some ((), a') ∧ (∀ j, j < 13 → nu a' 5 j = eN (a (5 + 5) 7) (a (5 + 5) 8) M0 j) ∧ (∀ j, j < 13 → nu a' 14 j = eN A B M1 j) ∧
      (∀ c s, ((c ≠ 7 ∧ c ≠ 16) ∨ s ≠ 7) → ((c ≠ 11 ∧ c ≠ 20) ∨ (s ≠ 1 ∧ s ≠ 3)) → ((c ≠ 10 ∧ c ≠ 19) ∨ (s ≠ 2 ∧ s ≠ 4 ∧ s ≠ 5 ∧ s ≠ 6)) → a' c s = a c s) := by
  obtain ⟨a1, E1, p1, A1⟩ := c_end (q := 5) hM0 rfl rfl
  have n1 : ∀ j, j < 13 → nu a1 14 j = M1 j := fun j hj => by
    rw [← hM1 j hj]
    rcases k13 hj with rfl | rfl | rfl | rfl | rfl | rfl | rfl | rfl | rfl | rfl | rfl | rfl | rfl <;> exact A1 _ _ (by omega) (by omega) (by omega)
  obtain ⟨a2, E2, p2, A2⟩ := c_end (q := 14) (A := A) (B := B) n1 (by rw [A1 _ _ (by omega) (by omega) (by omega)]; exact hA) (by rw [A1 _ _ (by omega) (by omega) (by omega)]; exact hB)
  refine ⟨a2, ?_, fun j hj => ?_, p2, fun c s h1 h2 h3 => ?_⟩
  · rw [show pr_fuel = 3997 + 1 + 1 + 1 from rfl, L_X3_makeRepeat_101, h3, if_neg (by decide), pr_gdT i_g0, i_u5, E1, pr_bd_s, i_01, L_X3_makeRepeat_101, A1 1 3 (by omega) (by omega) (by omega), h3, if_neg (by decide), pr_gdT i_g1, i_u14, E2, pr_bd_s, i_12, L_X3_makeRepeat_101, A2 1 3 (by omega) (by omega) (by omega), A1 1 3 (by omega) (by omega) (by omega), h3, if_pos (by decide)]
  · rw [← p1 j hj]
    rcases k13 hj with rfl | rfl | rfl | rfl | rfl | rfl | rfl | rfl | rfl | rfl | rfl | rfl | rfl <;> exact A2 _ _ (by omega) (by omega) (by omega)
  · rw [A2 c s (by omega) (by omega) (by omega), A1 c s (by omega) (by omega) (by omega)]
/-- what a repeat leaves alone, and what it does apart from what the sensor of unit 1 sees -/
def r_all (f b a : pr_M) (t : Nat) : Prop :=
  (∀ c s, 50 ≤ c → a c s = f c s) ∧ (a 1 3 = 2 ∧ a 1 4 = nI (t + 1) ∧ a 1 5 = f 1 5 ∧ a 1 6 = f 1 5 ∧ a 1 7 = f 1 7 ∧ a 1 8 = f 1 8 ∧ a 1 9 = f 1 9) ∧ (a (5 + 1) = f (5 + 1) ∧ a (14 + 1) = f (14 + 1)) ∧
  (a (1 + 2) t = f 1 5 - f 1 6 ∧ ∀ j, j ≠ t → a (1 + 2) j = f (1 + 2) j) ∧
  (a (5 + 2 + 1) t = p_off (nu b 5) (b (5 + 2) 5) (b (5 + 2) 6) (f (5 + 1) 10) (f 1 5 - f 1 6) ∧ a (5 + 2 + 2) t = p_sk (nu b 5) ∧ a (14 + 2 + 1) t = p_off (nu b 14) (b (14 + 2) 5) (b (14 + 2) 6) (f (14 + 1) 10) (f 1 5 - f 1 6) ∧ a (14 + 2 + 2) t = p_sk (nu b 14)) ∧
  (∀ j, j ≠ t → a (5 + 2 + 1) j = f (5 + 2 + 1) j ∧ a (14 + 2 + 1) j = f (14 + 2 + 1) j ∧ a (14 + 2 + 2) j = f (14 + 2 + 2) j) ∧
  (∀ j, j < 13 → nu a 5 j = eN (f (5 + 5) 7) (f (5 + 5) 8) (nu b 5) j) ∧ (a (5 + 6) 4 = f (5 + 6) 4 ∧ a (14 + 6) 2 = f (14 + 6) 2 ∧ a (5 + 2) 5 = b (5 + 2) 5 ∧ a (5 + 2) 6 = b (5 + 2) 6 ∧ a (14 + 2) 5 = b (14 + 2) 5 ∧ a (14 + 2) 6 = b (14 + 2) 6 ∧ a (5 + 5) 7 = f (5 + 5) 7 ∧ a (5 + 5) 8 = f (5 + 5) 8)
/-- nothing is seen -/
def r_no (f b a : pr_M) : Prop :=
  (∀ j, j < 13 → nu a 14 j = eN (f (14 + 5) 7) (f (14 + 5) 8) (nu b 14) j) ∧ a (14 + 6) 4 = 0 ∧ a (14 + 5) 7 = f (14 + 5) 7 ∧ a (14 + 5) 8 = f (14 + 5) 8 ∧ a (14 + 7) 1 = f (14 + 7) 1 ∧ a (1 + 3) 0 + a (1 + 3) 2 = f (1 + 3) 0 + f (1 + 3) 2
/-- a piece is seen -/
def r_yes (f b a : pr_M) (err sk ch R m k : Int32) (n : Nat) : Prop :=
  (∀ j, j < 13 → nu a 14 j = eN (w_A (f (14 + 1)) (nu b 14) R m k (f (14 + 5) 7)) (w_B (f (14 + 1)) (nu b 14) R m k (f (14 + 5) 8)) (w_N (f (14 + 1)) (nu b 14) R m k ch) j) ∧
  a (14 + 6) 4 = 1 ∧ a (14 + 6) 5 = err ∧ a (14 + 6) 6 = sk ∧ a (14 + 6) 7 = R ∧ (¬ R = 0 → a (14 + 6) 8 = m ∧ a (14 + 6) 9 = k) ∧
  a (14 + 5) 7 = w_A (f (14 + 1)) (nu b 14) R m k (f (14 + 5) 7) ∧ a (14 + 5) 8 = w_B (f (14 + 1)) (nu b 14) R m k (f (14 + 5) 8) ∧ a (14 + 7) 1 = nI (n + 1) ∧ a (1 + 3) 0 + a (1 + 3) 2 = f (1 + 3) 0 + f (1 + 3) 2 + 1
set_option maxHeartbeats 4000000 in
theorem c_run {t s d n : Nat} {x : Int32} {f : pr_M} (h3 : f 1 3 = 2) (h4 : f 1 4 = nI t) (ht : t < 90) (hd : f (14 + 1) 0 = nI d) (hd1 : 1 ≤ d) (hd9 : d ≤ 9) (hs : f (14 + 1) 1 = nI s) (hs1 : 1 ≤ s) (hs9 : s ≤ 9) (hx : spl f t x) (hlog : f (14 + 7) 1 = nI n) (hn : n < 1000)
    (g0 : 0 < gB x (nI d) f (5 + 2) 7 → 0 < gB x (nI d) f (5 + 2) 6) (g1 : 0 < gB x (nI d) f (14 + 2) 7 → 0 < gB x (nI d) f (14 + 2) 6) :
    ∃ a, F_X8_run 0 1 f = some (nI (t + 1), a) ∧ r_all f (gB x (nI d) f) a t ∧ (t < s + d → r_no f (gB x (nI d) f) a) ∧
      (s + d ≤ t → ∀ err sk ch R m k, err = f (14 + 2 + 1) (t - s) - f (5 + 2 + 1) (t - s - d) → sk = f (14 + 2 + 2) (t - s) → ch = f (1 + 2) (t - s) → R = w_R (f (14 + 1)) (nu (gB x (nI d) f) 14) err (f (14 + 6) 2) → m = (if R = 1 then err else f (14 + 6) 2) → k = (if R = 1 then sk else nu (gB x (nI d) f) 14 9) → r_yes f (gB x (nI d) f) a err sk ch R m k n) := by
  have tm : nI t &&& 127 = nI t := by rw [ri_127 (by omega), Nat.mod_eq_of_lt (by omega)]
  -- the change, then the splice
  generalize hf0 : pr_up f (1 + 2) t (f 1 5 - f 1 6) = f0
  have F0 : ∀ c z, (c ≠ 3 ∨ z ≠ t) → f0 c z = f c z := fun c z hz => by rw [← hf0, rd_n (by omega)]
  have F0t : f0 (1 + 2) t = f 1 5 - f 1 6 := by rw [← hf0, rd_e ⟨rfl, rfl⟩]
  have hx0 : spl f0 t x := by
    unfold spl at hx ⊢
    rw [F0 1 9 (by omega), F0 1 7 (by omega)]
    exact hx
  have eb := c_bring (f := f0) (t := t) (d := d) (x := x) (by rw [F0 _ _ (by omega)]; exact h3) (by rw [F0 _ _ (by omega)]; exact h4) (by rw [F0 _ _ (by omega)]; exact hd) hd1 hd9 (by omega) hx0
  generalize hb : gB x (nI d) f = b at g0 g1 ⊢
  have hb0 : ∀ c z, (c ≠ 3 ∨ z ≠ t) → gB x (nI d) f0 c z = b c z := fun c z hz => by
    rw [← hb]
    have u1 : ∀ q am du (a1 a2 : pr_M), 5 ≤ q → (∀ c z, (c ≠ 3 ∨ z ≠ t) → a1 c z = a2 c z) → ∀ c z, (c ≠ 3 ∨ z ≠ t) → gS q am du a1 c z = gS q am du a2 c z := fun q am du a1 a2 hq h c z hz => by
      have e1 := h (q + 1) 1 (by omega)
      have e9 := h (q + 1) 9 (by omega)
      unfold gS
      rw [e1, e9]
      unfold pr_up
      simp only [h c z hz]
    unfold gB
    rw [F0 1 8 (by omega), F0 1 9 (by omega)]
    have in1 : ∀ c z, (c ≠ 3 ∨ z ≠ t) → (if x = 0 then gS 5 (f 1 8) (f 1 9) f0 else f0) c z = (if x = 0 then gS 5 (f 1 8) (f 1 9) f else f) c z := fun c z hz => by
      by_cases e : x = 0
      · rw [if_pos e, if_pos e]; exact u1 5 _ _ _ _ (by decide) F0 c z hz
      · rw [if_neg e, if_neg e]; exact F0 c z hz
    by_cases e : x = nI d
    · rw [if_pos e, if_pos e]; exact u1 14 _ _ _ _ (by decide) in1 c z hz
    · rw [if_neg e, if_neg e]; exact in1 c z hz
  have hbf : ∀ c z, ((c ≠ 7 ∧ c ≠ 16) ∨ (z ≠ 5 ∧ z ≠ 6 ∧ z ≠ 7)) → ((c ≠ 10 ∧ c ≠ 19) ∨ (z ≠ 1 ∧ z ≠ 4)) → b c z = f c z := fun c z z1 z2 => by rw [← hb]; exact gB_n z1 z2
  have hbt : gB x (nI d) f0 (1 + 2) t = f 1 5 - f 1 6 := by rw [gB_n (by omega) (by omega)]; exact F0t
  generalize gB x (nI d) f0 = b0 at eb hb0 hbt
  have nb : ∀ q, 5 ≤ q → nu b0 q = nu b q := fun q hq => by
    funext j
    match j with
    | 0 | 1 | 2 | 3 | 4 | 5 | 6 | 7 | 8 | 9 | 10 | 11 | 12 => exact hb0 _ _ (by omega)
    | j + 13 => rfl
  -- the prints
  obtain ⟨a1, E1, p1, p2, p3, p4, A1⟩ := c_prints (a := b0) (ch := f 1 5 - f 1 6) (by rw [hb0 _ _ (by omega), hbf _ _ (by omega) (by omega)]; exact h3) (by rw [hb0 _ _ (by omega), hbf _ _ (by omega) (by omega)]; exact h4) (by omega) (by rw [hb0 _ _ (by omega), hb0 _ _ (by omega)]; exact g0) (by rw [hb0 _ _ (by omega), hb0 _ _ (by omega)]; exact g1)
  rw [nb 5 (by decide), hb0 _ _ (by omega), hb0 _ _ (by omega), hb0 _ _ (by omega), hbf (5 + 1) 10 (by omega) (by omega)] at p1
  rw [nb 5 (by decide)] at p2
  rw [nb 14 (by decide), hb0 _ _ (by omega), hb0 _ _ (by omega), hb0 _ _ (by omega), hbf (14 + 1) 10 (by omega) (by omega)] at p3
  rw [nb 14 (by decide)] at p4
  have n1 : ∀ q, (q = 5 ∨ q = 14) → nu a1 q = nu b q := fun q hq => by
    rw [← nb q (by omega)]
    funext j
    match j with
    | 0 | 1 | 2 | 3 | 4 | 5 | 6 | 7 | 8 | 9 | 10 | 11 | 12 => exact A1 _ _ (by omega)
    | j + 13 => rfl
  -- cells that neither splice nor prints touch
  have AF : ∀ c z, ((c ≠ 8 ∧ c ≠ 9 ∧ c ≠ 17 ∧ c ≠ 18 ∧ c ≠ 3) ∨ z ≠ t) → ((c ≠ 7 ∧ c ≠ 16) ∨ (z ≠ 5 ∧ z ≠ 6 ∧ z ≠ 7)) → ((c ≠ 10 ∧ c ≠ 19) ∨ (z ≠ 1 ∧ z ≠ 4)) → a1 c z = f c z := fun c z z1 z2 z3 => by
    rw [A1 c z (by omega), hb0 c z (by omega), hbf c z z2 z3]
  have S1 : a1 (14 + 1) = f (14 + 1) := by
    funext j
    exact AF _ _ (by omega) (by omega) (by omega)
  have a13 : a1 1 3 = 2 := by rw [AF _ _ (by omega) (by omega) (by omega)]; exact h3
  -- the rest, over what the watch leaves
  have fin : ∀ (a2 : pr_M) (M1 : Nat → Int32) (A B : Int32), F_X3_watchUnit 1 14 (nI d) a1 = some ((), a2) → (∀ j, j < 13 → nu a2 14 j = M1 j) → a2 (14 + 5) 7 = A → a2 (14 + 5) 8 = B →
      (∀ c z, (c ≠ 16 ∨ (z ≠ 2 ∧ z ≠ 3)) → (c ≠ 19 ∨ 8 < z ∨ z = 4) → (c ≠ 20 ∨ z < 4) → c ≠ 21 → c ≠ 22 → c ≠ 4 → a2 c z = a1 c z) →
      ∃ a, F_X8_run 0 1 f = some (nI (t + 1), a) ∧ r_all f b a t ∧ (∀ j, j < 13 → nu a 14 j = eN A B M1 j) ∧ a (14 + 5) 7 = A ∧ a (14 + 5) 8 = B ∧ (∀ z, 4 ≤ z → a (14 + 6) z = a2 (14 + 6) z) ∧ a (14 + 7) 1 = a2 (14 + 7) 1 ∧ (∀ z, a (1 + 3) z = a2 (1 + 3) z) := by
    intro a2 M1 A B E2 hM hA hB A2
    have n2 : ∀ j, j < 13 → nu a2 5 j = nu b 5 j := fun j hj => by
      rw [← n1 5 (Or.inl rfl)]
      rcases k13 hj with rfl | rfl | rfl | rfl | rfl | rfl | rfl | rfl | rfl | rfl | rfl | rfl | rfl <;> exact A2 _ _ (by omega) (by omega) (by omega) (by omega) (by omega) (by omega)
    have a23 : a2 1 3 = 2 := by rw [A2 _ _ (by omega) (by omega) (by omega) (by omega) (by omega) (by omega)]; exact a13
    obtain ⟨a3, E3, q1, q2, A3⟩ := c_ends (a := a2) a23 n2 hM hA hB
    have A23 : ∀ c z, (c ≠ 16 ∨ (z ≠ 2 ∧ z ≠ 3 ∧ z ≠ 7)) → (c ≠ 7 ∨ z ≠ 7) → (c ≠ 11 ∨ (z ≠ 1 ∧ z ≠ 3)) → (c ≠ 10 ∨ (z ≠ 2 ∧ z ≠ 4 ∧ z ≠ 5 ∧ z ≠ 6)) → (c ≠ 19 ∨ 8 < z) → (c ≠ 20 ∨ (z < 4 ∧ z ≠ 1 ∧ z ≠ 3)) → c ≠ 21 → c ≠ 22 → c ≠ 4 → a3 c z = a1 c z := fun c z z1 z2 z3 z4 z5 z6 z7 z8 z9 => by
      rw [A3 c z (by omega) (by omega) (by omega), A2 c z (by omega) (by omega) (by omega) z7 z8 z9]
    have e5 : a3 1 5 = f 1 5 := by rw [A23 _ _ (by omega) (by omega) (by omega) (by omega) (by omega) (by omega) (by omega) (by omega) (by omega), AF _ _ (by omega) (by omega) (by omega)]
    have e4 : a3 1 4 = nI t := by rw [A23 _ _ (by omega) (by omega) (by omega) (by omega) (by omega) (by omega) (by omega) (by omega) (by omega), AF _ _ (by omega) (by omega) (by omega)]; exact h4
    have eW : L_X3_makeRepeat_61 1 pr_fuel 0 1 a1 = some ((), a2) := by
      rw [show pr_fuel = 3998 + 1 + 1 from rfl, L_X3_makeRepeat_61, a13, if_neg (by decide), pr_gdT i_g1, i_u14, rc_set_0, pr_b1_s, S1, hd, Int32.zero_add, E2, pr_bd_s, i_12, L_X3_makeRepeat_61, a23, if_pos (by decide)]
    have eM : F_X3_makeRepeat 1 f = some ((), pr_up (pr_up a3 1 6 (f 1 5)) 1 4 (nI (t + 1))) := by
      unfold F_X3_makeRepeat
      rw [h4, tm, pr_gd_i (by omega) (by decide), ri_cl (by omega), pr_lt_s, hf0, eb, pr_bd_s, E1, pr_bd_s, eW, pr_bd_s, E3, pr_bd_s, pr_lt_s, pr_lt_s, e5, rd_n (by omega), e4, nI_1]
    have eR : F_X8_run 0 1 f = some (nI (t + 1), pr_up (pr_up a3 1 6 (f 1 5)) 1 4 (nI (t + 1))) := by
      unfold F_X8_run
      rw [rc_outside, if_neg (by decide), if_pos (by decide), pr_b1_s, if_pos rfl, Nat.zero_add, h4, nI_1, if_pos (show nI (t + 1) ≤ 100000 from nI_le (b := 100000) (by omega) (by decide)), show pr_fuel = 3998 + 1 + 1 from rfl, L_X8_run_33, if_neg (by decide), Nat.zero_add, eM, pr_bd_s, i_01, L_X8_run_33, if_pos (by decide), pr_bd_s, rd_e ⟨rfl, rfl⟩]
    have U : ∀ c z, (c ≠ 1 ∨ (z ≠ 6 ∧ z ≠ 4)) → (pr_up (pr_up a3 1 6 (f 1 5)) 1 4 (nI (t + 1))) c z = a3 c z := fun c z hz => by rw [rd_n (by omega), rd_n (by omega)]
    have UF : ∀ c z, (c ≠ 1 ∨ (z ≠ 6 ∧ z ≠ 4)) → (c ≠ 16 ∨ (z ≠ 2 ∧ z ≠ 3 ∧ z ≠ 5 ∧ z ≠ 6 ∧ z ≠ 7)) → (c ≠ 7 ∨ (z ≠ 5 ∧ z ≠ 6 ∧ z ≠ 7)) → (c ≠ 11 ∨ (z ≠ 1 ∧ z ≠ 3)) → (c ≠ 10 ∨ z = 0 ∨ z = 3 ∨ 6 < z) → (c ≠ 19 ∨ 8 < z) → (c ≠ 20 ∨ (z < 4 ∧ z ≠ 1 ∧ z ≠ 3)) → c ≠ 21 → c ≠ 22 → c ≠ 4 → ((c ≠ 8 ∧ c ≠ 9 ∧ c ≠ 17 ∧ c ≠ 18 ∧ c ≠ 3) ∨ z ≠ t) → (pr_up (pr_up a3 1 6 (f 1 5)) 1 4 (nI (t + 1))) c z = f c z := fun c z z0 z1 z2 z3 z4 z5 z6 z7 z8 z9 z10 => by
      rw [U c z z0, A23 c z (by omega) (by omega) (by omega) (by omega) (by omega) (by omega) z7 z8 z9, AF c z z10 (by omega) (by omega)]
    have UA : ∀ c z, (c = 8 ∨ c = 9 ∨ c = 17 ∨ c = 18) → (pr_up (pr_up a3 1 6 (f 1 5)) 1 4 (nI (t + 1))) c z = a1 c z := fun c z hc => by
      rw [U c z (by omega), A23 c z (by omega) (by omega) (by omega) (by omega) (by omega) (by omega) (by omega) (by omega) (by omega)]
    have UB : ∀ c z, (c = 7 ∨ c = 16) → (z = 5 ∨ z = 6) → (pr_up (pr_up a3 1 6 (f 1 5)) 1 4 (nI (t + 1))) c z = b c z := fun c z hc hz => by
      rw [U c z (by omega), A23 c z (by omega) (by omega) (by omega) (by omega) (by omega) (by omega) (by omega) (by omega) (by omega), A1 c z (by omega), hb0 c z (by omega)]
    refine ⟨_, eR, ⟨fun c z hc => ?_, ⟨?_, rd_e ⟨rfl, rfl⟩, ?_, ?_, ?_, ?_, ?_⟩, ⟨?_, ?_⟩, ⟨?_, fun j hj => ?_⟩, ⟨?_, ?_, ?_, ?_⟩, fun j hj => ⟨?_, ?_, ?_⟩, fun j hj => ?_, ?_, ?_, ?_, ?_, ?_, ?_, ?_, ?_⟩, fun j hj => ?_, ?_, ?_, fun z hz => ?_, ?_, fun z => ?_⟩
    · exact UF c z (by omega) (by omega) (by omega) (by omega) (by omega) (by omega) (by omega) (by omega) (by omega) (by omega) (by omega)
    · rw [UF 1 3 (by omega) (by omega) (by omega) (by omega) (by omega) (by omega) (by omega) (by omega) (by omega) (by omega) (by omega)]; exact h3
    · exact UF 1 5 (by omega) (by omega) (by omega) (by omega) (by omega) (by omega) (by omega) (by omega) (by omega) (by omega) (by omega)
    · rw [rd_n (by omega), rd_e ⟨rfl, rfl⟩]
    · exact UF 1 7 (by omega) (by omega) (by omega) (by omega) (by omega) (by omega) (by omega) (by omega) (by omega) (by omega) (by omega)
    · exact UF 1 8 (by omega) (by omega) (by omega) (by omega) (by omega) (by omega) (by omega) (by omega) (by omega) (by omega) (by omega)
    · exact UF 1 9 (by omega) (by omega) (by omega) (by omega) (by omega) (by omega) (by omega) (by omega) (by omega) (by omega) (by omega)
    · funext j
      exact UF _ _ (by omega) (by omega) (by omega) (by omega) (by omega) (by omega) (by omega) (by omega) (by omega) (by omega) (by omega)
    · funext j
      exact UF _ _ (by omega) (by omega) (by omega) (by omega) (by omega) (by omega) (by omega) (by omega) (by omega) (by omega) (by omega)
    · rw [U _ _ (by omega), A23 _ _ (by omega) (by omega) (by omega) (by omega) (by omega) (by omega) (by omega) (by omega) (by omega), A1 _ _ (by omega)]; exact hbt
    · exact UF _ _ (by omega) (by omega) (by omega) (by omega) (by omega) (by omega) (by omega) (by omega) (by omega) (by omega) (by omega)
    · rw [UA _ _ (by omega)]; exact p1
    · rw [UA _ _ (by omega)]; exact p2
    · rw [UA _ _ (by omega)]; exact p3
    · rw [UA _ _ (by omega)]; exact p4
    · exact UF _ _ (by omega) (by omega) (by omega) (by omega) (by omega) (by omega) (by omega) (by omega) (by omega) (by omega) (by omega)
    · exact UF _ _ (by omega) (by omega) (by omega) (by omega) (by omega) (by omega) (by omega) (by omega) (by omega) (by omega) (by omega)
    · exact UF _ _ (by omega) (by omega) (by omega) (by omega) (by omega) (by omega) (by omega) (by omega) (by omega) (by omega) (by omega)
    · have e7 : a2 (5 + 5) 7 = f (5 + 5) 7 := by rw [A2 _ _ (by omega) (by omega) (by omega) (by omega) (by omega) (by omega), AF _ _ (by omega) (by omega) (by omega)]
      have e8 : a2 (5 + 5) 8 = f (5 + 5) 8 := by rw [A2 _ _ (by omega) (by omega) (by omega) (by omega) (by omega) (by omega), AF _ _ (by omega) (by omega) (by omega)]
      rw [← e7, ← e8, ← q1 j hj]
      rcases k13 hj with rfl | rfl | rfl | rfl | rfl | rfl | rfl | rfl | rfl | rfl | rfl | rfl | rfl <;> exact U _ _ (by omega)
    · exact UF _ _ (by omega) (by omega) (by omega) (by omega) (by omega) (by omega) (by omega) (by omega) (by omega) (by omega) (by omega)
    · exact UF _ _ (by omega) (by omega) (by omega) (by omega) (by omega) (by omega) (by omega) (by omega) (by omega) (by omega) (by omega)
    · exact UB _ _ (by omega) (by omega)
    · exact UB _ _ (by omega) (by omega)
    · exact UB _ _ (by omega) (by omega)
    · exact UB _ _ (by omega) (by omega)
    · exact UF _ _ (by omega) (by omega) (by omega) (by omega) (by omega) (by omega) (by omega) (by omega) (by omega) (by omega) (by omega)
    · exact UF _ _ (by omega) (by omega) (by omega) (by omega) (by omega) (by omega) (by omega) (by omega) (by omega) (by omega) (by omega)
    · rw [← q2 j hj]
      rcases k13 hj with rfl | rfl | rfl | rfl | rfl | rfl | rfl | rfl | rfl | rfl | rfl | rfl | rfl <;> exact U _ _ (by omega)
    · rw [U _ _ (by omega), A3 _ _ (by omega) (by omega) (by omega)]; exact hA
    · rw [U _ _ (by omega), A3 _ _ (by omega) (by omega) (by omega)]; exact hB
    · rw [U _ _ (by omega), A3 _ _ (by omega) (by omega) (by omega)]
    · rw [U _ _ (by omega), A3 _ _ (by omega) (by omega) (by omega)]
    · rw [U _ _ (by omega), A3 _ _ (by omega) (by omega) (by omega)]
  have a14 : a1 1 4 = nI t := by rw [AF _ _ (by omega) (by omega) (by omega)]; exact h4
  have a1s : a1 (14 + 1) 1 = nI s := by rw [S1]; exact hs
  have a57 : a1 (14 + 5) 7 = f (14 + 5) 7 := AF _ _ (by omega) (by omega) (by omega)
  have a58 : a1 (14 + 5) 8 = f (14 + 5) 8 := AF _ _ (by omega) (by omega) (by omega)
  by_cases hsee : t < s + d
  · have E2 := c_watch0 (q := 14) a14 a1s hsee hs9 hd9
    obtain ⟨a, R1, R2, R3, R4, R5, R6, R7, R8⟩ := fin _ (nu b 14) (f (14 + 5) 7) (f (14 + 5) 8) E2 (fun j hj => by
      rw [← n1 14 (Or.inr rfl)]
      rcases k13 hj with rfl | rfl | rfl | rfl | rfl | rfl | rfl | rfl | rfl | rfl | rfl | rfl | rfl <;> simp only [nu] <;> simp (disch := omega) only [rd_n]) (by rw [rd_n (by omega), rd_n (by omega)]; exact a57) (by rw [rd_n (by omega), rd_n (by omega)]; exact a58) (fun c z z1 z2 z3 z4 z5 z6 => by rw [rd_n (by omega), rd_n (by omega)])
    refine ⟨a, R1, R2, fun _ => ⟨R3, ?_, R4, R5, ?_, ?_⟩, fun h => absurd h (by omega)⟩
    · rw [R6 4 (by decide), rd_n (by omega), rd_e ⟨rfl, rfl⟩]
    · rw [R7, rd_n (by omega), rd_n (by omega), AF _ _ (by omega) (by omega) (by omega)]
    · rw [R8, R8, rd_n (by omega), rd_n (by omega), rd_n (by omega), rd_n (by omega), AF _ _ (by omega) (by omega) (by omega), AF _ _ (by omega) (by omega) (by omega)]
  · have hle : s + d ≤ t := by omega
    have ef : a1 (14 + 6) 2 = f (14 + 6) 2 := AF _ _ (by omega) (by omega) (by omega)
    have e86 : nu (gB x (nI d) f) 14 9 = a1 (14 + 5) 6 := by rw [hb, ← n1 14 (Or.inr rfl)]; rfl
    obtain ⟨a2, E2, w1, w2, w3, w4, w5, w6, w7, w8, w9, w10, A2⟩ := c_watch1 (q := 14) (a := a1) (err := f (14 + 2 + 1) (t - s) - f (5 + 2 + 1) (t - s - d)) (sk := f (14 + 2 + 2) (t - s)) (ch := f (1 + 2) (t - s)) (by decide) a14 a1s hle (by omega) (n := n) (by rw [AF _ _ (by omega) (by omega) (by omega)]; exact hlog) hn
      (by rw [AF _ _ (by omega) (by omega) (by omega), AF _ _ (by omega) (by omega) (by omega)]) (by rw [AF _ _ (by omega) (by omega) (by omega)]) (by rw [AF _ _ (by omega) (by omega) (by omega)]) rfl rfl rfl
    rw [S1, n1 14 (Or.inr rfl), ef] at w4 w5 w6 w7 w8
    rw [a57] at w7
    rw [a58] at w8
    obtain ⟨a, R1, R2, R3, R4, R5, R6, R7, R8⟩ := fin a2 _ _ _ E2 w6 w7 w8 A2
    refine ⟨a, R1, R2, fun h => absurd h (by omega), fun _ err sk ch R m k he hk hch hR hm hkk => ?_⟩
    rw [← hb, e86] at hkk
    subst he hk hch
    subst hR
    subst hm
    subst hkk
    refine ⟨R3, ?_, ?_, ?_, ?_, fun h0 => ⟨?_, ?_⟩, R4, R5, ?_, ?_⟩
    · rw [R6 4 (by decide)]; exact w1
    · rw [R6 5 (by decide)]; exact w2
    · rw [R6 6 (by decide)]; exact w3
    · rw [R6 7 (by decide)]; exact w4
    · rw [R6 8 (by decide)]; exact (w5 h0).1
    · rw [R6 9 (by decide)]; exact (w5 h0).2
    · rw [R7]; exact w9
    · rw [R8, R8, w10, AF _ _ (by omega) (by omega) (by omega), AF _ _ (by omega) (by omega) (by omega)]
