/-! ===== a copy of a press ===== -/
theorem cp_i {g h : Nat → Int32} {n i : Nat} (hi : i < n) : va_cpy g h 0 0 n i = g i := by
  rw [pk_cpy_in (Nat.zero_le _) (by omega), Nat.zero_add, Nat.sub_zero]
theorem rd_r {f : pr_M} {c x j : Nat} {g : Nat → Int32} (h : x ≠ c) : pr_rw f c g x j = f x j := by rw [pr_rw_ne h]
theorem rd_s {f : pr_M} {c j : Nat} {g : Nat → Int32} : pr_rw f c g c j = g j := by rw [pr_rw_eq]
theorem cp_ur {f : pr_M} {c x s : Nat} {v : Int32} (h : x ≠ c) : pr_up f c s v x = f x := by
  funext j
  exact rd_n (Or.inl h)
theorem cp_X0 {c p : Nat} (h : c ≠ p) (f : pr_M) : ∃ f', F_X0_copyFrom c p f = some ((), f') ∧ (∀ j, j ≤ 8 → f' c j = f p j) ∧ (∀ x s, x ≠ c → f' x s = f x s) := by
  have e : F_X0_copyFrom c p f = some ((), pr_up (pr_up (pr_up (pr_up (pr_up (pr_up (pr_up (pr_up (pr_up f c 0 (f p 0)) c 1 (f p 1)) c 2 (f p 2)) c 3 (f p 3)) c 4 (f p 4)) c 5 (f p 5)) c 6 (f p 6)) c 7 (f p 7)) c 8 (f p 8)) := by
    unfold F_X0_copyFrom
    simp (disch := omega) only [pr_lt_s, rd_n]
  refine ⟨_, e, fun j hj => ?_, fun x s hx => by simp (disch := omega) only [rd_n]⟩
  rcases (show j = 0 ∨ j = 1 ∨ j = 2 ∨ j = 3 ∨ j = 4 ∨ j = 5 ∨ j = 6 ∨ j = 7 ∨ j = 8 by omega) with rfl | rfl | rfl | rfl | rfl | rfl | rfl | rfl | rfl <;> simp (disch := omega) only [rd_n, rd_e]
theorem cp_X1 {c p : Nat} (h : c + 2 ≤ p ∨ p + 2 ≤ c) (f : pr_M) : ∃ f', F_X1_copyFrom c p f = some ((), f') ∧ f' c 1 = f p 1 ∧ (∀ i, i < 64 → f' (c + 1) i = f (p + 1) i) ∧ (∀ x s, x ≠ c → x ≠ c + 1 → f' x s = f x s) := by
  unfold F_X1_copyFrom
  rw [ri_cl_0, ri_cl_64, pr_lt_s, pr_lt_s]
  refine ⟨_, rfl, ?_, fun i hi => ?_, fun x s h1 h2 => ?_⟩
  · rw [rd_e ⟨rfl, rfl⟩, rd_r (by omega)]
  · rw [rd_n (by omega), rd_s, cp_i hi]
  · rw [rd_n (by omega), rd_r h2]
theorem cp_X4 {c p : Nat} (h : c + 3 ≤ p ∨ p + 3 ≤ c) (f : pr_M) : ∃ f', F_X4_copyFrom c p f = some ((), f') ∧ (∀ j, 2 ≤ j → j ≤ 7 → f' c j = f p j) ∧ (∀ i, i < 128 → f' (c + 1) i = f (p + 1) i ∧ f' (c + 2) i = f (p + 2) i) ∧ (∀ x s, (x < c ∨ c + 3 ≤ x) → f' x s = f x s) := by
  obtain ⟨f7, h7⟩ : ∃ f7, f7 = pr_rw (pr_rw f (c + 1) (va_cpy (f (p + 1)) (f (c + 1)) 0 0 128)) (c + 2) (va_cpy ((pr_rw f (c + 1) (va_cpy (f (p + 1)) (f (c + 1)) 0 0 128)) (p + 2)) ((pr_rw f (c + 1) (va_cpy (f (p + 1)) (f (c + 1)) 0 0 128)) (c + 2)) 0 0 128) := ⟨_, rfl⟩
  have e : F_X4_copyFrom c p f = some ((), pr_up (pr_up (pr_up (pr_up (pr_up (pr_up f7 c 2 (f7 p 2)) c 3 (f7 p 3)) c 4 (f7 p 4)) c 5 (f7 p 5)) c 6 (f7 p 6)) c 7 (f7 p 7)) := by
    unfold F_X4_copyFrom
    rw [ri_cl_0, ri_cl_128, pr_lt_s, pr_lt_s, ← h7]
    simp (disch := omega) only [pr_lt_s, rd_n]
  have F7 : ∀ x s, x ≠ c + 1 → x ≠ c + 2 → f7 x s = f x s := fun x s h1 h2 => by rw [h7, rd_r h2, rd_r h1]
  refine ⟨_, e, fun j h1 h2 => ?_, fun i hi => ⟨?_, ?_⟩, fun x s hx => ?_⟩
  · rw [← F7 p j (by omega) (by omega)]
    rcases (show j = 2 ∨ j = 3 ∨ j = 4 ∨ j = 5 ∨ j = 6 ∨ j = 7 by omega) with rfl | rfl | rfl | rfl | rfl | rfl <;> simp (disch := omega) only [rd_n, rd_e]
  · simp (disch := omega) only [rd_n]
    rw [h7, rd_r (by omega), rd_s, cp_i hi]
  · simp (disch := omega) only [rd_n]
    rw [h7, rd_s, cp_i hi, rd_r (by omega)]
  · simp (disch := omega) only [rd_n]
    exact F7 x s (by omega) (by omega)
theorem cp_X5 {c p : Nat} (h : c + 3 ≤ p ∨ p + 3 ≤ c) (f : pr_M) (h4 : f p 4 = 0 ∨ f p 4 = 1) : ∃ f', F_X5_copyFrom c p f = some ((), f') ∧ (∀ j, 1 ≤ j → j ≤ 9 → f' c j = f p j) ∧ f' (c + 1) 1 = f (p + 1) 1 ∧ (∀ i, i < 64 → f' (c + 2) i = f (p + 2) i) ∧ (∀ x s, (x < c ∨ c + 3 ≤ x) → f' x s = f x s) := by
  obtain ⟨f5, e1, e2, e3, e4⟩ := cp_X1 (c := c + 1) (p := p + 1) (by omega) f
  have P4 : f5 p 4 = 0 ∨ f5 p 4 = 1 := by rw [e4 p 4 (by omega) (by omega)]; exact h4
  have e : F_X5_copyFrom c p f = some ((), pr_up (pr_up (pr_up (pr_up (pr_up (pr_up (pr_up (pr_up (pr_up f5 c 1 (f5 p 1)) c 2 (f5 p 2)) c 3 (f5 p 3)) c 4 (f5 p 4)) c 5 (f5 p 5)) c 6 (f5 p 6)) c 7 (f5 p 7)) c 8 (f5 p 8)) c 9 (f5 p 9)) := by
    unfold F_X5_copyFrom pr_gd
    rw [e1, pr_bd_s]
    simp (disch := omega) only [pr_lt_s, rd_n, if_pos P4]
  refine ⟨_, e, fun j h1 h2 => ?_, ?_, fun i hi => ?_, fun x s hx => ?_⟩
  · rw [← e4 p j (by omega) (by omega)]
    rcases (show j = 1 ∨ j = 2 ∨ j = 3 ∨ j = 4 ∨ j = 5 ∨ j = 6 ∨ j = 7 ∨ j = 8 ∨ j = 9 by omega) with rfl | rfl | rfl | rfl | rfl | rfl | rfl | rfl | rfl <;> simp (disch := omega) only [rd_n, rd_e]
  · simp (disch := omega) only [rd_n]; exact e2
  · simp (disch := omega) only [rd_n]; exact e3 i hi
  · simp (disch := omega) only [rd_n]; exact e4 x s (by omega) (by omega)
/-- what a copy of a unit keeps -/
def cp_U (U U' : Nat → Nat → Int32) : Prop := (∀ j, j < 11 → U' 1 j = U 1 j) ∧ (∀ s, 2 ≤ s → s ≤ 7 → U' 2 s = U 2 s) ∧ (∀ i, i < 128 → U' 3 i = U 3 i ∧ U' 4 i = U 4 i) ∧ (∀ s, s ≤ 8 → U' 5 s = U 5 s) ∧ (∀ s, 1 ≤ s → s ≤ 9 → U' 6 s = U 6 s) ∧ U' 7 1 = U 7 1 ∧ (∀ i, i < 64 → U' 8 i = U 8 i)
theorem cp_X7 {c p : Nat} (h : c + 9 ≤ p ∨ p + 9 ≤ c) (f : pr_M) (h4 : f (p + 6) 4 = 0 ∨ f (p + 6) 4 = 1) : ∃ f', F_X7_copyFrom c p f = some ((), f') ∧ cp_U (ru_U f p) (ru_U f' c) ∧ fr_C f f' c := by
  obtain ⟨f3, h3⟩ : ∃ f3, f3 = pr_rw f (c + 1) (va_cpy (f (p + 1)) (f (c + 1)) 0 0 11) := ⟨_, rfl⟩
  have F3 : ∀ x s, x ≠ c + 1 → f3 x s = f x s := fun x s hx => by rw [h3, rd_r hx]
  obtain ⟨f9, a1, a2, a3, a4⟩ := cp_X4 (c := c + 2) (p := p + 2) (by omega) f3
  obtain ⟨f14, b1, b2, b3⟩ := cp_X0 (c := c + 5) (p := p + 5) (by omega) f9
  obtain ⟨f19, d1, d2, d3, d4, d5⟩ := cp_X5 (c := c + 6) (p := p + 6) (by omega) f14 (by rw [b3 _ _ (by omega), a4 _ _ (by omega), F3 _ _ (by omega)]; exact h4)
  unfold F_X7_copyFrom
  rw [ri_cl_0, show Int32.toNatClampNeg 11 = 11 by decide +kernel, pr_lt_s, ← h3, a1, pr_bd_s, b1, pr_bd_s, d1, pr_bd_s]
  refine ⟨_, rfl, ⟨fun j hj => ?_, fun s g1 g2 => ?_, fun i hi => ⟨?_, ?_⟩, fun s hs => ?_, fun s g1 g2 => ?_, ?_, fun i hi => ?_⟩, fun x s hx => ?_⟩ <;> (try dsimp only [ru_U])
  · rw [d5 _ _ (by omega), b3 _ _ (by omega), a4 _ _ (by omega), h3, rd_s, cp_i hj]
  · rw [d5 _ _ (by omega), b3 _ _ (by omega), a2 s g1 g2, F3 _ _ (by omega)]
  · rw [d5 _ _ (by omega), b3 _ _ (by omega), show c + 3 = c + 2 + 1 from rfl, (a3 i hi).1, F3 _ _ (by omega)]
  · rw [d5 _ _ (by omega), b3 _ _ (by omega), show c + 4 = c + 2 + 2 from rfl, (a3 i hi).2, F3 _ _ (by omega)]
  · rw [d5 _ _ (by omega), b2 s hs, a4 _ _ (by omega), F3 _ _ (by omega)]
  · rw [d2 s g1 g2, b3 _ _ (by omega), a4 _ _ (by omega), F3 _ _ (by omega)]
  · rw [show c + 7 = c + 6 + 1 from rfl, d3, b3 _ _ (by omega), a4 _ _ (by omega), F3 _ _ (by omega)]
  · rw [show c + 8 = c + 6 + 2 from rfl, d4 i hi, b3 _ _ (by omega), a4 _ _ (by omega), F3 _ _ (by omega)]
  · rw [d5 _ _ (by omega), b3 _ _ (by omega), a4 _ _ (by omega), F3 _ _ (by omega)]
theorem cp_U_r {U U' W : Nat → Nat → Int32} (h : cp_U U W) (e : ∀ j s, j < 9 → U' j s = W j s) : cp_U U U' := by
  obtain ⟨h1, h2, h3, h4, h5, h6, h7⟩ := h
  exact ⟨fun j hj => by rw [e 1 _ (by decide)]; exact h1 j hj, fun s g1 g2 => by rw [e 2 _ (by decide)]; exact h2 s g1 g2, fun i hi => by rw [e 3 _ (by decide), e 4 _ (by decide)]; exact h3 i hi, fun s hs => by rw [e 5 _ (by decide)]; exact h4 s hs, fun s g1 g2 => by rw [e 6 _ (by decide)]; exact h5 s g1 g2, by rw [e 7 _ (by decide)]; exact h6, fun i hi => by rw [e 8 _ (by decide)]; exact h7 i hi⟩
theorem cp_U_l {U U' W : Nat → Nat → Int32} (h : cp_U W U') (e : ∀ j s, j < 9 → W j s = U j s) : cp_U U U' := by
  obtain ⟨h1, h2, h3, h4, h5, h6, h7⟩ := h
  exact ⟨fun j hj => by rw [← e 1 _ (by decide)]; exact h1 j hj, fun s g1 g2 => by rw [← e 2 _ (by decide)]; exact h2 s g1 g2, fun i hi => by rw [← e 3 _ (by decide), ← e 4 _ (by decide)]; exact h3 i hi, fun s hs => by rw [← e 5 _ (by decide)]; exact h4 s hs, fun s g1 g2 => by rw [← e 6 _ (by decide)]; exact h5 s g1 g2, by rw [← e 7 _ (by decide)]; exact h6, fun i hi => by rw [← e 8 _ (by decide)]; exact h7 i hi⟩
theorem ru_k_cp {U U' : Nat → Nat → Int32} {V : Nat → Int32} {t T : Nat} (h : ru_k U V t T) (c : cp_U U U') : ru_k U' V t T := by
  obtain ⟨⟨a1, a2, a3, a4⟩, hb, hc, ⟨k, l1, l2, l3, l4⟩, hr, ho⟩ := h
  obtain ⟨c1, c2, c3, c5, c6, c7, c8⟩ := c
  refine ⟨⟨fun j hj => ?_, ?_, ?_, ?_⟩, ?_, hc, ⟨k, ?_, l2, l3, fun j h1 h2 => ?_⟩, fun i h1 h2 => ?_, ho⟩
  · rw [c1 j hj]; exact a1 j hj
  · simp (disch := decide) only [c2]; exact a2
  · simp (disch := decide) only [c5]; exact a3
  · simp (disch := decide) only [c6]; exact a4
  · unfold ru_b; simp (disch := decide) only [c5]; exact hb
  · rw [c7]; exact l1
  · rw [c8 _ (Nat.mod_lt _ (by decide))]; exact l4 j h1 h2
  · rw [(c3 i h1).1, (c3 i h1).2]; exact hr i h1 h2
theorem ru_s_cp {U U' : Nat → Nat → Int32} {V : Nat → Int32} (h : ru_s U V) (c : cp_U U U') : ru_s U' V := by
  obtain ⟨c1, c2, c3, c5, c6, c7, c8⟩ := c
  unfold ru_s at h ⊢
  simp (disch := decide) only [c6]
  exact h
theorem cp_units {p q n : Nat} (hpq : p + 49 ≤ q ∨ q + 49 ≤ p) (hn5 : n ≤ 5) : ∀ (m i N : Nat) (a : pr_M), i + m = n → m < N → a p 3 = nI n → (∀ u, u < n → a (uq q u + 6) 4 = 0 ∨ a (uq q u + 6) 4 = 1) → (∀ u, u < i → cp_U (ru_U a (uq q u)) (ru_U a (uq p u))) →
    ∃ a', L_X3_copyFrom_89 p q N (nI i) a = some ((), a') ∧ (∀ u, u < n → cp_U (ru_U a (uq q u)) (ru_U a' (uq p u))) ∧ (∀ x s, (x < p + 4 ∨ p + 49 ≤ x) → a' x s = a x s)
  | 0, i, N, a, hi, hN, h3, h4, h => by
    obtain ⟨N, rfl⟩ : ∃ j, N = j + 1 := ⟨N - 1, by omega⟩
    have hin : i = n := by omega
    subst hin
    rw [L_X3_copyFrom_89, h3, if_pos (nI_le (Nat.le_refl _) (by omega))]
    exact ⟨_, rfl, h, fun _ _ _ => rfl⟩
  | m + 1, i, N, a, hi, hN, h3, h4, h => by
    obtain ⟨N, rfl⟩ : ∃ j, N = j + 1 := ⟨N - 1, by omega⟩
    obtain ⟨a1, e1, e2, e3⟩ := cp_X7 (c := p + 1 + 3 + 9 * i) (p := q + 1 + 3 + 9 * i) (by omega) a (h4 i (by omega))
    have Q : ∀ u, u < n → ∀ j s, j < 9 → a1 (uq q u + j) s = a (uq q u + j) s := fun u hu j s hj => e3 _ _ (by dsimp only [uq]; omega)
    obtain ⟨a', f1, f2, f3⟩ := cp_units hpq hn5 m (i + 1) N a1 (by omega) (by omega) (by rw [e3 _ _ (by omega)]; exact h3) (fun u hu => by rw [Q u hu 6 4 (by decide)]; exact h4 u hu) (fun u hu => by
      refine cp_U_l (W := ru_U a (uq q u)) ?_ (fun j s hj => (Q u (by omega) j s hj).symm)
      by_cases c : u = i
      · subst c; exact e2
      · exact cp_U_r (h u (by omega)) (fun j s hj => e3 _ _ (by dsimp only [uq]; omega)))
    rw [L_X3_copyFrom_89, h3, if_neg (nI_ge (by omega) (by omega)), pr_gd_i (by omega) (by decide), ri_cl (by omega), e1, pr_bd_s, nI_1, f1]
    exact ⟨_, rfl, fun u hu => cp_U_l (f2 u hu) (fun j s hj => Q u hu j s hj), fun x s hx => by rw [f3 x s hx, e3 x s (by omega)]⟩
/-- a press takes over another's state -/
theorem op_copy {a b : pr_M} {p q n t : Nat} (hpq : p + 49 ≤ q ∨ q + 49 ≤ p) (hn : rpn a b q n t) : ∃ a', F_X3_copyFrom p q a = some ((), a') ∧ rpn a' b p n t ∧ (∀ x s, (x < p ∨ p + 49 ≤ x) → a' x s = a x s) := by
  obtain ⟨h1, h2, h3, h4, h5, h6, h7, h8, h9, h10, h11, h12, h13, h14, h15⟩ := hn
  obtain ⟨a0, h0⟩ : ∃ a0, a0 = pr_up (pr_up (pr_up (pr_up (pr_up (pr_up (pr_up a p 3 (a q 3)) p 4 (a q 4)) p 5 (a q 5)) p 6 (a q 6)) p 7 (a q 7)) p 8 (a q 8)) p 9 (a q 9) := ⟨_, rfl⟩
  obtain ⟨a2, g2⟩ : ∃ a2, a2 = pr_rw (pr_rw a0 (p + 2) (va_cpy (a0 (q + 2)) (a0 (p + 2)) 0 0 128)) (p + 3) (va_cpy ((pr_rw a0 (p + 2) (va_cpy (a0 (q + 2)) (a0 (p + 2)) 0 0 128)) (q + 3)) ((pr_rw a0 (p + 2) (va_cpy (a0 (q + 2)) (a0 (p + 2)) 0 0 128)) (p + 3)) 0 0 6) := ⟨_, rfl⟩
  have A0 : ∀ x s, x ≠ p → a0 x s = a x s := fun x s hx => by rw [h0]; simp (disch := omega) only [rd_n]
  have H0 : ∀ j, 3 ≤ j → j ≤ 9 → a0 p j = a q j := fun j g1 g2 => by
    rw [h0]
    rcases (show j = 3 ∨ j = 4 ∨ j = 5 ∨ j = 6 ∨ j = 7 ∨ j = 8 ∨ j = 9 by omega) with rfl | rfl | rfl | rfl | rfl | rfl | rfl <;> simp (disch := omega) only [rd_n, rd_e]
  have A2 : ∀ x s, x ≠ p + 2 → x ≠ p + 3 → a2 x s = a0 x s := fun x s e1 e2 => by rw [g2, rd_r e2, rd_r e1]
  have R2 : ∀ i, i < 128 → a2 (p + 2) i = a (q + 2) i := fun i hi => by rw [g2, rd_r (by omega), rd_s, cp_i hi, A0 _ _ (by omega)]
  have R3 : ∀ i, i < 6 → a2 (p + 3) i = a (q + 3) i := fun i hi => by rw [g2, rd_s, cp_i hi, rd_r (by omega), A0 _ _ (by omega)]
  have Q : ∀ u, u < n → ∀ j s, j < 9 → a2 (uq q u + j) s = a (uq q u + j) s := fun u hu j s hj => by rw [A2 _ _ (by dsimp only [uq]; omega) (by dsimp only [uq]; omega), A0 _ _ (by dsimp only [uq]; omega)]
  obtain ⟨a', e1, e2, e3⟩ := cp_units hpq h2 n 0 pr_fuel a2 (by omega) (by show n < 4000; omega) (by rw [A2 _ _ (by omega) (by omega), H0 3 (by decide) (by decide)]; exact h3) (fun u hu => by rw [Q u hu 6 4 (by decide)]; exact h14 u hu) (fun u hu => absurd hu (Nat.not_lt_zero u))
  have e : F_X3_copyFrom p q a = some ((), a') := by
    unfold F_X3_copyFrom
    rw [ri_cl_0, ri_cl_128, ri_cl_6]
    have s1 : ∀ (K : pr_M → Option (Unit × pr_M)), (pr_lt (pr_up a p 3 (a q 3)) fun f1 => pr_lt (pr_up f1 p 4 (f1 q 4)) fun f3 => pr_lt (pr_up f3 p 5 (f3 q 5)) fun f5 => pr_lt (pr_up f5 p 6 (f5 q 6)) fun f7 => pr_lt (pr_up f7 p 7 (f7 q 7)) fun f9 => pr_lt (pr_up f9 p 8 (f9 q 8)) fun f11 => pr_lt (pr_up f11 p 9 (f11 q 9)) K) = K a0 := fun K => by
      rw [h0]
      simp (disch := omega) only [pr_lt_s, rd_n]
    rw [s1, pr_lt_s, pr_lt_s, ← g2, show L_X3_copyFrom_89 p q pr_fuel 0 a2 = some ((), a') from e1, pr_bd_s]
  have P : ∀ j, 3 ≤ j → j ≤ 9 → a' p j = a q j := fun j g1 g3 => by rw [e3 _ _ (by omega), A2 _ _ (by omega) (by omega), H0 j g1 g3]
  have C : ∀ u, u < n → cp_U (ru_U a (uq q u)) (ru_U a' (uq p u)) := fun u hu => cp_U_l (e2 u hu) (fun j s hj => Q u hu j s hj)
  refine ⟨a', e, ⟨h1, h2, ?_, h4, ?_, h6, ?_, ?_, ?_, fun j hj => ?_, fun i k1 k2 => ?_, fun u hu => ru_k_cp (h12 u hu) (C u hu), fun ht u hu => ru_s_cp (h13 ht u hu) (C u hu), fun u hu => ?_, ?_⟩, fun x s hx => ?_⟩
  · rw [P 3 (by decide) (by decide)]; exact h3
  · rw [P 4 (by decide) (by decide)]; exact h5
  · rw [P 5 (by decide) (by decide)]; exact h7
  · rw [P 6 (by decide) (by decide)]; exact h8
  · unfold rp_sp at h9 ⊢
    rw [P 9 (by decide) (by decide), P 7 (by decide) (by decide), P 8 (by decide) (by decide)]; exact h9
  · rw [e3 _ _ (by omega), R3 j hj]; exact h10 j hj
  · rw [e3 _ _ (by omega), R2 i k1]; exact h11 i k1 k2
  · rw [show a' (uq p u + 6) 4 = a (uq q u + 6) 4 from (C u hu).2.2.2.2.1 4 (by decide) (by decide)]; exact h14 u hu
  · rw [show a' (uq p 0 + 6) 4 = a (uq q 0 + 6) 4 from (C 0 (by omega)).2.2.2.2.1 4 (by decide) (by decide), show a' (uq p 0 + 6) 7 = a (uq q 0 + 6) 7 from (C 0 (by omega)).2.2.2.2.1 7 (by decide) (by decide)]; exact h15
  · rw [e3 _ _ (by omega), A2 _ _ (by omega) (by omega), A0 _ _ (by omega)]
