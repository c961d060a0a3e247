/-! ===== one repeat of the law ===== -/
theorem j_end {g0 : pr_M} {t d : Nat} {A0 B0 A1 B1 : Int32} (h3 : g0 1 3 = 2) (h4 : g0 1 4 = nI (t + 1)) (ht : t < 90) (hd : g0 (14 + 1) 0 = nI d) (saw : g0 (5 + 6) 4 = 0)
    (hN0 : ∀ j, j < 13 → nu g0 5 j = eN A0 B0 (g0 201) j) (hAB0 : 0 < g0 201 5 → A0 = g0 203 2 ∧ B0 = g0 203 3) (nn0 : nn (g0 201)) (z0 : g0 201 13 = 0)
    (hN1 : ∀ j, j < 13 → nu g0 14 j = eN A1 B1 (g0 202) j) (hAB1 : 0 < g0 202 5 → A1 = g0 204 2 ∧ B1 = g0 204 3) (nn1 : nn (g0 202)) (z1 : g0 202 13 = nI d) :
    ∃ g, (∀ (sL : Nat) (sx : Nat → Int32) (x11 x12 x13 x14 x15 x16 x17 : Int32) (bk : Int32 → Int32 → Int32 → Int32 → Int32 → pr_M → Option (Int32 × pr_M)), J_L_law_535 sL sx 0 201 202 203 204 205 206 207 208 209 x11 x12 x13 x14 x15 x16 x17 bk g0 = bk x13 x14 x15 x16 (x17 + 1) g) ∧ ∀ c j, c ≠ 201 → c ≠ 202 → g c j = g0 c j := by
  obtain ⟨g1, E1, G1⟩ := l_passed (z := 201) (w := 203) (v := 0) uq0 (by decide) (by decide) (by decide) h3 (fun g hg => c_way0 (by rw [hg _ _ (by omega)]; exact h3)) hN0 hAB0 (nn0 7 (by omega)) (nn0 10 (by omega)) (nn0 11 (by omega)) (nn0 12 (by omega)) z0
  have h31 : g1 1 3 = 2 := by rw [G1 _ _ (by omega)]; exact h3
  have r2 : g1 202 = g0 202 := by funext j; exact G1 _ _ (by omega)
  obtain ⟨g2, E2, G2⟩ := l_passed (z := 202) (w := 204) (v := nI d) (f := g1) (A := A1) (B := B1) uq1 (by decide) (by decide) (by decide) h31 (fun g hg => by
    rw [c_way1 (by rw [hg _ _ (by omega)]; exact h31), hg _ _ (by omega), G1 _ _ (by omega), hd]) (fun j hj => by rw [nu_same (a := g0) fun k z hk => G1 _ _ (by omega), r2]; exact hN1 j hj) (by rw [r2, G1 204 2 (by omega), G1 204 3 (by omega)]; exact hAB1) (by rw [r2]; exact nn1 7 (by omega)) (by rw [r2]; exact nn1 10 (by omega)) (by rw [r2]; exact nn1 11 (by omega)) (by rw [r2]; exact nn1 12 (by omega)) (by rw [r2]; exact z1)
  refine ⟨g2, fun sL sx x11 x12 x13 x14 x15 x16 x17 bk => ?_, fun c j c1 c2 => by rw [G2 c j c2, G1 c j c1]⟩
  have hs : (if g2 (5 + 6) 4 = 0 then (-1000000006 : Int32) else g2 (5 + 6) 5) = -1000000006 := if_pos (by rw [G2 _ _ (by omega), G1 _ _ (by omega)]; exact saw)
  unfold J_L_law_535
  rw [E1, pr_bd_s, if_neg t10, E2, pr_bd_s, if_neg t10, c_seen2 (t := t) uq0 (by rw [G2 _ _ (by omega)]; exact h31) (by rw [G2 _ _ (by omega), G1 _ _ (by omega)]; exact h4) (by omega), pr_b1_s, if_pos hs]
theorem i_lt {t s d : Nat} (ht : t < 100) (hs : s < 100) (hd : d < 100) : nI t - nI s < nI d ↔ t < s + d := by
  rw [Int32.lt_iff_toInt_lt, pk_sub_toInt (by omega) (by omega), nI_toInt (by omega)]
  omega
theorem spl_next {f g : pr_M} {t : Nat} {x : Int32} (h : spl f t x) (ht : t < 100) (h7 : g 1 7 = f 1 7) (h9 : g 1 9 = f 1 9) : spl g (t + 1) (x + (if x < 0 then 0 else 1)) := by
  rcases h with ⟨e, rfl⟩ | ⟨e, s0, hs, e7, rfl⟩
  · exact Or.inl ⟨by rw [h9]; exact e, by decide⟩
  · refine Or.inr ⟨by rw [h9]; exact e, s0, by omega, by rw [h7]; exact e7, ?_⟩
    rw [if_neg (nI_pos (by omega)), nI_1, show t - s0 + 1 = t + 1 - s0 by omega]
set_option maxHeartbeats 8000000 in
theorem j_step {f : pr_M} {t s d : Nat} {x13 x14 x15 x16 : Int32} (I : Iv f t s d x13 x14 x15 x16) (ht : t < 40) (hd1 : 1 ≤ d) (hd9 : d ≤ 9) (hs1 : 1 ≤ s) (hs9 : s ≤ 9) :
    ∃ g, (∀ (sL : Nat) (sx : Nat → Int32) (bk : Int32 → Int32 → Int32 → Int32 → Int32 → pr_M → Option (Int32 × pr_M)), J_L_law_319 sL sx 0 201 202 203 204 205 206 207 208 209 (nI d) (nI s) x13 x14 x15 x16 (nI t) bk f = bk (x13 + (if x13 < 0 then 0 else 1)) x14 x15 (f 1 5) (nI (t + 1)) g) ∧
      Iv g (t + 1) s d (x13 + (if x13 < 0 then 0 else 1)) x14 x15 (f 1 5) := by
  obtain ⟨f5, EJ, ⟨PC, ⟨P5, P6, P8⟩, ⟨P9, P9'⟩, ⟨Pz0, Pz1, Po0, Po1⟩, Pw, ⟨Pd0, Pd1⟩, ⟨Pn0, Pn1⟩⟩⟩ := j_pre I (by omega) hd1 hd9
  obtain ⟨⟨h3, h4, h6⟩, ⟨hsp, hsv⟩, ⟨hd, hs⟩, ⟨rd0, nn0, ds0, ak0⟩, ⟨rd1, nn1, ds1, ak1⟩, ⟨hf, hw⟩, hr, hl, hto⟩ := I
  have spl5 : spl f5 t x13 := by
    unfold spl at hsp ⊢
    rw [PC 1 9 (by omega), PC 1 7 (by omega)]
    exact hsp
  obtain ⟨a, R1, RA, RN, RY⟩ := c_run (f := f5) (t := t) (s := s) (d := d) (n := t - (s + d)) (x := x13) (by rw [PC _ _ (by omega)]; exact h3) (by rw [PC _ _ (by omega)]; exact h4) (by omega) (by rw [PC _ _ (by omega)]; exact hd) hd1 hd9 (by rw [PC _ _ (by omega)]; exact hs) hs1 hs9 spl5 (by rw [PC _ _ (by omega)]; exact hl) (by omega) (fun h => (Pd0 h).2.2) (fun h => (Pd1 h).2.2)
  generalize hb : gB x13 (nI d) f5 = b at *
  obtain ⟨K0, ⟨K1, K2, K3, K4, K5, K6, K7⟩, ⟨K8, K9⟩, ⟨K10, K11⟩, ⟨K12, K13, K14, K15⟩, K16, K17, K18, K19, K20, K21, K22, K23, K24, K25⟩ := RA
  have hx6 : f5 1 6 = x16 := by rw [PC _ _ (by omega)]; exact h6
  have hx5 : f5 1 5 = f 1 5 := PC _ _ (by omega)
  have ch9 : a 209 t = f5 1 5 - f5 1 6 := by rw [K0 _ _ (by omega), P9, hx5, hx6]
  have z201 : ∀ j, j < 13 → a 201 j = nu b 5 j := fun j hj => by rw [K0 _ _ (by omega)]; exact Pz0 j hj
  have z202 : ∀ j, j < 13 → a 202 j = nu b 14 j := fun j hj => by rw [K0 _ _ (by omega)]; exact Po0 j hj
  -- what the law says of the prints
  have d0 : dist_ok (a 201 10) (b (5 + 2) 5) (b (5 + 2) 6) (a 203 0) (a 203 1) := by
    rw [z201 10 (by decide), K0 203 0 (by omega), K0 203 1 (by omega)]
    exact ⟨Pn0 10 (by omega), Pd0⟩
  have E1 := l_printed (z := 201) (w := 203) (pO := 205) (pS := 207) (t := t) (ch := f5 1 5 - f5 1 6) uq0 (by decide) (by decide) (by decide) (by decide) (by decide) (by decide) (by omega) K1 K2 d0 (by rw [K12, K8, p_off_cong z201]) (by rw [K13, p_sk_cong z201])
  generalize ha1 : pr_up (pr_up a 205 t (a (5 + 2 + 1) t)) 207 t (a (5 + 2 + 2) t) = a1 at E1
  have A1 : ∀ c z, ((c ≠ 205 ∧ c ≠ 207) ∨ z ≠ t) → a1 c z = a c z := fun c z hc => by rw [← ha1, rd_n (by omega), rd_n (by omega)]
  have r1 : a1 202 = a 202 := by funext j; exact A1 _ _ (by omega)
  have d1 : dist_ok (a1 202 10) (b (14 + 2) 5) (b (14 + 2) 6) (a1 204 0) (a1 204 1) := by
    rw [r1, z202 10 (by decide), A1 204 0 (by omega), A1 204 1 (by omega), K0 204 0 (by omega), K0 204 1 (by omega)]
    exact ⟨Pn1 10 (by omega), Pd1⟩
  have E2 := l_printed (z := 202) (w := 204) (pO := 206) (pS := 208) (t := t) (f := a1) (ch := f5 1 5 - f5 1 6) uq1 (by decide) (by decide) (by decide) (by decide) (by decide) (by decide) (by omega) (by rw [A1 _ _ (by omega)]; exact K1) (by rw [A1 _ _ (by omega)]; exact K2) d1 (by rw [A1 _ _ (by omega), A1 _ _ (by omega), K14, K9, r1, p_off_cong z202]) (by rw [A1 _ _ (by omega), K15, r1, p_sk_cong z202])
  generalize ha2 : pr_up (pr_up a1 206 t (a1 (14 + 2 + 1) t)) 208 t (a1 (14 + 2 + 2) t) = a2 at E2
  have A2 : ∀ c z, ((c ≠ 205 ∧ c ≠ 206 ∧ c ≠ 207 ∧ c ≠ 208) ∨ z ≠ t) → a2 c z = a c z := fun c z hc => by rw [← ha2, rd_n (by omega), rd_n (by omega), A1 c z (by omega)]
  have t205 : a2 205 t = a (5 + 2 + 1) t := by rw [← ha2, rd_n (by omega), rd_n (by omega), ← ha1, rd_n (by omega), rd_e ⟨rfl, rfl⟩]
  have t206 : a2 206 t = a (14 + 2 + 1) t := by rw [← ha2, rd_n (by omega), rd_e ⟨rfl, rfl⟩, A1 _ _ (by omega)]
  have t208 : a2 208 t = a (14 + 2 + 2) t := by rw [← ha2, rd_e ⟨rfl, rfl⟩, A1 _ _ (by omega)]
  have AF : ∀ c z, 50 ≤ c → ((c ≠ 205 ∧ c ≠ 206 ∧ c ≠ 207 ∧ c ≠ 208) ∨ z ≠ t) → a2 c z = f5 c z := fun c z hc h => by rw [A2 c z h, K0 c z hc]
  have y201 : ∀ j, j < 13 → a2 201 j = nu b 5 j := fun j hj => by rw [A2 _ _ (by omega)]; exact z201 j hj
  have y202 : ∀ j, j < 13 → a2 202 j = nu b 14 j := fun j hj => by rw [A2 _ _ (by omega)]; exact z202 j hj
  have b5w : nu b 5 5 = f (5 + 5) 2 := by
    rw [← hb]
    show gB x13 (nI d) f5 (5 + 5) 2 = _
    rw [gB_n (by omega) (by omega), PC _ _ (by omega)]
  have b14w : nu b 14 5 = f (14 + 5) 2 := by
    rw [← hb]
    show gB x13 (nI d) f5 (14 + 5) 2 = _
    rw [gB_n (by omega) (by omega), PC _ _ (by omega)]
  have akb0 : 0 < nu b 5 5 → f5 (5 + 5) 7 = f 203 2 ∧ f5 (5 + 5) 8 = f 203 3 := by
    rw [b5w, PC (5 + 5) 7 (by omega), PC (5 + 5) 8 (by omega)]; exact ak0
  have akb1 : 0 < nu b 14 5 → f5 (14 + 5) 7 = f 204 2 ∧ f5 (14 + 5) 8 = f 204 3 := by
    rw [b14w, PC (14 + 5) 7 (by omega), PC (14 + 5) 8 (by omega)]; exact ak1
  -- the end, over what the sight leaves: a3 differs from a2 in the rows 202 and 204 alone
  have fin : ∀ (a3 : pr_M) (M : Nat → Int32) (A B : Int32), (∀ c j, c ≠ 202 → (c ≠ 204 ∨ (j ≠ 2 ∧ j ≠ 3)) → a3 c j = a2 c j) → a3 202 13 = nI d → (∀ j, j < 13 → a3 202 j = M j) → (∀ j, j < 13 → nu a 14 j = eN A B M j) → nn M → M 10 = nu b 14 10 → (0 < M 5 → A = a3 204 2 ∧ B = a3 204 3) → a (14 + 5) 7 = A → a (14 + 5) 8 = B →
      a (14 + 7) 1 = nI (t + 1 - (s + d)) → a (1 + 3) 0 + a (1 + 3) 2 = nI (t + 1 - (s + d)) →
      (∀ (sL : Nat) (sx : Nat → Int32) (bk : Int32 → Int32 → Int32 → Int32 → Int32 → pr_M → Option (Int32 × pr_M)), j_aft sL sx (nI d) (nI s) x13 x14 x15 (nI t) (if x13 < 0 then 0 else 1) (f 1 5) bk (nI (t + 1)) a = J_L_law_535 sL sx 0 201 202 203 204 205 206 207 208 209 (nI d) (nI s) (x13 + (if x13 < 0 then 0 else 1)) x14 x15 (f 1 5) (nI t) bk a3) →
      ∃ g, (∀ (sL : Nat) (sx : Nat → Int32) (bk : Int32 → Int32 → Int32 → Int32 → Int32 → pr_M → Option (Int32 × pr_M)), J_L_law_319 sL sx 0 201 202 203 204 205 206 207 208 209 (nI d) (nI s) x13 x14 x15 x16 (nI t) bk f = bk (x13 + (if x13 < 0 then 0 else 1)) x14 x15 (f 1 5) (nI (t + 1)) g) ∧
      Iv g (t + 1) s d (x13 + (if x13 < 0 then 0 else 1)) x14 x15 (f 1 5) := by
    intro a3 M A B A3 z13 hM hN hnn hM10 hAB hA hB hlog htot hJ
    have C3 : ∀ c z, c < 200 → a3 c z = a c z := fun c z hc => by rw [A3 c z (by omega) (by omega), A2 c z (by omega)]
    have n5 : nu a3 5 = nu a 5 := nu_same fun j z hj => C3 _ _ (by omega)
    have n14 : nu a3 14 = nu a 14 := nu_same fun j z hj => C3 _ _ (by omega)
    have m202 : ∀ j, (j = 7 ∨ j = 10 ∨ j = 11 ∨ j = 12 ∨ j = 5) → a3 202 j = M j := fun j hj => hM j (by omega)
    have w201 : ∀ j, j < 13 → a3 201 j = nu b 5 j := fun j hj => by rw [A3 _ _ (by omega) (by omega)]; exact y201 j hj
    obtain ⟨g, EG, G⟩ := j_end (g0 := a3) (t := t) (d := d) (A0 := f5 (5 + 5) 7) (B0 := f5 (5 + 5) 8) (A1 := A) (B1 := B) (by rw [C3 _ _ (by omega)]; exact K1) (by rw [C3 _ _ (by omega)]; exact K2) (by omega) (by rw [C3 _ _ (by omega), K9, PC _ _ (by omega)]; exact hd) (by rw [C3 _ _ (by omega), K18, PC _ _ (by omega)]; exact hw)
      (fun j hj => by rw [n5, K17 j hj]; exact (eN_cong w201 j hj).symm)
      (by
        rw [w201 5 (by decide), A3 203 2 (by omega) (by omega), A3 203 3 (by omega) (by omega), AF 203 2 (by omega) (by omega), AF 203 3 (by omega) (by omega), Pw 203 2 (by omega) (by omega), Pw 203 3 (by omega) (by omega)]
        exact akb0)
      (fun j hj => by rw [w201 j (by omega)]; exact Pn0 j hj) (by rw [A3 _ _ (by omega) (by omega), AF _ _ (by omega) (by omega)]; exact Pz1)
      (fun j hj => by rw [n14, hN j hj]; exact (eN_cong hM j hj).symm) (by rw [hM 5 (by decide)]; exact hAB) (fun j hj => by rw [hM j (by omega)]; exact hnn j hj) z13
    have CG : ∀ c z, c < 200 → g c z = a c z := fun c z hc => by rw [G c z (by omega) (by omega), C3 c z hc]
    have LG : ∀ c z, c ≠ 201 → c ≠ 202 → c ≠ 204 → g c z = a2 c z := fun c z z1 z2 z3 => by rw [G c z z1 z2, A3 c z z2 (by omega)]
    have ng5 : nu g 5 = nu a 5 := nu_same fun j z hj => CG _ _ (by omega)
    have ng14 : nu g 14 = nu a 14 := nu_same fun j z hj => CG _ _ (by omega)
    have g204 : ∀ j, j ≠ 2 → j ≠ 3 → g 204 j = f5 204 j := fun j j2 j3 => by rw [G _ _ (by omega) (by omega), A3 _ _ (by omega) (by omega), AF _ _ (by omega) (by omega)]
    have gS5 : g (5 + 1) = f (5 + 1) := by
      funext j
      rw [CG _ _ (by omega), K8, PC _ _ (by omega)]
    have gS14 : g (14 + 1) = f (14 + 1) := by
      funext j
      rw [CG _ _ (by omega), K9, PC _ _ (by omega)]
    refine ⟨g, fun sL sx bk => ?_, ⟨?_, ?_, ?_⟩, ⟨spl_next hsp (by omega) ?_ ?_, ?_⟩, ⟨?_, ?_⟩, ⟨?_, ?_, ?_, ?_⟩, ⟨?_, ?_, ?_, ?_⟩, ⟨?_, ?_⟩, ?_, ?_, ?_⟩
    · rw [EJ, R1, pr_bd_s, hJ, EG, nI_1]
    · rw [CG _ _ (by omega)]; exact K1
    · rw [CG _ _ (by omega)]; exact K2
    · rw [CG _ _ (by omega), K4, hx5]
    · rw [CG _ _ (by omega), K5, PC _ _ (by omega)]
    · rw [CG _ _ (by omega), K7, PC _ _ (by omega)]
    · rw [CG _ _ (by omega), CG _ _ (by omega), K6, K7, PC _ _ (by omega), PC _ _ (by omega)]; exact hsv
    · rw [gS14]; exact hd
    · rw [gS14]; exact hs
    · unfold rdy at rd0 ⊢; rw [gS5]; exact rd0
    · rw [ng5]
      intro j hj hle
      rw [K17 j (by omega)] at hle ⊢
      rcases hj with rfl | rfl | rfl | rfl <;> exact less_nn hle
    · intro h
      have e10 : g (5 + 2) 7 = ri_less (nu b 5 10) := by
        rw [CG _ _ (by omega)]; exact K17 10 (by decide)
      rw [e10] at h
      obtain ⟨q1, q2, q3⟩ := Pd0 (less_pos h)
      rw [CG (5 + 2) 5 (by omega), CG (5 + 2) 6 (by omega), K20, K21, LG 203 0 (by omega) (by omega) (by omega), LG 203 1 (by omega) (by omega) (by omega), AF 203 0 (by omega) (by omega), AF 203 1 (by omega) (by omega)]
      exact ⟨q1, q2, q3⟩
    · intro h
      have e5 : g (5 + 5) 2 = eN (f5 (5 + 5) 7) (f5 (5 + 5) 8) (nu b 5) 5 := by
        rw [CG _ _ (by omega)]; exact K17 5 (by decide)
      rw [e5] at h
      obtain ⟨q1, q2⟩ := akb0 (e5_pos h)
      rw [CG (5 + 5) 7 (by omega), CG (5 + 5) 8 (by omega), K24, K25, LG 203 2 (by omega) (by omega) (by omega), LG 203 3 (by omega) (by omega) (by omega), AF 203 2 (by omega) (by omega), AF 203 3 (by omega) (by omega), Pw 203 2 (by omega) (by omega), Pw 203 3 (by omega) (by omega)]
      exact ⟨q1, q2⟩
    · unfold rdy at rd1 ⊢; rw [gS14]; exact rd1
    · rw [ng14]
      intro j hj hle
      rw [hN j (by omega)] at hle ⊢
      rcases hj with rfl | rfl | rfl | rfl <;> exact less_nn hle
    · intro h
      have e10 : g (14 + 2) 7 = ri_less (M 10) := by
        rw [CG _ _ (by omega)]; exact hN 10 (by decide)
      rw [e10] at h
      have h10 : 0 < M 10 := less_pos h
      rw [hM10] at h10
      obtain ⟨q1, q2, q3⟩ := Pd1 h10
      rw [CG (14 + 2) 5 (by omega), CG (14 + 2) 6 (by omega), K22, K23, g204 0 (by omega) (by omega), g204 1 (by omega) (by omega)]
      exact ⟨q1, q2, q3⟩
    · intro h
      have e5 : g (14 + 5) 2 = eN A B M 5 := by
        rw [CG _ _ (by omega)]; exact hN 5 (by decide)
      rw [e5] at h
      obtain ⟨q1, q2⟩ := hAB (e5_pos h)
      rw [CG (14 + 5) 7 (by omega), CG (14 + 5) 8 (by omega), hA, hB, G 204 2 (by omega) (by omega), G 204 3 (by omega) (by omega)]
      exact ⟨q1, q2⟩
    · rw [CG _ _ (by omega), K19, PC _ _ (by omega), g204 4 (by omega) (by omega), Pw 204 4 (by omega) (by omega)]; exact hf
    · rw [CG _ _ (by omega), K18, PC _ _ (by omega)]; exact hw
    · intro j hj
      by_cases e : j = t
      · subst e
        rw [CG (5 + 2 + 1) j (by omega), CG (14 + 2 + 1) j (by omega), CG (14 + 2 + 2) j (by omega), CG (1 + 2) j (by omega), LG 205 j (by omega) (by omega) (by omega), LG 206 j (by omega) (by omega) (by omega), LG 208 j (by omega) (by omega) (by omega), LG 209 j (by omega) (by omega) (by omega), t205, t206, t208, A2 209 j (by omega), ch9, K10]
        exact ⟨rfl, rfl, rfl, rfl⟩
      · obtain ⟨k1, k2, k3⟩ := K16 j e
        obtain ⟨m1, m2, m3, m4⟩ := hr j (by omega)
        rw [CG (5 + 2 + 1) j (by omega), CG (14 + 2 + 1) j (by omega), CG (14 + 2 + 2) j (by omega), CG (1 + 2) j (by omega), LG 205 j (by omega) (by omega) (by omega), LG 206 j (by omega) (by omega) (by omega), LG 208 j (by omega) (by omega) (by omega), LG 209 j (by omega) (by omega) (by omega), AF 205 j (by omega) (by omega), AF 206 j (by omega) (by omega), AF 208 j (by omega) (by omega), AF 209 j (by omega) (by omega), k1, k2, k3, K11 j e, P5, P6, P8, P9' j e, PC (5 + 2 + 1) j (by omega), PC (14 + 2 + 1) j (by omega), PC (14 + 2 + 2) j (by omega), PC (1 + 2) j (by omega)]
        exact ⟨m1, m2, m3, m4⟩
    · rw [CG _ _ (by omega)]; exact hlog
    · rw [CG _ _ (by omega), CG _ _ (by omega)]; exact htot
  -- the head of what follows the run
  have a19 : a1 209 t = f5 1 5 - f5 1 6 := by rw [A1 _ _ (by omega)]; exact ch9
  have a23 : a2 1 3 = 2 := by rw [A2 _ _ (by omega)]; exact K1
  have a24 : a2 1 4 = nI (t + 1) := by rw [A2 _ _ (by omega)]; exact K2
  have zw : a2 202 13 = nI d := by rw [AF _ _ (by omega) (by omega)]; exact Po1
  have l2 : a2 204 2 = f 204 2 := by rw [AF _ _ (by omega) (by omega), Pw 204 2 (by omega) (by omega)]
  have l3 : a2 204 3 = f 204 3 := by rw [AF _ _ (by omega) (by omega), Pw 204 3 (by omega) (by omega)]
  by_cases hsee : t < s + d
  · obtain ⟨q1, q2, q3, q4, q5, q6⟩ := RN hsee
    refine fin a2 (nu b 14) (f5 (14 + 5) 7) (f5 (14 + 5) 8) (fun _ _ _ _ => rfl) zw y202 q1 Pn1 rfl (by rw [l2, l3]; exact akb1) q3 q4 (by rw [q5, PC _ _ (by omega), hl, show t + 1 - (s + d) = t - (s + d) by omega]) (by rw [q6, PC (1 + 3) 0 (by omega), PC (1 + 3) 2 (by omega), hto, show t + 1 - (s + d) = t - (s + d) by omega]) (fun sL sx bk => ?_)
    have hs4 : a2 (14 + 6) 4 = 0 := by rw [A2 _ _ (by omega)]; exact q2
    have e2 : (if a2 (14 + 6) 4 = 0 then (-1000000006 : Int32) else a2 (14 + 6) 5) = -1000000006 := if_pos hs4
    have e4 : (if a2 (14 + 6) 4 = 0 then (-1000000006 : Int32) else a2 (14 + 6) 7) = -1000000006 := if_pos hs4
    unfold j_aft
    rw [nI_1, if_pos rfl, ri_cl (show t < 2 ^ 31 by omega), ch9, E1, pr_bd_s, if_neg t10, a19, E2, pr_bd_s, if_neg t10, if_pos ((i_lt (by omega) (by omega) (by omega)).mpr hsee), c_seen2 uq1 a23 a24 (by omega), pr_b1_s, if_pos e2, c_seen4 uq1 a23 a24 (by omega), pr_b1_s, if_pos e4]
  · have hle : s + d ≤ t := by omega
    have m1 : nI t - nI s = nI (t - s) := pk_sub (by omega)
    have m2 : nI (t - s) - nI d = nI (t - s - d) := pk_sub (by omega)
    have g1 : t - s < 48 := by omega
    have g2 : t - s - d < 48 := by omega
    have u0 : a2 205 (t - s - d) = f5 (5 + 2 + 1) (t - s - d) := by rw [AF _ _ (by omega) (by omega), P5, PC _ _ (by omega), (hr _ (by omega)).1]
    have u1 : a2 206 (t - s) = f5 (14 + 2 + 1) (t - s) := by rw [AF _ _ (by omega) (by omega), P6, PC _ _ (by omega), (hr _ (by omega)).2.1]
    have u2 : a2 208 (t - s) = f5 (14 + 2 + 2) (t - s) := by rw [AF _ _ (by omega) (by omega), P8, PC _ _ (by omega), (hr _ (by omega)).2.2.1]
    have u3 : a2 209 (t - s) = f5 (1 + 2) (t - s) := by rw [AF _ _ (by omega) (by omega), P9' _ (by omega), PC _ _ (by omega), (hr _ (by omega)).2.2.2]
    have u4 : a2 204 4 = f5 (14 + 6) 2 := by rw [AF _ _ (by omega) (by omega), Pw 204 4 (by omega) (by omega), PC _ _ (by omega), hf]
    have uS : a2 (14 + 1) = f5 (14 + 1) := by
      funext j
      rw [A2 _ _ (by omega), K9]
    obtain ⟨q1, q2, q3, q4, q5, q6, q7, q8, q9, q10⟩ := RY hle (a2 206 (t - s) - a2 205 (t - s - d)) (a2 208 (t - s)) (a2 209 (t - s)) _ _ _ (by rw [u1, u0]) u2 u3 rfl rfl rfl
    generalize hR : w_R (f5 (14 + 1)) (nu b 14) (a2 206 (t - s) - a2 205 (t - s - d)) (f5 (14 + 6) 2) = R at *
    generalize hm : (if R = 1 then a2 206 (t - s) - a2 205 (t - s - d) else f5 (14 + 6) 2) = m at *
    generalize hk : (if R = 1 then a2 208 (t - s) else nu b 14 9) = k at *
    obtain ⟨a3, v1, v2, v3, v4, v5, v6⟩ := l_seen (z := 202) (w := 204) (t := t) (f := a2) (err := a2 206 (t - s) - a2 205 (t - s - d)) (sk := a2 208 (t - s)) (ch := a2 209 (t - s)) (R := R) (m := m) (k := k) uq1 (by decide) (by decide) (by decide) a23 a24 (by omega) (by rw [uS, w_R_cong y202, u4]; exact hR.symm) (by rw [u4]; exact hm.symm) (by rw [y202 9 (by decide)]; exact hk.symm)
      (by rw [A2 _ _ (by omega)]; exact q2) (by rw [A2 _ _ (by omega)]; exact q3) (by rw [A2 _ _ (by omega)]; exact q4) (by rw [A2 _ _ (by omega)]; exact q5) (fun h0 => by rw [A2 (14 + 6) 8 (by omega), A2 (14 + 6) 9 (by omega)]; exact q6 h0)
    rw [uS, w_A_cong y202, l2] at v4
    rw [uS, w_B_cong y202, l3] at v5
    refine fin a3 (w_N (f5 (14 + 1)) (nu b 14) R m k (a2 209 (t - s))) _ _ v6 (by rw [v3]; exact zw) (fun j hj => by rw [v2 j hj, uS]; exact w_N_cong y202 j hj) q1 (fun j hj hle => ?_) rfl (fun h5 => ?_) q7 q8 (by rw [q9, show t - (s + d) + 1 = t + 1 - (s + d) by omega]) (by rw [q10, PC (1 + 3) 0 (by omega), PC (1 + 3) 2 (by omega), hto, nI_1, show t - (s + d) + 1 = t + 1 - (s + d) by omega]) (fun sL sx bk => ?_)
    · rcases hj with rfl | rfl | rfl | rfl
      · exact Pn1 7 (by omega) hle
      · exact Pn1 10 (by omega) hle
      · exact Pn1 11 (by omega) hle
      · exact Pn1 12 (by omega) hle
    · rw [v4, v5]
      exact w_AB akb1 h5
    · unfold j_aft
      rw [nI_1, if_pos rfl, ri_cl (show t < 2 ^ 31 by omega), ch9, E1, pr_bd_s, if_neg t10, a19, E2, pr_bd_s, if_neg t10, if_neg (fun h => hsee ((i_lt (by omega) (by omega) (by omega)).mp h)), m1, m2, pr_gd_i g1 (by decide), pr_gd_i g2 (by decide), ri_cl (show t - s < 2 ^ 31 by omega), ri_cl (show t - s - d < 2 ^ 31 by omega), v1, pr_bd_s, if_neg t10]
