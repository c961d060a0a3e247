/-! ===== what holds ahead of each repeat; the law's part of it ahead of the run ===== -/
def rdy (f : pr_M) (q : Nat) : Prop := ∃ r, r < 100 ∧ f (q + 1) 1 + f (q + 1) 9 = nI r
def nn (N : Nat → Int32) : Prop := ∀ j, (j = 7 ∨ j = 10 ∨ j = 11 ∨ j = 12) → N j ≤ 0 → N j = 0
def dst (f : pr_M) (q w : Nat) : Prop := 0 < f (q + 2) 7 → f (q + 2) 5 = f w 0 ∧ f (q + 2) 6 = f w 1 ∧ 0 < f (q + 2) 6
def adk (f : pr_M) (q w : Nat) : Prop := 0 < f (q + 5) 2 → f (q + 5) 7 = f w 2 ∧ f (q + 5) 8 = f w 3
def Iu (f : pr_M) (q w : Nat) : Prop := rdy f q ∧ nn (nu f q) ∧ dst f q w ∧ adk f q w
def Ir (f : pr_M) (t : Nat) : Prop := ∀ j, j < t → f (5 + 2 + 1) j = f 205 j ∧ f (14 + 2 + 1) j = f 206 j ∧ f (14 + 2 + 2) j = f 208 j ∧ f (1 + 2) j = f 209 j
def Iv (f : pr_M) (t s d : Nat) (x13 x14 x15 x16 : Int32) : Prop :=
  (f 1 3 = 2 ∧ f 1 4 = nI t ∧ f 1 6 = x16) ∧ (spl f t x13 ∧ (¬ f 1 9 = 0 → f 1 8 = x14 ∧ f 1 9 = x15 ∧ 0 < x15)) ∧ (f (14 + 1) 0 = nI d ∧ f (14 + 1) 1 = nI s) ∧ Iu f 5 203 ∧ Iu f 14 204 ∧ (f (14 + 6) 2 = f 204 4 ∧ f (5 + 6) 4 = 0) ∧ Ir f t ∧ (f (14 + 7) 1 = nI (t - (s + d)) ∧ f (1 + 3) 0 + f (1 + 3) 2 = nI (t - (s + d)))
/-- what the law's rows hold when the class runs -/
def Pv (f f5 : pr_M) (t d : Nat) (x13 x16 : Int32) : Prop :=
  (∀ c z, c < 200 → f5 c z = f c z) ∧ (f5 205 = f 205 ∧ f5 206 = f 206 ∧ f5 208 = f 208) ∧ (f5 209 t = f 1 5 - x16 ∧ ∀ j, j ≠ t → f5 209 j = f 209 j) ∧
  ((∀ j, j < 13 → f5 201 j = nu (gB x13 (nI d) f5) 5 j) ∧ f5 201 13 = 0 ∧ (∀ j, j < 13 → f5 202 j = nu (gB x13 (nI d) f5) 14 j) ∧ f5 202 13 = nI d) ∧
  (∀ w j, (w = 203 ∨ w = 204) → 2 ≤ j → f5 w j = f w j) ∧
  ((0 < gB x13 (nI d) f5 (5 + 2) 7 → gB x13 (nI d) f5 (5 + 2) 5 = f5 203 0 ∧ gB x13 (nI d) f5 (5 + 2) 6 = f5 203 1 ∧ 0 < gB x13 (nI d) f5 (5 + 2) 6) ∧
   (0 < gB x13 (nI d) f5 (14 + 2) 7 → gB x13 (nI d) f5 (14 + 2) 5 = f5 204 0 ∧ gB x13 (nI d) f5 (14 + 2) 6 = f5 204 1 ∧ 0 < gB x13 (nI d) f5 (14 + 2) 6)) ∧
  (nn (nu (gB x13 (nI d) f5) 5) ∧ nn (nu (gB x13 (nI d) f5) 14))
theorem spl_ne {f : pr_M} {t d : Nat} {x : Int32} (h : spl f t x) (hd : d < 100) (hx : x = nI d) : ¬ f 1 9 = 0 := by
  rcases h with ⟨-, e⟩ | ⟨e, -⟩
  · exact fun _ => nI_pos (show d < 2 ^ 31 by omega) (by rw [← hx, e]; decide)
  · exact e
theorem nn_cN {N : Nat → Int32} {du rd : Int32} {r : Nat} (h : nn N) (hd : 0 < du) (hr : r < 100) (e : rd = nI r) : nn (cN du rd N) := fun j hj hle => by
  rcases hj with rfl | rfl | rfl | rfl
  · simp only [cN] at hle ⊢
    rw [e] at hle ⊢
    by_cases r0 : r = 0
    · rw [r0]; rfl
    · exact absurd hle (nI_nle (by omega) (by omega))
  · simp only [cN] at hle
    exact absurd hle (Int32.not_le.mpr hd)
  · simp only [cN] at hle ⊢
    exact h 11 (by omega) hle
  · simp only [cN] at hle ⊢
    exact h 12 (by omega) hle
set_option maxHeartbeats 4000000 in
theorem j_pre {f : pr_M} {t s d : Nat} {x13 x14 x15 x16 : Int32} (I : Iv f t s d x13 x14 x15 x16) (ht : t < 48) (hd1 : 1 ≤ d) (hd9 : d ≤ 9) :
    ∃ f5, (∀ (sL : Nat) (sx : Nat → Int32) (x12 : Int32) (bk : Int32 → Int32 → Int32 → Int32 → Int32 → pr_M → Option (Int32 × pr_M)), J_L_law_319 sL sx 0 201 202 203 204 205 206 207 208 209 (nI d) x12 x13 x14 x15 x16 (nI t) bk f = pr_bd (F_X8_run 0 1 f5) (j_aft sL sx (nI d) x12 x13 x14 x15 (nI t) (if x13 < 0 then 0 else 1) (f 1 5) bk)) ∧ Pv f f5 t d x13 x16 := by
  obtain ⟨⟨h3, h4, h6⟩, ⟨hsp, hsv⟩, ⟨hd, hs⟩, ⟨⟨r0, hr0, er0⟩, nn0, ds0, ak0⟩, ⟨⟨r1, hr1, er1⟩, nn1, ds1, ak1⟩, ⟨hf, hw⟩, hr, hl, hto⟩ := I
  obtain ⟨f1, E1, p1, A1⟩ := l_lay (z := 201) (v := 0) uq0 (by decide) h3 (fun g hg => c_way0 (by rw [hg _ _ (by omega)]; exact h3))
  have h31 : f1 1 3 = 2 := by rw [A1 _ _ (by omega)]; exact h3
  obtain ⟨f2, E2, p2, A2⟩ := l_lay (z := 202) (v := nI d) (f := f1) uq1 (by decide) h31 (fun g hg => by
    rw [c_way1 (by rw [hg _ _ (by omega)]; exact h31), hg _ _ (by omega), A1 _ _ (by omega), hd])
  generalize hf3 : pr_up f2 209 t (f 1 5 - x16) = f3
  have A3 : ∀ c z, c ≠ 201 → c ≠ 202 → (c ≠ 209 ∨ z ≠ t) → f3 c z = f c z := fun c z z1 z2 z3 => by
    rw [← hf3, rd_n (by omega), A2 _ _ z2, A1 _ _ z1]
  have e1 : ∀ j, j < 14 → f3 201 j = st f 5 0 j := fun j hj => by
    rw [← hf3, rd_n (by omega), A2 _ _ (by omega)]; exact p1 j hj
  have e2 : ∀ j, j < 14 → f3 202 j = st f 14 (nI d) j := fun j hj => by
    rw [← hf3, rd_n (by omega), p2 j hj]
    unfold st
    rw [nu_same (a := f) fun k z hk => A1 _ _ (by omega)]
  have e9 : f3 209 t = f 1 5 - x16 := by rw [← hf3, rd_e ⟨rfl, rfl⟩]
  have n1 : ∀ j, j < 13 → f3 201 j = nu f 5 j := fun j hj => by
    rw [e1 j (by omega)]; unfold st; rw [if_neg (by omega)]
  have n2 : ∀ j, j < 13 → f3 202 j = nu f 14 j := fun j hj => by
    rw [e2 j (by omega)]; unfold st; rw [if_neg (by omega)]
  -- a splice comes to unit 0
  have c0 : ∃ f4 : pr_M, (if x13 = 0 then pr_bd (F_L_comes 0 0 201 203 x14 x15 f3) (fun (_ : Unit) (g : pr_M) => some ((), g)) else some ((), f3)) = some ((), f4) ∧ (∀ j, j < 13 → f4 201 j = if x13 = 0 then cN x15 (f (5 + 1) 1 + f (5 + 1) 9) (nu f 5) j else nu f 5 j) ∧ f4 201 13 = 0 ∧
      (x13 = 0 → f4 203 0 = x14 ∧ f4 203 1 = x15) ∧ (¬ x13 = 0 → f4 203 0 = f 203 0 ∧ f4 203 1 = f 203 1) ∧ (∀ c j, c ≠ 201 → (c ≠ 203 ∨ (j ≠ 0 ∧ j ≠ 1)) → f4 c j = f3 c j) := by
    by_cases e : x13 = 0
    · obtain ⟨g, F1, F2, F3, F4, F5, F6⟩ := l_comes (z := 201) (w := 203) (am := x14) (du := x15) (f := f3) uq0 (by decide) (by decide) (by decide) (by rw [A3 _ _ (by omega) (by omega) (by omega)]; exact h3)
      refine ⟨g, by rw [if_pos e, F1, pr_bd_s], fun j hj => ?_, ?_, fun _ => ⟨F4, F5⟩, fun c => absurd e c, F6⟩
      · rw [F2 j hj, if_pos e, A3 _ _ (by omega) (by omega) (by omega), A3 _ _ (by omega) (by omega) (by omega)]
        exact cN_cong n1 j hj
      · rw [F3, e1 13 (by decide)]; rfl
    · exact ⟨f3, by rw [if_neg e], fun j hj => by rw [if_neg e]; exact n1 j hj, by rw [e1 13 (by decide)]; rfl, fun c => absurd c e, fun _ => ⟨A3 _ _ (by omega) (by omega) (by omega), A3 _ _ (by omega) (by omega) (by omega)⟩, fun _ _ _ _ => rfl⟩
  obtain ⟨f4, G1, G2, G3, G4, G4', G5⟩ := c0
  have A4 : ∀ c z, c ≠ 201 → c ≠ 202 → (c ≠ 209 ∨ z ≠ t) → (c ≠ 203 ∨ (z ≠ 0 ∧ z ≠ 1)) → f4 c z = f c z := fun c z z1 z2 z3 z4 => by rw [G5 c z z1 z4, A3 c z z1 z2 z3]
  have n2' : ∀ j, j < 14 → f4 202 j = f3 202 j := fun j _ => G5 _ _ (by omega) (by omega)
  -- to unit 1
  have c1 : ∃ f5 : pr_M, (if x13 = nI d then pr_bd (F_L_comes 0 1 202 204 x14 x15 f4) (fun (_ : Unit) (g : pr_M) => some ((), g)) else some ((), f4)) = some ((), f5) ∧ (∀ j, j < 13 → f5 202 j = if x13 = nI d then cN x15 (f (14 + 1) 1 + f (14 + 1) 9) (nu f 14) j else nu f 14 j) ∧ f5 202 13 = nI d ∧
      (x13 = nI d → f5 204 0 = x14 ∧ f5 204 1 = x15) ∧ (¬ x13 = nI d → f5 204 0 = f 204 0 ∧ f5 204 1 = f 204 1) ∧ (∀ c j, c ≠ 202 → (c ≠ 204 ∨ (j ≠ 0 ∧ j ≠ 1)) → f5 c j = f4 c j) := by
    by_cases e : x13 = nI d
    · obtain ⟨g, F1, F2, F3, F4, F5, F6⟩ := l_comes (z := 202) (w := 204) (am := x14) (du := x15) (f := f4) uq1 (by decide) (by decide) (by decide) (by rw [A4 _ _ (by omega) (by omega) (by omega) (by omega)]; exact h3)
      refine ⟨g, by rw [if_pos e, F1, pr_bd_s], fun j hj => ?_, ?_, fun _ => ⟨F4, F5⟩, fun c => absurd e c, F6⟩
      · rw [F2 j hj, if_pos e, A4 _ _ (by omega) (by omega) (by omega) (by omega), A4 _ _ (by omega) (by omega) (by omega) (by omega)]
        exact cN_cong (fun j hj => by rw [n2' j (by omega)]; exact n2 j hj) j hj
      · rw [F3, n2' 13 (by decide), e2 13 (by decide)]; rfl
    · exact ⟨f4, by rw [if_neg e], fun j hj => by rw [if_neg e, n2' j (by omega)]; exact n2 j hj, by rw [n2' 13 (by decide), e2 13 (by decide)]; rfl, fun c => absurd c e, fun _ => ⟨A4 _ _ (by omega) (by omega) (by omega) (by omega), A4 _ _ (by omega) (by omega) (by omega) (by omega)⟩, fun _ _ _ _ => rfl⟩
  obtain ⟨f5, H1, H2, H3, H4, H4', H5⟩ := c1
  have A5 : ∀ c z, c ≠ 201 → c ≠ 202 → (c ≠ 209 ∨ z ≠ t) → (c ≠ 203 ∨ (z ≠ 0 ∧ z ≠ 1)) → (c ≠ 204 ∨ (z ≠ 0 ∧ z ≠ 1)) → f5 c z = f c z := fun c z z1 z2 z3 z4 z5 => by rw [H5 c z z2 z5, A4 c z z1 z2 z3 z4]
  have AC : ∀ c z, c < 200 → f5 c z = f c z := fun c z hc => A5 c z (by omega) (by omega) (by omega) (by omega) (by omega)
  have nu5 : nu f5 5 = nu f 5 := nu_same fun j z hj => AC _ _ (by omega)
  have nu14 : nu f5 14 = nu f 14 := nu_same fun j z hj => AC _ _ (by omega)
  have s0 : x13 = 0 → f 1 8 = x14 ∧ f 1 9 = x15 ∧ 0 < x15 := fun e => hsv (spl_ne (d := 0) hsp (by decide) e)
  have s1 : x13 = nI d → f 1 8 = x14 ∧ f 1 9 = x15 ∧ 0 < x15 := fun e => hsv (spl_ne hsp (by omega) e)
  have b5 : ∀ j, j < 13 → nu (gB x13 (nI d) f5) 5 j = if x13 = 0 then cN x15 (f (5 + 1) 1 + f (5 + 1) 9) (nu f 5) j else nu f 5 j := fun j hj => by
    rw [gB_nu5 hj, nu5, AC _ _ (by omega), AC _ _ (by omega), AC _ _ (by omega)]
    by_cases e : x13 = 0
    · rw [if_pos e, if_pos e, (s0 e).2.1]
    · rw [if_neg e, if_neg e]
  have b14 : ∀ j, j < 13 → nu (gB x13 (nI d) f5) 14 j = if x13 = nI d then cN x15 (f (14 + 1) 1 + f (14 + 1) 9) (nu f 14) j else nu f 14 j := fun j hj => by
    rw [gB_nu14 hj, nu14, AC _ _ (by omega), AC _ _ (by omega), AC _ _ (by omega)]
    by_cases e : x13 = nI d
    · rw [if_pos e, if_pos e, (s1 e).2.1]
    · rw [if_neg e, if_neg e]
  refine ⟨f5, fun sL sx x12 bk => ?_, AC, ⟨?_, ?_, ?_⟩, ⟨?_, fun j hj => A5 _ _ (by omega) (by omega) (by omega) (by omega) (by omega)⟩, ⟨fun j hj => ?_, ?_, fun j hj => ?_, H3⟩, fun w j hw hj => ?_, ⟨fun h => ?_, fun h => ?_⟩, ⟨fun j hj => ?_, fun j hj => ?_⟩⟩
  · rw [j_eq, E1, pr_bd_s, E2, pr_bd_s, c_count2, pr_b1_s, pr_gd_i ht (by decide), ri_cl (by omega), pr_lt_s, c_count2, pr_b1_s, rd_n (c := 1) (j := 5) (by omega), A2 1 5 (by omega), A1 1 5 (by omega), hf3]
    rw [show (if x13 = 0 then pr_bd (F_L_comes 0 0 201 203 x14 x15 f3) fun u320018 f320019 => some ((), f320019) else some ((), f3)) = some ((), f4) from G1, pr_bd_s]
    rw [show (if x13 = nI d then pr_bd (F_L_comes 0 1 202 204 x14 x15 f4) fun u320024 f320025 => some ((), f320025) else some ((), f4)) = some ((), f5) from H1, pr_bd_s, l_if, pr_b1_s]
  · funext j; exact A5 _ _ (by omega) (by omega) (by omega) (by omega) (by omega)
  · funext j; exact A5 _ _ (by omega) (by omega) (by omega) (by omega) (by omega)
  · funext j; exact A5 _ _ (by omega) (by omega) (by omega) (by omega) (by omega)
  · rw [H5 _ _ (by omega) (by omega), G5 _ _ (by omega) (by omega)]; exact e9
  · rw [b5 j hj, H5 _ _ (by omega) (by omega)]; exact G2 j hj
  · rw [H5 _ _ (by omega) (by omega)]; exact G3
  · rw [b14 j hj]; exact H2 j hj
  · exact A5 _ _ (by omega) (by omega) (by omega) (by omega) (by omega)
  · rw [gB_56.1, gB_56.2, AC 1 8 (by omega), AC (5 + 2) 5 (by omega), AC 1 9 (by omega), AC (5 + 2) 6 (by omega), H5 203 0 (by omega) (by omega), H5 203 1 (by omega) (by omega)]
    by_cases e : x13 = 0
    · obtain ⟨y1, y2, y3⟩ := s0 e
      rw [if_pos e, if_pos e, (G4 e).1, (G4 e).2]
      exact ⟨y1, y2, by rw [y2]; exact y3⟩
    · rw [if_neg e, if_neg e, (G4' e).1, (G4' e).2]
      refine ds0 ?_
      have := b5 10 (by decide)
      rw [if_neg e] at this
      have h7 : gB x13 (nI d) f5 (5 + 2) 7 = f (5 + 2) 7 := this
      rw [← h7]; exact h
  · rw [gB_146.1, gB_146.2, AC 1 8 (by omega), AC (14 + 2) 5 (by omega), AC 1 9 (by omega), AC (14 + 2) 6 (by omega)]
    by_cases e : x13 = nI d
    · obtain ⟨y1, y2, y3⟩ := s1 e
      rw [if_pos e, if_pos e, (H4 e).1, (H4 e).2]
      exact ⟨y1, y2, by rw [y2]; exact y3⟩
    · rw [if_neg e, if_neg e, (H4' e).1, (H4' e).2]
      refine ds1 ?_
      have := b14 10 (by decide)
      rw [if_neg e] at this
      have h7 : gB x13 (nI d) f5 (14 + 2) 7 = f (14 + 2) 7 := this
      rw [← h7]; exact h
  · rw [b5 j (by omega)]
    by_cases e : x13 = 0
    · rw [if_pos e]; exact nn_cN nn0 (s0 e).2.2 hr0 er0 j hj
    · rw [if_neg e]; exact nn0 j hj
  · rw [b14 j (by omega)]
    by_cases e : x13 = nI d
    · rw [if_pos e]; exact nn_cN nn1 (s1 e).2.2 hr1 er1 j hj
    · rw [if_neg e]; exact nn1 j hj
