/-! ===== a splice comes to a unit; the press' splice ===== -/
theorem op_splice {a b : pr_M} {q u t T : Nat} {am du : Int32} (hu : u < 5) (K : ru_k (ru_U a q) (ru_V b u) t T) :
    ∃ a' b1 b2 b', F_X7_beSpliced q am du a = some ((), a') ∧ F_X9_giveDisturbance 0 (nI u) am du b = some ((), b1) ∧ F_X9_lay 0 (nI u) 15 0 b1 = some ((), b2) ∧ (∃ r1 r9, F_X9_of 0 (nI u) 1 b2 = some r1 ∧ F_X9_of 0 (nI u) 9 b2 = some r9 ∧ F_X9_lay 0 (nI u) 18 (r1 + r9) b2 = some ((), b')) ∧
      ru_k (ru_U a' q) (ru_V b' u) t T ∧ (∀ s, a' (q + 6) s = a (q + 6) s) ∧ fr_C a a' q ∧ fr_M b b' u ∧ st_M b b' u := by
  obtain ⟨⟨a1, ⟨a2, a3, a4, a5, a6, a7⟩, ⟨a8, a9, a10, a11, a12, a13, a14⟩, a15⟩, hb, ⟨c1, c2, c3, c4⟩, ⟨kk, l1, l2, l3, l4⟩, hr, ho⟩ := K
  dsimp only [ru_U, ru_V, ru_b] at *
  have eC : F_X7_beSpliced q am du a = some ((), pr_up (pr_up (pr_up (pr_up (pr_up a (q + 2) 5 am) (q + 2) 6 du) (q + 2) 7 du) (q + 5) 1 0) (q + 5) 4 (b 1 (353 * u + 1) + b 1 (353 * u + 9))) := by
    unfold F_X7_beSpliced F_X4_beDisturbed
    simp (disch := omega) only [pr_lt_s, pr_bd_s, rc_set_1, rc_set_9, pr_b1_s, rd_n, a1 1 (by decide), a1 9 (by decide)]
  have e1 : F_X9_giveDisturbance 0 (nI u) am du b = some ((), pr_up (pr_up (pr_up b 1 (353 * u + 21) am) 1 (353 * u + 22) du) 1 (353 * u + 23) du) := by
    unfold F_X9_giveDisturbance
    simp only [rm_lay_21 _ _ hu, rm_lay_22 _ _ hu, rm_lay_23 _ _ hu, pr_bd_s]
  refine ⟨_, _, _, _, eC, e1, rm_lay_15 _ _ hu, ⟨b 1 (353 * u + 1), b 1 (353 * u + 9), ?_, ?_, rm_lay_18 _ _ hu⟩, ⟨⟨fun j hj => ?_, ?_, ?_, ?_⟩, fun h => ?_, ⟨?_, ?_, ?_, fun h => ?_⟩, ⟨kk, ?_, ?_, l3, fun j h1 h2 => ?_⟩, fun i h1 h2 => ?_, fun hT => ?_⟩, fun s => ?_, fun c s h => ?_, fun c k h => ?_, fun j hj => ?_⟩ <;> (try dsimp only [ru_U, ru_V])
  · rw [rm_of_1 _ hu]; simp (disch := omega) only [rd_n]
  · rw [rm_of_9 _ hu]; simp (disch := omega) only [rd_n]
  · simp (disch := omega) only [rd_n]; exact a1 j hj
  · simp (disch := omega) only [rd_n, rd_e]; exact ⟨a2, a3, a4, trivial, trivial, trivial⟩
  · simp (disch := omega) only [rd_n, rd_e]; exact ⟨a8, trivial, a10, a11, trivial, a13, a14⟩
  · simp (disch := omega) only [rd_n]; exact a15
  · dsimp only [ru_U, ru_V] at h; simp (disch := omega) only [rd_n] at h ⊢; exact hb h
  · simp (disch := omega) only [rd_n]; exact c1
  · simp (disch := omega) only [rd_n]; exact c2
  · simp (disch := omega) only [rd_n]; exact c3
  · dsimp only [ru_U, ru_V] at h; simp (disch := omega) only [rd_n, rd_e] at h ⊢; exact h
  · simp (disch := omega) only [rd_n]; exact l1
  · simp (disch := omega) only [rd_n]; exact l2
  · simp (disch := omega) only [rd_n]; exact l4 j h1 h2
  · simp (disch := omega) only [rd_n]; exact hr i h1 h2
  · simp (disch := omega) only [rd_n]; exact ho hT
  · simp (disch := omega) only [rd_n]
  · simp (disch := omega) only [rd_n]
  · simp (disch := omega) only [rd_n]
  · simp (disch := omega) only [rd_n]
abbrev uq (p u : Nat) : Nat := p + 1 + 3 + 9 * u
/-- unit u of the press at p: all but what was seen -/
abbrev uk (a b : pr_M) (p u t T : Nat) : Prop := ru_k (ru_U a (uq p u)) (ru_V b u) t T
theorem uk_fr {a a' b b' : pr_M} {p u v t T : Nat} (h : uk a b p u t T) (huv : u ≠ v) (hA : fr_C a a' (uq p v)) (hB : fr_M b b' v) : uk a' b' p u t T :=
  ru_k_same h (fun j s hj => hA _ _ (by dsimp only [uq]; omega)) (fun k hk => hB _ _ (by omega))
/-- a phase of a repeat: only the units' cells and places change -/
def ph_C (a a' : pr_M) (p n : Nat) : Prop := ∀ c s, (c < p + 4 ∨ p + 4 + 9 * n ≤ c) → a' c s = a c s
def ph_M (b b' : pr_M) : Prop := ∀ c k, (c ≠ 1 ∨ 1765 ≤ k) → b' c k = b c k
def ph_S (b b' : pr_M) : Prop := ∀ u j, u < 5 → j < 11 → b' 1 (353 * u + j) = b 1 (353 * u + j)
theorem ph_C_of {a a' : pr_M} {p n u : Nat} (hu : u < n) (h : fr_C a a' (uq p u)) : ph_C a a' p n := fun c s hc => h c s (by dsimp only [uq]; omega)
theorem ph_M_of {b b' : pr_M} {u : Nat} (hu : u < 5) (h : fr_M b b' u) : ph_M b b' := fun c k hc => h c k (by omega)
theorem ph_S_of {b b' : pr_M} {u : Nat} (h : fr_M b b' u) (h2 : st_M b b' u) : ph_S b b' := fun v j hv hj => by
  by_cases e : v = u
  · subst e; exact h2 j hj
  · exact h _ _ (by omega)
theorem ph_C.tr {a a' a'' : pr_M} {p n : Nat} (h : ph_C a a' p n) (h2 : ph_C a' a'' p n) : ph_C a a'' p n := fun c s hc => by rw [h2 c s hc, h c s hc]
theorem ph_M.tr {b b' b'' : pr_M} (h : ph_M b b') (h2 : ph_M b' b'') : ph_M b b'' := fun c s hc => by rw [h2 c s hc, h c s hc]
theorem ph_S.tr {b b' b'' : pr_M} (h : ph_S b b') (h2 : ph_S b' b'') : ph_S b b'' := fun u j hu hj => by rw [h2 u j hu hj, h u j hu hj]
theorem ph_wy {b b' : pr_M} (h : ph_S b b') {u : Nat} (hu : u < 5) : wy b' u = wy b u := wy_cong fun k _ h2 => h k 0 (by omega) (by decide)
theorem ph_wok {b b' : pr_M} (h : ph_S b b') {u : Nat} (hu : u < 5) (hw : wy_ok b u) : wy_ok b' u := fun k h1 h2 => by rw [h k 0 (by omega) (by decide)]; exact hw k h1 h2
theorem ri_ug {i : Nat} (hi : i < 5) {β : Type} {X : Option β} : pr_gd (¬ (nI i < 0 ∨ 5 ≤ Int32.toNatClampNeg (nI i))) X = X := pr_gd_i hi (by decide)
theorem ri_eq_way {t s w : Nat} (hs : s ≤ t) (ht : t ≤ 200000) (hw : w ≤ 100) : (nI t = nI s + nI w) ↔ w = t - s := by
  rw [nI_add, nI_eq (by omega) (by omega)]
  omega
set_option maxHeartbeats 4000000 in
theorem lp_splice {p n t s0 : Nat} {am du : Int32} (hn5 : n ≤ 5) (ht : t ≤ 200000) (hs0 : s0 ≤ t) : ∀ (m i N M : Nat) (a b : pr_M), i + m = n → m < N → m < M → a p 3 = nI n → b 1 1766 = nI n → a p 4 = nI t → a p 7 = nI s0 → a p 8 = am → a p 9 = du → b 1 1769 = am → b 1 1770 = du → wy_ok b (n - 1) → (∀ u, u < n → uk a b p u t t) →
    ∃ a' b', L_X3_bringSplice_12 p N (nI (wy b (i - 1))) (nI i) a = some ((), a') ∧ L_X9_goOnSplice_25 0 (nI (t - s0)) M (nI i) b = some ((), b') ∧ (∀ u, u < n → uk a' b' p u t t) ∧ (∀ u s, a' (uq p u + 6) s = a (uq p u + 6) s) ∧ ph_C a a' p n ∧ ph_M b b' ∧ ph_S b b'
  | 0, i, N, M, a, b, hi, hN, hM, h3, h66, h4, h7, h8, h9, g69, g70, hw, hk => by
    obtain ⟨N, rfl⟩ : ∃ j, N = j + 1 := ⟨N - 1, by omega⟩
    obtain ⟨M, rfl⟩ : ∃ j, M = j + 1 := ⟨M - 1, by omega⟩
    have e : nI n ≤ nI i := nI_le (by omega) (by omega)
    refine ⟨a, b, ?_, ?_, hk, fun _ _ => rfl, fun _ _ _ => rfl, fun _ _ _ => rfl, fun _ _ _ _ => rfl⟩
    · rw [L_X3_bringSplice_12, h3, if_pos e]
    · rw [L_X9_goOnSplice_25, Nat.zero_add, ri_cl_1766, h66, if_pos e]
  | m + 1, i, N, M, a, b, hi, hN, hM, h3, h66, h4, h7, h8, h9, g69, g70, hw, hk => by
    obtain ⟨N, rfl⟩ : ∃ j, N = j + 1 := ⟨N - 1, by omega⟩
    obtain ⟨M, rfl⟩ : ∃ j, M = j + 1 := ⟨M - 1, by omega⟩
    have hin : i < n := by omega
    have hi5 : i < 5 := by omega
    have e : ¬ nI n ≤ nI i := nI_ge hin (by omega)
    have hwi : wy_ok b i := wy_ok_le hw (by omega)
    have hwl := (wy_le hwi).2
    have hM1 : F_X9_way 0 (nI i) b = some (nI (wy b i)) := rm_way hi5 hwi
    -- the class's way behind this unit
    have hC1 : L_X3_bringSplice_12 p (N + 1) (nI (wy b (i - 1))) (nI i) a = if nI t = nI s0 + nI (wy b i) then pr_bd (F_X7_beSpliced (uq p i) am du a) fun _ f9 => L_X3_bringSplice_12 p N (nI (wy b i)) (nI (i + 1)) f9 else L_X3_bringSplice_12 p N (nI (wy b i)) (nI (i + 1)) a := by
      rw [L_X3_bringSplice_12, h3, if_neg e, h4, h7, h8, h9, nI_1]
      by_cases h0 : i = 0
      · subst h0
        rw [if_pos (show nI 0 ≤ 0 by decide), ri_ug (by decide), ri_cl (by decide)]
      · rw [if_neg (nI_nle (by omega) (by omega)), ri_ug hi5, ri_cl (by omega), rc_set_0, pr_b1_s]
        obtain ⟨d, d1, d2, d3⟩ := hwi i (by omega) (Nat.le_refl _)
        have hd0 : a (p + 1 + 3 + 9 * i + 1) 0 = nI d := by
          rw [← d1]; exact (hk i hin).1.1 0 (by decide)
        rw [hd0, nI_add, ← wy_s (by omega) d1 d3]
    have hM2 : L_X9_goOnSplice_25 0 (nI (t - s0)) (M + 1) (nI i) b = if nI (wy b i) = nI (t - s0) then (pr_bd (F_X9_giveDisturbance 0 (nI i) am du b) fun _ f8 => pr_bd (F_X9_lay 0 (nI i) 15 0 f8) fun _ f11 => pr_b1 (F_X9_of 0 (nI i) 1 f11) fun r13 => pr_b1 (F_X9_of 0 (nI i) 9 f11) fun r15 => pr_bd (F_X9_lay 0 (nI i) 18 (r13 + r15) f11) fun _ f18 => L_X9_goOnSplice_25 0 (nI (t - s0)) M (nI (i + 1)) f18) else L_X9_goOnSplice_25 0 (nI (t - s0)) M (nI (i + 1)) b := by
      rw [L_X9_goOnSplice_25, Nat.zero_add, ri_cl_1766, h66, if_neg e, hM1, pr_b1_s, ri_cl_1769, ri_cl_1770, g69, g70, nI_1]
    by_cases hc : wy b i = t - s0
    · obtain ⟨a1, b1, b2, b3, E1, E2, E3, ⟨r1, r9, E4, E5, E6⟩, K1, S1, A1, B1, T1⟩ := op_splice (am := am) (du := du) hi5 (hk i hin)
      have pS : ph_S b b3 := ph_S_of B1 T1
      obtain ⟨a', b', F1, F2, K2, S2, A2, B2, T2⟩ := lp_splice (p := p) (am := am) (du := du) hn5 ht hs0 m (i + 1) N M a1 b3 (by omega) (by omega) (by omega) (by rw [A1 _ _ (by dsimp only [uq]; omega)]; exact h3) (by rw [B1 _ _ (by omega)]; exact h66) (by rw [A1 _ _ (by dsimp only [uq]; omega)]; exact h4) (by rw [A1 _ _ (by dsimp only [uq]; omega)]; exact h7) (by rw [A1 _ _ (by dsimp only [uq]; omega)]; exact h8) (by rw [A1 _ _ (by dsimp only [uq]; omega)]; exact h9) (by rw [B1 _ _ (by omega)]; exact g69) (by rw [B1 _ _ (by omega)]; exact g70) (ph_wok pS (by omega) hw) (fun u hu => by
        by_cases hui : u = i
        · subst hui; exact K1
        · exact uk_fr (hk u hu) hui A1 B1)
      rw [Nat.add_sub_cancel, ph_wy pS hi5] at F1
      refine ⟨a', b', ?_, ?_, K2, fun u s => ?_, (ph_C_of hin A1).tr A2, (ph_M_of hi5 B1).tr B2, pS.tr T2⟩
      · rw [hC1, if_pos ((ri_eq_way hs0 ht (by omega)).mpr hc), E1, pr_bd_s, F1]
      · rw [hM2, if_pos (by rw [hc]), E2, pr_bd_s, E3, pr_bd_s, E4, pr_b1_s, E5, pr_b1_s, E6, pr_bd_s, F2]
      · rw [S2 u s]
        by_cases hui : u = i
        · subst hui; exact S1 s
        · exact A1 _ _ (by dsimp only [uq]; omega)
    · obtain ⟨a', b', F1, F2, K2, S2, A2, B2, T2⟩ := lp_splice (p := p) (am := am) (du := du) hn5 ht hs0 m (i + 1) N M a b (by omega) (by omega) (by omega) h3 h66 h4 h7 h8 h9 g69 g70 hw hk
      rw [Nat.add_sub_cancel] at F1
      refine ⟨a', b', ?_, ?_, K2, S2, A2, B2, T2⟩
      · rw [hC1, if_neg (fun h => hc ((ri_eq_way hs0 ht (by omega)).mp h)), F1]
      · rw [hM2, if_neg (fun h => hc ((nI_eq (by omega) (by omega)).mp h)), F2]
