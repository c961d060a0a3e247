/-- the press at p and the model's row are one state, at the time t -/
def rp (a b : pr_M) (p t : Nat) : Prop := ∃ n, 2 ≤ n ∧ n ≤ 5 ∧ a p 3 = nI n ∧ b 1 1766 = nI n ∧ a p 4 = nI t ∧ b 1 1765 = nI t ∧ a p 5 = b 1 1767 ∧ a p 6 = b 1 1768 ∧ rp_sp a b p n t ∧ tot a b p ∧ (∀ i, i < 128 → i < t → a (p + 2) i = b 1 (1778 + i)) ∧
  (∀ u, u < n → uk a b p u t t) ∧ (0 < t → ∀ u, u < n → ru_s (ru_U a (uq p u)) (ru_V b u)) ∧ (∀ u, u < n → a (uq p u + 6) 4 = 0 ∨ a (uq p u + 6) 4 = 1) ∧ (a (uq p 0 + 6) 4 = 0 ∧ a (uq p 0 + 6) 7 = 0)
theorem ru_s_01 {U : Nat → Nat → Int32} {V : Nat → Int32} (h : ru_s U V) : U 6 4 = 0 ∨ U 6 4 = 1 := by
  rcases h with h | h
  · exact Or.inl h.1
  · exact Or.inr h.1
set_option maxHeartbeats 1000000 in
theorem op_repeat {a b : pr_M} {p t : Nat} (ht : t ≤ 199999) (h : rp a b p t) :
    ∃ a' b', F_X3_makeRepeat p a = some ((), a') ∧ F_X9_makeRepeat 0 b = some ((), b') ∧ rp a' b' p (t + 1) ∧ (∀ c s, (c < p ∨ p + 49 ≤ c) → a' c s = a c s) ∧ (∀ c k, c ≠ 1 → b' c k = b c k) ∧
      (∀ u s, b 1 1766 = nI s → s ≤ 5 → 1 ≤ u → u < s → F_X9_isSeen 0 (nI u) b = some (a' (uq p u + 6) 4)) ∧ ph_S b b' ∧ b' 1 1766 = b 1 1766 ∧ (∀ k, 1906 ≤ k → b' 1 k = b 1 k) ∧ b' 1 1767 = b 1 1767 := by
  obtain ⟨n, hn2, hn5, h3, h66, h4, h65, h5, h6, hsp, hto, hch, hk, hs, h01, h0⟩ := h
  have hm : t % 128 < 128 := Nat.mod_lt _ (by decide)
  have e1 : (1778 : Int32) + (nI t - nI t / 128 * 128) = nI (1778 + t % 128) := rm_ring (by omega) (N := 1778) (by decide) rfl
  -- the change of the speed
  obtain ⟨d, hd⟩ : ∃ d, d = a p 5 - a p 6 := ⟨_, rfl⟩
  have hdb : d = b 1 1767 - b 1 1768 := by rw [hd, h5, h6]
  let a0 := pr_up a (p + 2) (t % 128) d
  let b0 := pr_up b 1 (1778 + t % 128) d
  have A0 : ∀ c s, c ≠ p + 2 → a0 c s = a c s := fun c s hc => rd_n (Or.inl hc)
  have B0 : ∀ c k, (c ≠ 1 ∨ k < 1778 ∨ 1906 ≤ k) → b0 c k = b c k := fun c k hc => rd_n (by omega)
  have hch0 : ∀ i, i < 128 → i < t + 1 → a0 (p + 2) i = b0 1 (1778 + i) := fun i g1 g2 => by
    by_cases hi : i = t % 128
    · subst hi
      rw [show a0 (p + 2) (t % 128) = d from rd_e ⟨rfl, rfl⟩, show b0 1 (1778 + t % 128) = d from rd_e ⟨rfl, rfl⟩]
    · rw [show a0 (p + 2) i = a (p + 2) i from rd_n (Or.inr hi), show b0 1 (1778 + i) = b 1 (1778 + i) from rd_n (by omega)]
      exact hch i g1 (by omega)
  have hk0 : ∀ u, u < n → uk a0 b0 p u t t := fun u hu => ru_k_same (hk u hu) (fun j s hj => A0 _ _ (by dsimp only [uq]; omega)) (fun k hk => B0 _ _ (by omega))
  have hwb : ∀ u, u < 5 → wy b0 u = wy b u := fun u hu => wy_cong fun k _ _ => B0 _ _ (by omega)
  have hsp0 : rp_sp a0 b0 p n t := by
    unfold rp_sp at hsp ⊢
    rw [A0 p 9 (by omega), A0 p 7 (by omega), A0 p 8 (by omega), B0 1 1771 (by omega), B0 1 1769 (by omega), B0 1 1770 (by omega), hwb _ (by omega)]
    exact hsp
  obtain ⟨a1, b1, E1, E2, K1, S1, A1, B1, T1, sp1⟩ := op_bring (p := p) hn2 hn5 (by omega) (by rw [A0 _ _ (by omega)]; exact h3) (by rw [B0 _ _ (by omega)]; exact h66) (by rw [A0 _ _ (by omega)]; exact h4) hsp0 hk0
  have g3 : a1 p 3 = nI n := by rw [A1 _ _ (by omega), A0 _ _ (by omega)]; exact h3
  have g4 : a1 p 4 = nI t := by rw [A1 _ _ (by omega), A0 _ _ (by omega)]; exact h4
  have g66 : b1 1 1766 = nI n := by rw [B1 _ _ (by omega), B0 _ _ (by omega)]; exact h66
  have g65 : b1 1 1765 = nI t := by rw [B1 _ _ (by omega), B0 _ _ (by omega)]; exact h65
  obtain ⟨a2, b2, E3, E4, K2, S2, A2, B2, T2⟩ := lp_print (p := p) (d := d) hn5 (show t ≤ 200000 by omega) n 0 pr_fuel pr_fuel a1 b1 (by omega) (by show n < 4000; omega) (by show n < 4000; omega) g3 g66 g4 g65 (by rw [B1 _ _ (by omega)]; exact rd_e ⟨rfl, rfl⟩) (fun u hu => absurd hu (by omega)) (fun u _ hu => K1 u hu)
  have q3 : a2 p 3 = nI n := by rw [A2 _ _ (by omega)]; exact g3
  have q4 : a2 p 4 = nI t := by rw [A2 _ _ (by omega)]; exact g4
  have q66 : b2 1 1766 = nI n := by rw [B2 _ _ (by omega)]; exact g66
  have q65 : b2 1 1765 = nI t := by rw [B2 _ _ (by omega)]; exact g65
  have to2 : tot a2 b2 p := fun j hj => by
    rw [A2 _ _ (by omega), A1 _ _ (by omega), A0 _ _ (by omega), B2 _ _ (by omega), B1 _ _ (by omega), B0 _ _ (by omega)]; exact hto j hj
  have wk2 : wy_ok b2 (n - 1) := wok_of (a := a2) (p := p) (t := t) (T := t + 1) fun u hu => (K2 u hu).1
  obtain ⟨a3, b3, E5, E6, ⟨K30, Z30⟩, K3, S3, to3, A3, B3, T3⟩ := lp_watch (p := p) hn5 (show t ≤ 200000 by omega) (n - 1) 1 pr_fuel pr_fuel a2 b2 (by omega) (by omega) (by show n - 1 < 4000; omega) (by show n - 1 < 4000; omega) q3 q66 q4 q65
    (fun i g1 g2 => by rw [A2 _ _ (by omega), A1 _ _ (by omega), B2 _ _ (by omega), B1 _ _ (by omega)]; exact hch0 i g1 g2) to2 wk2 (K2 0 (by omega)) (fun u h1 hu => absurd hu (by omega)) (fun u _ hu => K2 u hu)
  have Sens0 : ∀ s, a3 (uq p 0 + 6) s = a (uq p 0 + 6) s := fun s => by
    rw [S3, S2, S1, A0 _ _ (by dsimp only [uq]; omega)]
  have K3' : ∀ u, u < n → uk a3 b3 p u (t + 1) (t + 1) ∧ ru_s (ru_U a3 (uq p u)) (ru_V b3 u) := fun u hu => by
    rcases Nat.eq_zero_or_pos u with e | e
    · subst e
      exact ⟨ru_k_up K30, Or.inl ⟨by dsimp only [ru_U]; rw [Sens0]; exact h0.1, by dsimp only [ru_U]; rw [Sens0]; exact h0.2, Z30⟩⟩
    · exact ⟨(K3 u e hu).1, (K3 u e hu).2.1⟩
  have r3 : a3 p 3 = nI n := by rw [A3 _ _ (by omega) (by omega)]; exact q3
  have r66 : b3 1 1766 = nI n := by rw [B3 _ _ (by omega)]; exact q66
  obtain ⟨a4, b4, E7, E8, K4, S4, A4, B4, T4⟩ := lp_end (p := p) (t := t + 1) hn5 n 0 pr_fuel pr_fuel a3 b3 (by omega) (by show n < 4000; omega) (by show n < 4000; omega) r3 r66 K3'
  -- the header
  have a4p : ∀ s, a4 p s = a p s := fun s => by
    rw [A4 _ _ (by omega), A3 _ _ (by omega) (by omega), A2 _ _ (by omega), A1 _ _ (by omega), A0 _ _ (by omega)]
  have b4h : ∀ k, 1765 ≤ k → k < 1771 → b4 1 k = b 1 k := fun k g1 g2 => by
    rw [B4 _ _ (by omega), B3 _ _ (by omega), B2 _ _ (by omega), B1 _ _ (by omega), B0 _ _ (by omega)]
  have pS : ph_S b b4 := fun u j hu hj => by
    rw [T4 u j hu hj, T3 u j hu hj, T2 u j hu hj, T1 u j hu hj, B0 _ _ (by omega)]
  let a6 := pr_up (pr_up a4 p 6 (a p 5)) p 4 (nI (t + 1))
  let b6 := pr_up (pr_up b4 1 1768 (b 1 1767)) 1 1765 (nI (t + 1))
  have A6 : ∀ c s, c ≠ p → a6 c s = a4 c s := fun c s hc => by
    show pr_up (pr_up a4 p 6 (a p 5)) p 4 (nI (t + 1)) c s = _
    rw [rd_n (by omega), rd_n (by omega)]
  have B6 : ∀ c k, (c ≠ 1 ∨ (k ≠ 1768 ∧ k ≠ 1765)) → b6 c k = b4 c k := fun c k hc => by
    show pr_up (pr_up b4 1 1768 (b 1 1767)) 1 1765 (nI (t + 1)) c k = _
    rw [rd_n (by omega), rd_n (by omega)]
  have A6p : ∀ s, s ≠ 6 → s ≠ 4 → a6 p s = a p s := fun s g1 g2 => by
    show pr_up (pr_up a4 p 6 (a p 5)) p 4 (nI (t + 1)) p s = _
    rw [rd_n (by omega), rd_n (by omega), a4p]
  have hpS6 : ph_S b b6 := fun u j hu hj => by rw [B6 _ _ (by omega)]; exact pS u j hu hj
  refine ⟨a6, b6, ?_, ?_, ⟨n, hn2, hn5, ?_, ?_, rd_e ⟨rfl, rfl⟩, rd_e ⟨rfl, rfl⟩, ?_, ?_, ?_, fun j hj => ?_, fun i g1 g2 => ?_, fun u hu => ?_, fun _ u hu => ?_, fun u hu => ?_, ?_, ?_⟩, fun c s hc => ?_, fun c k hc => ?_, fun u s x1 x2 x3 x4 => ?_, hpS6, ?_, fun k hk => ?_, ?_⟩
  · unfold F_X3_makeRepeat
    rw [h4, ri_127 (show t < 2 ^ 31 by omega), pr_gd_i hm (by decide), ri_cl (by omega), ← hd, pr_lt_s, show pr_up a (p + 2) (t % 128) d = a0 from rfl, E1, pr_bd_s, show L_X3_makeRepeat_29 p d pr_fuel 0 a1 = L_X3_makeRepeat_29 p d pr_fuel (nI 0) a1 from rfl, E3, pr_bd_s, show L_X3_makeRepeat_61 p pr_fuel 0 1 a2 = L_X3_makeRepeat_61 p pr_fuel (nI (wy b2 (1 - 1))) (nI 1) a2 from rfl, E5, pr_bd_s, show L_X3_makeRepeat_101 p pr_fuel 0 a3 = L_X3_makeRepeat_101 p pr_fuel (nI 0) a3 from rfl, E7, pr_bd_s, pr_lt_s, pr_lt_s]
    rw [rd_n (c := p) (j := 4) (by omega), a4p 5, a4p 4, h4, nI_1]
  · unfold F_X9_makeRepeat
    simp only [Nat.zero_add, ri_cl_1765, ri_cl_1767, ri_cl_1768]
    rw [h65, e1, pr_gd_i (show 1778 + t % 128 < 1906 by omega) (by decide), ri_cl (by omega), ← hdb, pr_lt_s, show pr_up b 1 (1778 + t % 128) d = b0 from rfl, E2, pr_bd_s, show L_X9_makeRepeat_44 0 pr_fuel 0 b1 = L_X9_makeRepeat_44 0 pr_fuel (nI 0) b1 from rfl, E4, pr_bd_s, show L_X9_makeRepeat_69 0 pr_fuel 1 b2 = L_X9_makeRepeat_69 0 pr_fuel (nI 1) b2 from rfl, E6, pr_bd_s, show L_X9_makeRepeat_130 0 pr_fuel 0 b3 = L_X9_makeRepeat_130 0 pr_fuel (nI 0) b3 from rfl, E8, pr_bd_s, pr_lt_s, pr_lt_s]
    rw [rd_n (c := 1) (j := 1765) (by omega), b4h 1767 (by omega) (by omega), b4h 1765 (by omega) (by omega), h65, nI_1]
  · rw [A6p 3 (by omega) (by omega)]; exact h3
  · rw [B6 _ _ (by omega), b4h _ (by omega) (by omega)]; exact h66
  · rw [A6p 5 (by omega) (by omega), B6 _ _ (by omega), b4h _ (by omega) (by omega)]; exact h5
  · show pr_up (pr_up a4 p 6 (a p 5)) p 4 (nI (t + 1)) p 6 = pr_up (pr_up b4 1 1768 (b 1 1767)) 1 1765 (nI (t + 1)) 1 1768
    rw [rd_n (by omega), rd_e ⟨rfl, rfl⟩, rd_n (by omega), rd_e ⟨rfl, rfl⟩]; exact h5
  · have w6 : wy b6 (n - 1) = wy b1 (n - 1) := by
      rw [ph_wy hpS6 (by omega), ← hwb _ (by omega), ← ph_wy T1 (by omega)]
    have b6k : ∀ k, 1769 ≤ k → k ≤ 1771 → b6 1 k = b1 1 k := fun k g1 g2 => by
      rw [B6 _ _ (by omega), B4 _ _ (by omega), B3 _ _ (by omega), B2 _ _ (by omega)]
    have a6k : ∀ s, 7 ≤ s → a6 p s = a1 p s := fun s g1 => by
      rw [A6p s (by omega) (by omega), A1 _ _ (by omega), A0 _ _ (by omega)]
    unfold rp_sp at sp1 ⊢
    rw [w6, b6k 1771 (by omega) (by omega), b6k 1769 (by omega) (by omega), b6k 1770 (by omega) (by omega), a6k 9 (by omega), a6k 8 (by omega), a6k 7 (by omega)]
    exact sp1
  · rw [A6 _ _ (by omega), A4 _ _ (by omega), B6 _ _ (by omega), B4 _ _ (by omega)]; exact to3 j hj
  · rw [A6 _ _ (by omega), A4 _ _ (by omega), A3 _ _ (by omega) (by omega), A2 _ _ (by omega), A1 _ _ (by omega), B6 _ _ (by omega), B4 _ _ (by omega), B3 _ _ (by omega), B2 _ _ (by omega), B1 _ _ (by omega)]
    exact hch0 i g1 g2
  · exact ru_k_same (K4 u hu).1 (fun j s hj => A6 _ _ (by dsimp only [uq]; omega)) (fun k hk => B6 _ _ (by omega))
  · exact ru_s_same (K4 u hu).2 (fun j s hj => A6 _ _ (by dsimp only [uq]; omega)) (fun k hk => B6 _ _ (by omega))
  · rw [A6 _ _ (by dsimp only [uq]; omega)]; exact ru_s_01 (K4 u hu).2
  · rw [A6 _ _ (by dsimp only [uq]; omega), S4 0 4 (by omega), Sens0]; exact h0.1
  · rw [A6 _ _ (by dsimp only [uq]; omega), S4 0 7 (by omega), Sens0]; exact h0.2
  · rw [A6 _ _ (by omega), A4 _ _ (by omega), A3 _ _ (by omega) (by omega), A2 _ _ (by omega), A1 _ _ (by omega), A0 _ _ (by omega)]
  · rw [B6 _ _ (by omega), B4 _ _ (by omega), B3 _ _ (by omega), B2 _ _ (by omega), B1 _ _ (by omega), B0 _ _ (by omega)]
  · have hsn : s = n := (nI_eq (by omega) (by omega)).mp (x1.symm.trans h66)
    subst hsn
    obtain ⟨s1, e1, e2, e3⟩ := (hk u x4).2.2.1.2.1
    dsimp only [ru_V] at e1
    rw [rm_isSeen x3 (by omega) (wy_ok_le (wok_of hk) (by omega)) e1 e3 (by omega) h65, A6 _ _ (by dsimp only [uq]; omega), S4 u 4 (by omega)]
    have p2 : ph_S b b3 := fun u j hu hj => by rw [T3 u j hu hj, T2 u j hu hj, T1 u j hu hj, B0 _ _ (by omega)]
    rw [(K3 u x3 x4).2.2 s1 (by rw [p2 u 1 (by omega) (by decide)]; exact e1) e3, ph_wy p2 (by omega)]
  · rw [B6 _ _ (by omega), b4h _ (by omega) (by omega)]
  · rw [B6 _ _ (by omega), B4 _ _ (by omega), B3 _ _ (by omega), B2 _ _ (by omega), B1 _ _ (by omega), B0 _ _ (by omega)]
  · rw [B6 _ _ (by omega), b4h _ (by omega) (by omega)]
