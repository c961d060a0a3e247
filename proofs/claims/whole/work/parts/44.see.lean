/-! ===== ways, and the seeing of a piece ===== -/
def wy (b : pr_M) : Nat → Nat
  | 0 => 0
  | u + 1 => wy b u + Int32.toNatClampNeg (b 1 (353 * (u + 1) + 0))
/-- the distances of the units up to u -/
def wy_ok (b : pr_M) (u : Nat) : Prop := ∀ k, 1 ≤ k → k ≤ u → ∃ d, b 1 (353 * k + 0) = nI d ∧ 1 ≤ d ∧ d ≤ 20
theorem wy_s {b : pr_M} {k d : Nat} (hk : 1 ≤ k) (h : b 1 (353 * k + 0) = nI d) (hd : d ≤ 20) : wy b k = wy b (k - 1) + d := by
  obtain ⟨j, rfl⟩ : ∃ j, k = j + 1 := ⟨k - 1, by omega⟩
  show wy b j + Int32.toNatClampNeg (b 1 (353 * (j + 1) + 0)) = _
  rw [h, ri_cl (by omega)]
  rfl
theorem wy_le {b : pr_M} : ∀ {u : Nat}, wy_ok b u → u ≤ wy b u ∧ wy b u ≤ 20 * u
  | 0, _ => ⟨Nat.le_refl _, Nat.le_refl _⟩
  | u + 1, h => by
    obtain ⟨d, h1, h2, h3⟩ := h (u + 1) (by omega) (Nat.le_refl _)
    have h4 := wy_le (u := u) (fun k a c => h k a (by omega))
    have h5 := wy_s (k := u + 1) (by omega) h1 h3
    rw [Nat.add_sub_cancel] at h5
    omega
theorem wy_mono {b : pr_M} {u v : Nat} (h : wy_ok b v) (huv : u < v) : wy b u < wy b v := by
  induction v with
  | zero => omega
  | succ v ih =>
    obtain ⟨d, h1, h2, h3⟩ := h (v + 1) (by omega) (Nat.le_refl _)
    have h5 := wy_s (k := v + 1) (by omega) h1 h3
    rw [Nat.add_sub_cancel] at h5
    by_cases e : u = v
    · subst e; omega
    · have := ih (fun k a c => h k a (by omega)) (by omega)
      omega
theorem wy_cong {b b' : pr_M} : ∀ {u : Nat}, (∀ k, 1 ≤ k → k ≤ u → b' 1 (353 * k + 0) = b 1 (353 * k + 0)) → wy b' u = wy b u
  | 0, _ => rfl
  | u + 1, h => by
    show wy b' u + _ = wy b u + _
    rw [h (u + 1) (by omega) (Nat.le_refl _), wy_cong (u := u) (fun k a c => h k a (by omega))]
theorem wy_ok_le {b : pr_M} {u v : Nat} (h : wy_ok b v) (huv : u ≤ v) : wy_ok b u := fun k a c => h k a (by omega)
theorem rm_way_l {b : pr_M} {u : Nat} (hu : u < 5) (h : wy_ok b u) : ∀ (m k n : Nat), k + m = u + 1 → 1 ≤ k → m < n → L_X9_way_4 0 (nI u) n (nI (wy b (k - 1))) (nI k) b = some (nI (wy b u))
  | 0, k, n, hk, h1, hn => by
    obtain ⟨n, rfl⟩ : ∃ j, n = j + 1 := ⟨n - 1, by omega⟩
    have hk' : k = u + 1 := by omega
    subst hk'
    rw [L_X9_way_4, if_pos (nI_lt (by omega) (by omega)), Nat.add_sub_cancel]
  | m + 1, k, n, hk, h1, hn => by
    obtain ⟨n, rfl⟩ : ∃ j, n = j + 1 := ⟨n - 1, by omega⟩
    obtain ⟨d, e1, e2, e3⟩ := h k h1 (by omega)
    rw [L_X9_way_4, if_neg (nI_nlt (by omega) (by omega)), rm_of_0 _ (by omega), pr_b1_s, e1, nI_add, ← wy_s h1 e1 e3, nI_1]
    have := rm_way_l hu h m (k + 1) n (by omega) (by omega) (by omega)
    rw [Nat.add_sub_cancel] at this
    exact this
theorem rm_way {b : pr_M} {u : Nat} (hu : u < 5) (h : wy_ok b u) : F_X9_way 0 (nI u) b = some (nI (wy b u)) := by
  have := rm_way_l hu h u 1 pr_fuel (by omega) (by omega) (by show u < 4000; omega)
  unfold F_X9_way
  rw [show (0 : Int32) = nI (wy b (1 - 1)) from rfl, show (1 : Int32) = nI 1 from rfl, this, pr_b1_s]
theorem rm_isSeen {b : pr_M} {u s t : Nat} (hu1 : 1 ≤ u) (hu : u < 5) (h : wy_ok b u) (hs : b 1 (353 * u + 1) = nI s) (hs1 : s ≤ 10) (ht : t ≤ 200000) (hT : b 1 1765 = nI t) :
    F_X9_isSeen 0 (nI u) b = some (if t < s + wy b u then 0 else 1) := by
  have hw := (wy_le h).2
  unfold F_X9_isSeen
  rw [if_neg (nI_nle (by omega) (by omega)), rm_of_1 _ hu, pr_b1_s, hs, rm_way hu h, pr_b1_s, nI_add, ri_cl_1765, hT]
  by_cases c : t < s + wy b u
  · rw [if_pos (nI_lt c (by omega)), if_pos c]
  · rw [if_neg (nI_nlt (by omega) (by omega)), if_neg c]
theorem rm_isSeen0 {b : pr_M} : F_X9_isSeen 0 0 b = some 0 := by
  unfold F_X9_isSeen
  rw [if_pos (by decide)]
theorem rm_see {b : pr_M} {u s t k : Nat} (hu1 : 1 ≤ u) (hu : u < 5) (h : wy_ok b u) (hs : b 1 (353 * u + 1) = nI s) (hs1 : s ≤ 10) (ht : t ≤ 200000) (hT : b 1 1765 = nI t) (hle : s + wy b u ≤ t) (hk : b 1 (353 * u + 36) = nI k) (hkt : k ≤ t) :
    F_X9_see 0 (nI u) b = some ((), pr_up (pr_up (pr_up (pr_up b 1 (353 * u + 31) (b 1 (353 * u + (97 + (t - s) % 128)) - b 1 (97 + (t - s - wy b u) % 128))) 1 (353 * u + 32) (b 1 (353 * u + (225 + (t - s) % 128)))) 1 (353 * u + (37 + k % 60)) (b 1 (353 * u + (97 + (t - s) % 128)) - b 1 (97 + (t - s - wy b u) % 128))) 1 (353 * u + 36) (nI (k + 1))) := by
  have hw := (wy_le h).2
  have e1 : nI t - nI s = nI (t - s) := pk_sub (by omega)
  have e2 : nI (t - s) - nI (wy b u) = nI (t - s - wy b u) := pk_sub (by omega)
  have e3 : (97 : Int32) + (nI (t - s) - nI (t - s) / 128 * 128) = nI (97 + (t - s) % 128) := rm_ring (by omega) (N := 97) (by decide) rfl
  have e4 : (225 : Int32) + (nI (t - s) - nI (t - s) / 128 * 128) = nI (225 + (t - s) % 128) := rm_ring (by omega) (N := 225) (by decide) rfl
  have e5 : (353 : Int32) * 0 + 97 + (nI (t - s - wy b u) - nI (t - s - wy b u) / 128 * 128) = nI (97 + (t - s - wy b u) % 128) := by
    rw [show (353 : Int32) * 0 + 97 = 97 by decide]
    exact rm_ring (by omega) (N := 97) (by decide) rfl
  have hm1 : (t - s) % 128 < 128 := Nat.mod_lt _ (by decide)
  have hm2 : (t - s - wy b u) % 128 < 128 := Nat.mod_lt _ (by decide)
  have hm3 : k % 60 < 60 := Nat.mod_lt _ (by decide)
  unfold F_X9_see
  simp only [Nat.zero_add, rm_of_1 _ hu, pr_b1_s, hs, ri_cl_1765, hT, e1, e3, rm_of (w := 97 + (t - s) % 128) _ hu (by omega), F_X9_place, rm_way hu h, e2, e5]
  rw [pr_gd_i (show 97 + (t - s - wy b u) % 128 < 1906 by omega) (by decide), ri_cl (show 97 + (t - s - wy b u) % 128 < 2 ^ 31 by omega), rm_lay_31 _ _ hu, pr_bd_s]
  generalize b 1 (353 * u + (97 + (t - s) % 128)) - b 1 (97 + (t - s - wy b u) % 128) = x
  have hT2 : (pr_up b 1 (353 * u + 31) x) 1 1765 = nI t := by
    simp (disch := omega) only [rd_n, hT]
  simp only [e4, rm_of (w := 225 + (t - s) % 128) _ hu (by omega), pr_b1_s, rm_lay_32 _ _ hu, pr_bd_s]
  unfold F_X9_keepError
  simp (disch := omega) only [rm_of_36 _ hu, pr_b1_s, rd_n, hk]
  have e6 : (37 : Int32) + (nI k - nI k / 60 * 60) = nI (37 + k % 60) := by rw [ri_r60 (by omega)]; exact nI_add 37 _
  simp (disch := omega) only [e6, rm_lay (w := 37 + k % 60) _ _ hu (by omega), pr_bd_s, rm_of_36 _ hu, pr_b1_s, rd_n, hk, nI_1, rm_lay_36 _ _ hu]
theorem rc_offset {c t : Nat} {a : pr_M} (ht : t < 2 ^ 31) : F_X4_offsetAt c (nI t) a = some (a (c + 1) (t % 128)) := by
  have hm : t % 128 < 128 := Nat.mod_lt _ (by decide)
  unfold F_X4_offsetAt
  rw [ri_127 ht, pr_gd_i hm (by decide), ri_cl (by omega)]
theorem rc_skew {c t : Nat} {a : pr_M} (ht : t < 2 ^ 31) : F_X4_skewAt c (nI t) a = some (a (c + 2) (t % 128)) := by
  have hm : t % 128 < 128 := Nat.mod_lt _ (by decide)
  unfold F_X4_skewAt
  rw [ri_127 ht, pr_gd_i hm (by decide), ri_cl (by omega)]
theorem rc_see {q k : Nat} {a : pr_M} {x y : Int32} (hk : a (q + 7) 1 = nI k) (hkt : k < 2 ^ 30) : F_X5_seePiece (q + 6) x y a = some ((), pr_up (pr_up (pr_up (pr_up (pr_up (pr_up a (q + 6) 4 1) (q + 6) 7 0) (q + 6) 5 x) (q + 6) 6 y) (q + 6 + 1 + 1) (k % 64) x) (q + 6 + 1) 1 (nI (k + 1))) := by
  have hm : k % 64 < 64 := Nat.mod_lt _ (by decide)
  unfold F_X5_seePiece F_X1_add
  have hk2 : a (q + 6 + 1) 1 = nI k := hk
  simp (disch := omega) only [pr_lt, rd_n, hk2, ri_63 (show k < 2 ^ 31 by omega)]
  rw [pr_gd_i hm (by decide), ri_cl (by omega)]
  simp (disch := omega) only [rd_n, hk2, nI_1, pr_bd_s]
/-- a piece is seen: both sides -/
theorem op_see {a b : pr_M} {q p0 u s t : Nat} (hu1 : 1 ≤ u) (hu : u < 5) (hw : wy_ok b u) (hs : b 1 (353 * u + 1) = nI s) (hs0 : 1 ≤ s) (hs1 : s ≤ 10) (ht : t ≤ 200000) (hT : b 1 1765 = nI t) (hle : s + wy b u ≤ t)
    (K : ru_k (ru_U a q) (ru_V b u) t (t + 1)) (K0 : ru_r (ru_U a p0) (ru_V b 0) (t + 1)) (h7 : ∀ s, ru_U a q 6 s = a (q + 6) s) :
    ∃ a' b' x y, F_X4_offsetAt (q + 2) (nI (t - s)) a = some x ∧ F_X4_offsetAt (p0 + 2) (nI (t - s - wy b u)) a = some y ∧
      (∃ z, F_X4_skewAt (q + 2) (nI (t - s)) a = some z ∧ F_X5_seePiece (q + 6) (x - y) z a = some ((), a') ∧ a' (q + 6) 6 = z ∧ b' 1 (353 * u + 32) = z) ∧ F_X9_see 0 (nI u) b = some ((), b') ∧
      ru_k (ru_U a' q) (ru_V b' u) (t + 1) (t + 1) ∧ a' (q + 6) 4 = 1 ∧ a' (q + 6) 7 = 0 ∧ a' (q + 6) 5 = x - y ∧ b' 1 (353 * u + 31) = x - y ∧ (∀ k, 33 ≤ k → k ≤ 35 → b' 1 (353 * u + k) = b 1 (353 * u + k)) ∧ fr_C a a' q ∧ fr_M b b' u ∧ st_M b b' u := by
  obtain ⟨⟨a1, a2, a8, a9⟩, hb, ⟨c1, c2, c3, c4⟩, ⟨k, l1, l2, l3, l4⟩, hr, ho⟩ := K
  have hww := (wy_le hw).2
  have hm1 : (t - s) % 128 < 128 := Nat.mod_lt _ (by decide)
  have hm2 : (t - s - wy b u) % 128 < 128 := Nat.mod_lt _ (by decide)
  have hm3 : k % 60 < 60 := Nat.mod_lt _ (by decide)
  have r1 := hr ((t - s) % 128) hm1 (by omega)
  have r2 := (K0 ((t - s - wy b u) % 128) hm2 (by omega)).1
  dsimp only [ru_U, ru_V, ru_b] at *
  have em := rm_see hu1 hu hw hs hs1 ht hT hle l2 l3
  rw [← r1.1, ← r1.2, show b 1 (97 + (t - s - wy b u) % 128) = a (p0 + 3) ((t - s - wy b u) % 128) by rw [r2]; congr 1; omega] at em
  have ec := rc_see (q := q) (x := a (q + 3) ((t - s) % 128) - a (p0 + 3) ((t - s - wy b u) % 128)) (y := a (q + 4) ((t - s) % 128)) l1 (by omega)
  refine ⟨_, _, _, _, rc_offset (by omega), rc_offset (by omega), ⟨_, rc_skew (by omega), ec, ?_, ?_⟩, em, ⟨⟨fun j hj => ?_, ?_, ?_, ?_⟩, fun h => ?_, ⟨?_, ?_, ?_, ?_⟩, ⟨k + 1, ?_, ?_, by omega, fun j h1 h2 => ?_⟩, fun i h1 h2 => ?_, fun hT => ?_⟩, ?_, ?_, ?_, ?_, fun k h1 h2 => ?_, fun c s h => ?_, fun c k h => ?_, fun j hj => ?_⟩ <;> (try dsimp only [ru_U, ru_V])
  · simp (disch := omega) only [rd_n, rd_e]
  · simp (disch := omega) only [rd_n, rd_e]
  · simp (disch := omega) only [rd_n]; exact a1 j hj
  · simp (disch := omega) only [rd_n]; exact a2
  · simp (disch := omega) only [rd_n]; exact a8
  · simp (disch := omega) only [rd_n]; exact a9
  · dsimp only [ru_U, ru_V] at h; simp (disch := omega) only [rd_n] at h ⊢; exact hb h
  · simp (disch := omega) only [rd_n]; exact c1
  · simp (disch := omega) only [rd_n]; exact c2
  · simp (disch := omega) only [rd_n]; exact c3
  · simp (disch := omega) only [rd_n]; exact c4
  · simp (disch := omega) only [rd_e]
  · simp (disch := omega) only [rd_e]
  · by_cases hj : j = k
    · subst hj
      simp (disch := omega) only [rd_n, rd_e]
    · simp (disch := omega) only [rd_n]
      exact l4 j (by omega) (by omega)
  · simp (disch := omega) only [rd_n]; exact hr i h1 h2
  · simp (disch := omega) only [rd_n]; exact ho hT
  · simp (disch := omega) only [rd_n, rd_e]
  · simp (disch := omega) only [rd_n, rd_e]
  · simp (disch := omega) only [rd_n, rd_e]
  · simp (disch := omega) only [rd_n, rd_e]
  · simp (disch := omega) only [rd_n]
  · simp (disch := omega) only [rd_n]
  · simp (disch := omega) only [rd_n]
  · simp (disch := omega) only [rd_n]
