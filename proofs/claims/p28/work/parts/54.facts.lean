/-! ===== what a splice leaves of a unit's numbers; equal numbers give equal answers ===== -/
theorem gS_same {q : Nat} {am du : Int32} {a b : pr_M} (h : ∀ j s, j < 9 → a (q + j) s = b (q + j) s) {j s : Nat} (hj : j < 9) : gS q am du a (q + j) s = gS q am du b (q + j) s := by
  have e1 := h 1 1 (by decide)
  have e9 := h 1 9 (by decide)
  unfold gS
  rw [e1, e9]
  unfold pr_up
  simp only [h j s hj]
theorem gB_5 {x dd : Int32} {f : pr_M} {j s : Nat} (hj : j < 9) : gB x dd f (5 + j) s = (if x = 0 then gS 5 (f 1 8) (f 1 9) f else f) (5 + j) s := by
  unfold gB
  by_cases e : x = dd
  · rw [if_pos e, gS_n (by omega) (by omega)]
  · rw [if_neg e]
theorem gB_14 {x dd : Int32} {f : pr_M} {j s : Nat} (hj : j < 9) : gB x dd f (14 + j) s = (if x = dd then gS 14 (f 1 8) (f 1 9) f else f) (14 + j) s := by
  have h0 : ∀ j s, j < 9 → (if x = 0 then gS 5 (f 1 8) (f 1 9) f else f) (14 + j) s = f (14 + j) s := fun j s hj => by
    by_cases e : x = 0
    · rw [if_pos e, gS_n (by omega) (by omega)]
    · rw [if_neg e]
  unfold gB
  by_cases e : x = dd
  · rw [if_pos e, if_pos e]
    exact gS_same h0 hj
  · rw [if_neg e, if_neg e]
    exact h0 j s hj
theorem gB_nu5 {x dd : Int32} {f : pr_M} {j : Nat} (hj : j < 13) : nu (gB x dd f) 5 j = if x = 0 then cN (f 1 9) (f (5 + 1) 1 + f (5 + 1) 9) (nu f 5) j else nu f 5 j := by
  rw [nu_same (a := if x = 0 then gS 5 (f 1 8) (f 1 9) f else f) (fun k s hk => gB_5 hk)]
  by_cases e : x = 0
  · rw [if_pos e, if_pos e, gS_nu hj]
  · rw [if_neg e, if_neg e]
theorem gB_nu14 {x dd : Int32} {f : pr_M} {j : Nat} (hj : j < 13) : nu (gB x dd f) 14 j = if x = dd then cN (f 1 9) (f (14 + 1) 1 + f (14 + 1) 9) (nu f 14) j else nu f 14 j := by
  rw [nu_same (a := if x = dd then gS 14 (f 1 8) (f 1 9) f else f) (fun k s hk => gB_14 hk)]
  by_cases e : x = dd
  · rw [if_pos e, if_pos e, gS_nu hj]
  · rw [if_neg e, if_neg e]
theorem gB_56 {x dd : Int32} {f : pr_M} : gB x dd f (5 + 2) 5 = (if x = 0 then f 1 8 else f (5 + 2) 5) ∧ gB x dd f (5 + 2) 6 = (if x = 0 then f 1 9 else f (5 + 2) 6) := by
  rw [gB_5 (by decide), gB_5 (by decide)]
  by_cases e : x = 0
  · rw [if_pos e, if_pos e, if_pos e]
    unfold gS
    simp (disch := omega) only [rd_n, rd_e, and_self]
  · rw [if_neg e, if_neg e, if_neg e]
    exact ⟨rfl, rfl⟩
theorem gB_146 {x dd : Int32} {f : pr_M} : gB x dd f (14 + 2) 5 = (if x = dd then f 1 8 else f (14 + 2) 5) ∧ gB x dd f (14 + 2) 6 = (if x = dd then f 1 9 else f (14 + 2) 6) := by
  rw [gB_14 (by decide), gB_14 (by decide)]
  by_cases e : x = dd
  · rw [if_pos e, if_pos e, if_pos e]
    unfold gS
    simp (disch := omega) only [rd_n, rd_e, and_self]
  · rw [if_neg e, if_neg e, if_neg e]
    exact ⟨rfl, rfl⟩
theorem cN_cong {du rd : Int32} {M N : Nat → Int32} (h : ∀ j, j < 13 → M j = N j) : ∀ j, j < 13 → cN du rd M j = cN du rd N j := fun j hj => by
  rcases k13 hj with rfl | rfl | rfl | rfl | rfl | rfl | rfl | rfl | rfl | rfl | rfl | rfl | rfl <;> simp only [cN] <;> exact h _ hj
theorem eN_cong {A B : Int32} {M N : Nat → Int32} (h : ∀ j, j < 13 → M j = N j) : ∀ j, j < 13 → eN A B M j = eN A B N j := fun j hj => by
  rcases k13 hj with rfl | rfl | rfl | rfl | rfl | rfl | rfl | rfl | rfl | rfl | rfl | rfl | rfl <;> simp only [eN] <;> simp only [h 0 (by decide), h 1 (by decide), h 2 (by decide), h 3 (by decide), h 4 (by decide), h 5 (by decide), h 6 (by decide), h 7 (by decide), h 8 (by decide), h 9 (by decide), h 10 (by decide), h 11 (by decide), h 12 (by decide)]
theorem w_R_cong {S M N : Nat → Int32} {err fo : Int32} (h : ∀ j, j < 13 → M j = N j) : w_R S M err fo = w_R S N err fo := by
  unfold w_R
  rw [h 11 (by decide), h 12 (by decide), h 8 (by decide), h 6 (by decide), h 7 (by decide)]
theorem w_N_cong {S M N : Nat → Int32} {R m k ch : Int32} (h : ∀ j, j < 13 → M j = N j) : ∀ j, j < 13 → w_N S M R m k ch j = w_N S N R m k ch j := fun j hj => by
  rcases k13 hj with rfl | rfl | rfl | rfl | rfl | rfl | rfl | rfl | rfl | rfl | rfl | rfl | rfl <;> simp only [w_N] <;> simp only [h 0 (by decide), h 1 (by decide), h 2 (by decide), h 3 (by decide), h 4 (by decide), h 5 (by decide), h 6 (by decide), h 7 (by decide), h 8 (by decide), h 9 (by decide), h 10 (by decide), h 11 (by decide), h 12 (by decide)]
theorem w_A_cong {S M N : Nat → Int32} {R m k A : Int32} (h : ∀ j, j < 13 → M j = N j) : w_A S M R m k A = w_A S N R m k A := by
  unfold w_A
  rw [h 5 (by decide), h 0 (by decide), h 4 (by decide)]
theorem w_B_cong {S M N : Nat → Int32} {R m k A : Int32} (h : ∀ j, j < 13 → M j = N j) : w_B S M R m k A = w_B S N R m k A := by
  unfold w_B
  rw [h 5 (by decide), h 1 (by decide)]
theorem p_off_cong {M N : Nat → Int32} {am du pu ch : Int32} (h : ∀ j, j < 13 → M j = N j) : p_off M am du pu ch = p_off N am du pu ch := by
  unfold p_off
  rw [h 0 (by decide), h 10 (by decide), h 3 (by decide)]
theorem p_sk_cong {M N : Nat → Int32} (h : ∀ j, j < 13 → M j = N j) : p_sk M = p_sk N := by
  unfold p_sk
  rw [h 2 (by decide), h 1 (by decide)]
/-- the correction that is under way is the one that the law knows -/
theorem w_AB {S N : Nat → Int32} {R m k ch A A' B B' : Int32} (h : 0 < N 5 → A = A' ∧ B = B') (h5 : 0 < w_N S N R m k ch 5) : w_A S N R m k A = w_A S N R m k A' ∧ w_B S N R m k B = w_B S N R m k B' := by
  unfold w_A w_B
  simp only [w_N] at h5
  by_cases h0 : R = 0
  · rw [if_pos h0] at h5
    rw [if_pos h0, if_pos h0, if_pos h0, if_pos h0]
    exact h h5
  · rw [if_neg h0] at h5
    rw [if_neg h0, if_neg h0, if_neg h0, if_neg h0]
    unfold k_ad
    unfold k_wt at h5
    by_cases c : N 5 = 0 ∧ (¬ rv_abs m ≤ S 6 ∨ ¬ rv_abs k ≤ S 6)
    · rw [if_pos c, if_pos c, if_pos c, if_pos c]
      exact ⟨rfl, rfl⟩
    · rw [if_neg c] at h5
      rw [if_neg c, if_neg c, if_neg c, if_neg c]
      exact h h5
theorem less_nn {x : Int32} : ri_less x ≤ 0 → ri_less x = 0 := by
  unfold ri_less
  by_cases c : x ≤ 0
  · rw [if_pos c]; exact fun _ => rfl
  · rw [if_neg c]
    obtain ⟨j, hj, rfl⟩ := nI_of (x := x) (fun z => c (Int32.le_of_lt z))
    intro h
    by_cases h0 : j = 0
    · subst h0; exact absurd (show nI 0 ≤ 0 by decide) c
    · obtain ⟨i, rfl⟩ : ∃ i, j = i + 1 := ⟨j - 1, by omega⟩
      rw [nI_pred] at h ⊢
      by_cases h1 : i = 0
      · subst h1; decide
      · exact absurd h (nI_nle (by omega) (by omega))
theorem less_pos {x : Int32} (h : 0 < ri_less x) : 0 < x := by
  unfold ri_less at h
  by_cases c : x ≤ 0
  · rw [if_pos c] at h; exact absurd h (by decide)
  · exact ri_pos c
theorem e5_pos {A B : Int32} {N : Nat → Int32} (h : 0 < eN A B N 5) : 0 < N 5 := by
  simp only [eN] at h
  by_cases c : N 5 ≤ 0
  · rw [if_pos c] at h; exact h
  · exact ri_pos c
