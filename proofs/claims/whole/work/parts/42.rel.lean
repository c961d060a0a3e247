/-! ===== a unit's two pictures: the class's nine cells, the model's 353 places ===== -/
theorem rd_n {f : pr_M} {c c' j j' : Nat} {v : Int32} (h : c ≠ c' ∨ j ≠ j') : pr_up f c' j' v c j = f c j := by
  unfold pr_up
  rw [if_neg]
  rintro ⟨h1, h2⟩
  rcases h with h | h
  · exact h h1
  · exact h h2
theorem rd_e {f : pr_M} {c c' j j' : Nat} {v : Int32} (h : c = c' ∧ j = j') : pr_up f c' j' v c j = v := if_pos h
abbrev ru_U (a : pr_M) (q : Nat) : Nat → Nat → Int32 := fun j s => a (q + j) s
abbrev ru_V (b : pr_M) (u : Nat) : Nat → Int32 := fun k => b 1 (353 * u + k)
def ru_a (U : Nat → Nat → Int32) (V : Nat → Int32) : Prop :=
  (∀ j, j < 11 → U 1 j = V j) ∧ (U 2 2 = V 11 ∧ U 2 3 = V 12 ∧ U 2 4 = V 13 ∧ U 2 5 = V 21 ∧ U 2 6 = V 22 ∧ U 2 7 = V 23) ∧
  (U 5 0 = V 14 ∧ U 5 1 = V 15 ∧ U 5 2 = V 16 ∧ U 5 3 = V 17 ∧ U 5 4 = V 18 ∧ U 5 5 = V 19 ∧ U 5 6 = V 20) ∧ (U 6 1 = V 24 ∧ U 6 2 = V 25 ∧ U 6 3 = V 26)
def ru_b (U : Nat → Nat → Int32) (V : Nat → Int32) : Prop := 0 < V 16 → U 5 7 = V 27 ∧ U 5 8 = V 28
def ru_c (V : Nat → Int32) : Prop := (∃ d, V 0 = nI d ∧ 1 ≤ d ∧ d ≤ 20) ∧ (∃ s, V 1 = nI s ∧ 1 ≤ s ∧ s ≤ 10) ∧ (∃ w, V 16 = nI w ∧ w ≤ 11) ∧ (0 < V 23 → 0 < V 22)
def ru_l (U : Nat → Nat → Int32) (V : Nat → Int32) (t : Nat) : Prop := ∃ k, U 7 1 = nI k ∧ V 36 = nI k ∧ k ≤ t ∧ ∀ j, j < k → k ≤ j + 60 → U 8 (j % 64) = V (37 + j % 60)
def ru_r (U : Nat → Nat → Int32) (V : Nat → Int32) (T : Nat) : Prop := ∀ i, i < 128 → i < T → U 3 i = V (97 + i) ∧ U 4 i = V (225 + i)
def ru_o (V : Nat → Int32) (T : Nat) : Prop := 0 < T → V 29 = V (97 + (T - 1) % 128) ∧ V 30 = V (225 + (T - 1) % 128)
abbrev ri_no : Int32 := -1000000006
def ru_z (V : Nat → Int32) : Prop := V 31 = ri_no ∧ V 32 = ri_no ∧ V 33 = ri_no ∧ V 34 = ri_no ∧ V 35 = ri_no
/-- what the sensor saw -/
def ru_s (U : Nat → Nat → Int32) (V : Nat → Int32) : Prop :=
  (U 6 4 = 0 ∧ U 6 7 = 0 ∧ ru_z V) ∨
  (U 6 4 = 1 ∧ V 31 = U 6 5 ∧ V 32 = U 6 6 ∧ V 33 = U 6 7 ∧ ((U 6 7 = 0 ∧ V 34 = ri_no ∧ V 35 = ri_no) ∨ ((U 6 7 = 1 ∨ U 6 7 = 2) ∧ V 34 = U 6 8 ∧ V 35 = U 6 9)))
/-- all but what was seen -/
def ru_k (U : Nat → Nat → Int32) (V : Nat → Int32) (t T : Nat) : Prop := ru_a U V ∧ ru_b U V ∧ ru_c V ∧ ru_l U V t ∧ ru_r U V T ∧ ru_o V T
theorem ru_k_same {U U' : Nat → Nat → Int32} {V V' : Nat → Int32} {t T : Nat} (h : ru_k U V t T) (hU : ∀ j s, j < 9 → U' j s = U j s) (hV : ∀ k, k < 353 → V' k = V k) : ru_k U' V' t T := by
  obtain ⟨⟨a1, a2, a3, a4⟩, hb, ⟨c1, c2, c3, c4⟩, ⟨k, l1, l2, l3, l4⟩, hr, ho⟩ := h
  refine ⟨⟨fun j hj => ?_, ?_, ?_, ?_⟩, ?_, ⟨?_, ?_, ?_, ?_⟩, ⟨k, ?_, ?_, l3, fun j h1 h2 => ?_⟩, fun i h1 h2 => ?_, fun hT => ?_⟩
  · rw [hU _ _ (by decide), hV _ (by omega)]; exact a1 j hj
  · simp (disch := decide) only [hU, hV]; exact a2
  · simp (disch := decide) only [hU, hV]; exact a3
  · simp (disch := decide) only [hU, hV]; exact a4
  · unfold ru_b; simp (disch := decide) only [hU, hV]; exact hb
  · rw [hV _ (by decide)]; exact c1
  · rw [hV _ (by decide)]; exact c2
  · rw [hV _ (by decide)]; exact c3
  · rw [hV _ (by decide), hV _ (by decide)]; exact c4
  · rw [hU _ _ (by decide)]; exact l1
  · rw [hV _ (by decide)]; exact l2
  · rw [hU _ _ (by decide), hV _ (by omega)]; exact l4 j h1 h2
  · rw [hU _ _ (by decide), hU _ _ (by decide), hV _ (by omega), hV _ (by omega)]; exact hr i h1 h2
  · rw [hV _ (by decide), hV _ (by omega), hV _ (by decide), hV _ (by omega)]; exact ho hT
theorem ru_s_same {U U' : Nat → Nat → Int32} {V V' : Nat → Int32} (h : ru_s U V) (hU : ∀ j s, j < 9 → U' j s = U j s) (hV : ∀ k, k < 353 → V' k = V k) : ru_s U' V' := by
  unfold ru_s ru_z at h ⊢
  simp (disch := decide) only [hU, hV]
  exact h
/-- what a step on one unit leaves: the class's other cells, the model's other places -/
def fr_C (a a' : pr_M) (q : Nat) : Prop := ∀ c s, (c < q ∨ q + 9 ≤ c) → a' c s = a c s
def fr_M (b b' : pr_M) (u : Nat) : Prop := ∀ c k, (c ≠ 1 ∨ k < 353 * u ∨ 353 * u + 353 ≤ k) → b' c k = b c k
/-- the unit's settings stay -/
def st_M (b b' : pr_M) (u : Nat) : Prop := ∀ j, j < 11 → b' 1 (353 * u + j) = b 1 (353 * u + j)
theorem op_print {a b : pr_M} {q u t : Nat} (hu : u < 5) (ht : t < 2 ^ 31) (hT : b 1 1765 = nI t) (K : ru_k (ru_U a q) (ru_V b u) t t) :
    ∃ a' b', F_X7_printPiece q (nI t) (b 1 (1778 + t % 128)) a = some ((), a') ∧ F_X9_print 0 (nI u) b = some ((), b') ∧ ru_k (ru_U a' q) (ru_V b' u) t (t + 1) ∧ ru_z (ru_V b' u) ∧ (∀ s, a' (q + 6) s = a (q + 6) s) ∧ fr_C a a' q ∧ fr_M b b' u ∧ st_M b b' u := by
  obtain ⟨⟨a1, ⟨a2, a3, a4, a5, a6, a7⟩, a8, a9⟩, hb, ⟨c1, c2, c3, c4⟩, ⟨k, l1, l2, l3, l4⟩, hr, ho⟩ := K
  dsimp only [ru_U, ru_V] at *
  obtain ⟨b', e1, e2⟩ := rm_print hu ht hT c4
  have hm : t % 128 < 128 := Nat.mod_lt _ (by decide)
  have hcl : 0 < a (q + 2) 7 → 0 < a (q + 2) 6 := by rw [a7, a6]; exact c4
  have ev : a (q + 2) 2 + rv_dis (a (q + 2) 5) (a (q + 2) 7) (a (q + 2) 6) + (a (q + 1) 10 - a (q + 5) 0) * b 1 (1778 + t % 128) / 100 = b 1 (353 * u + 11) + rv_dis (b 1 (353 * u + 21)) (b 1 (353 * u + 23)) (b 1 (353 * u + 22)) + (b 1 (353 * u + 10) - b 1 (353 * u + 14)) * b 1 (1778 + t % 128) / 100 := by
    rw [a2, a5, a6, a7, a8.1, a1 10 (by decide)]
  have ew : a (q + 2) 4 + a (q + 2) 3 = b 1 (353 * u + 13) + b 1 (353 * u + 12) := by rw [a4, a3]
  generalize hx : b 1 (353 * u + 11) + rv_dis (b 1 (353 * u + 21)) (b 1 (353 * u + 23)) (b 1 (353 * u + 22)) + (b 1 (353 * u + 10) - b 1 (353 * u + 14)) * b 1 (1778 + t % 128) / 100 = x at e2 ev
  generalize hy : b 1 (353 * u + 13) + b 1 (353 * u + 12) = y at e2 ew
  have hV : ∀ k, k ≠ 97 + t % 128 → k ≠ 225 + t % 128 → (k < 29 ∨ 35 < k) → b' 1 (353 * u + k) = b 1 (353 * u + k) := fun k h1 h2 h3 => by
    rw [e2]; simp (disch := omega) only [rd_n]
  have hx1 : b' 1 (353 * u + (97 + t % 128)) = x := by rw [e2]; simp (disch := omega) only [rd_n, rd_e]
  have hy1 : b' 1 (353 * u + (225 + t % 128)) = y := by rw [e2]; simp (disch := omega) only [rd_n, rd_e]
  have hx2 : b' 1 (353 * u + 29) = x := by rw [e2]; simp (disch := omega) only [rd_n, rd_e]
  have hy2 : b' 1 (353 * u + 30) = y := by rw [e2]; simp (disch := omega) only [rd_n, rd_e]
  have ec := rc_print (q := q) (d := b 1 (1778 + t % 128)) ht hcl
  rw [ev, ew] at ec
  have hU : ∀ j s, (j ≠ 3 ∧ j ≠ 4) → (pr_up (pr_up a (q + 2 + 1) (t % 128) x) (q + 2 + 2) (t % 128) y) (q + j) s = a (q + j) s := fun j s h => by
    simp (disch := omega) only [rd_n]
  refine ⟨_, b', ec, e1, ⟨⟨fun j hj => ?_, ?_, ?_, ?_⟩, fun h => ?_, ⟨?_, ?_, ?_, ?_⟩, ⟨k, ?_, ?_, l3, fun j h1 h2 => ?_⟩, fun i h1 h2 => ?_, fun _ => ?_⟩, ?_, fun s => hU 6 s (by decide), fun c s h => ?_, fun c k h => ?_, fun j hj => hV j (by omega) (by omega) (by omega)⟩
  · dsimp only [ru_U, ru_V]; rw [hU 1 j (by decide), hV j (by omega) (by omega) (by omega)]; exact a1 j hj
  · dsimp only [ru_U, ru_V]; simp (disch := omega) only [hU, hV]; exact ⟨a2, a3, a4, a5, a6, a7⟩
  · dsimp only [ru_U, ru_V]; simp (disch := omega) only [hU, hV]; exact a8
  · dsimp only [ru_U, ru_V]; simp (disch := omega) only [hU, hV]; exact a9
  · dsimp only [ru_U, ru_V] at h ⊢; simp (disch := omega) only [hU, hV] at h ⊢; exact hb h
  · dsimp only [ru_U, ru_V]; simp (disch := omega) only [hV]; exact c1
  · dsimp only [ru_U, ru_V]; simp (disch := omega) only [hV]; exact c2
  · dsimp only [ru_U, ru_V]; simp (disch := omega) only [hV]; exact c3
  · dsimp only [ru_U, ru_V]; simp (disch := omega) only [hV]; exact c4
  · dsimp only [ru_U, ru_V]; simp (disch := omega) only [hU]; exact l1
  · dsimp only [ru_U, ru_V]; simp (disch := omega) only [hV]; exact l2
  · dsimp only [ru_U, ru_V]; rw [hU 8 _ (by decide), hV _ (by omega) (by omega) (by omega)]; exact l4 j h1 h2
  · dsimp only [ru_U, ru_V]
    by_cases hi : i = t % 128
    · subst hi
      rw [hx1, hy1]
      simp (disch := omega) only [rd_n, rd_e, and_self]
    · have h3 : i < t := by omega
      rw [hV _ (by omega) (by omega) (by omega), hV _ (by omega) (by omega) (by omega)]
      simp (disch := omega) only [rd_n]
      exact hr i h1 h3
  · dsimp only [ru_U, ru_V]
    rw [show t + 1 - 1 = t from rfl, hx1, hy1, hx2, hy2]
    exact ⟨rfl, rfl⟩
  · unfold ru_z
    dsimp only [ru_U, ru_V]
    rw [e2]
    simp (disch := omega) only [rd_n, rd_e, and_self]
  · simp (disch := omega) only [rd_n]
  · rw [e2]; simp (disch := omega) only [rd_n]
