theorem uk_hide {a b : pr_M} {q u t T : Nat} (x : Int32) (K : ru_k (ru_U a q) (ru_V b u) t T) : ru_k (ru_U (pr_up a (q + 6) 1 x) q) (ru_V (pr_up b 1 (353 * u + 24) x) u) t T := by
  obtain ⟨⟨a1, ⟨a2, a3, a4, a5, a6, a7⟩, ⟨a8, a9, a10, a11, a12, a13, a14⟩, ⟨a15, a16, a17⟩⟩, hb, ⟨c1, c2, c3, c4⟩, ⟨kk, l1, l2, l3, l4⟩, hr, ho⟩ := K
  dsimp only [ru_U, ru_V, ru_b] at *
  refine ⟨⟨fun j hj => ?_, ?_, ?_, ?_⟩, fun h => ?_, ⟨?_, ?_, ?_, ?_⟩, ⟨kk, ?_, ?_, l3, fun j h1 h2 => ?_⟩, fun i h1 h2 => ?_, fun hT => ?_⟩
  · dsimp only [ru_U, ru_V]; simp (disch := omega) only [rd_n]; exact a1 j hj
  · dsimp only [ru_U, ru_V]; simp (disch := omega) only [rd_n, rd_e, a2, a3, a4, a5, a6, a7, a8, a9, a10, a11, a12, a13, a14, a15, a16, a17, and_self]
  · dsimp only [ru_U, ru_V]; simp (disch := omega) only [rd_n, rd_e, a2, a3, a4, a5, a6, a7, a8, a9, a10, a11, a12, a13, a14, a15, a16, a17, and_self]
  · dsimp only [ru_U, ru_V]; simp (disch := omega) only [rd_n, rd_e, a2, a3, a4, a5, a6, a7, a8, a9, a10, a11, a12, a13, a14, a15, a16, a17, and_self]
  · dsimp only [ru_U, ru_V] at h ⊢; simp (disch := omega) only [rd_n] at h ⊢; exact hb h
  · dsimp only [ru_U, ru_V]; simp (disch := omega) only [rd_n]; exact c1
  · dsimp only [ru_U, ru_V]; simp (disch := omega) only [rd_n]; exact c2
  · dsimp only [ru_U, ru_V]; simp (disch := omega) only [rd_n]; exact c3
  · dsimp only [ru_U, ru_V]; simp (disch := omega) only [rd_n]; exact c4
  · dsimp only [ru_U, ru_V]; simp (disch := omega) only [rd_n]; exact l1
  · dsimp only [ru_U, ru_V]; simp (disch := omega) only [rd_n]; exact l2
  · dsimp only [ru_U, ru_V]; simp (disch := omega) only [rd_n]; exact l4 j h1 h2
  · dsimp only [ru_U, ru_V]; simp (disch := omega) only [rd_n]; exact hr i h1 h2
  · dsimp only [ru_U, ru_V]; simp (disch := omega) only [rd_n]; exact ho hT
theorem uk_false {a b : pr_M} {q u t T : Nat} (x y : Int32) (K : ru_k (ru_U a q) (ru_V b u) t T) : ru_k (ru_U (pr_up (pr_up a (q + 6) 2 x) (q + 6) 3 y) q) (ru_V (pr_up (pr_up b 1 (353 * u + 25) x) 1 (353 * u + 26) y) u) t T := by
  obtain ⟨⟨a1, ⟨a2, a3, a4, a5, a6, a7⟩, ⟨a8, a9, a10, a11, a12, a13, a14⟩, ⟨a15, a16, a17⟩⟩, hb, ⟨c1, c2, c3, c4⟩, ⟨kk, l1, l2, l3, l4⟩, hr, ho⟩ := K
  dsimp only [ru_U, ru_V, ru_b] at *
  refine ⟨⟨fun j hj => ?_, ?_, ?_, ?_⟩, fun h => ?_, ⟨?_, ?_, ?_, ?_⟩, ⟨kk, ?_, ?_, l3, fun j h1 h2 => ?_⟩, fun i h1 h2 => ?_, fun hT => ?_⟩
  · dsimp only [ru_U, ru_V]; simp (disch := omega) only [rd_n]; exact a1 j hj
  · dsimp only [ru_U, ru_V]; simp (disch := omega) only [rd_n, rd_e, a2, a3, a4, a5, a6, a7, a8, a9, a10, a11, a12, a13, a14, a15, a16, a17, and_self]
  · dsimp only [ru_U, ru_V]; simp (disch := omega) only [rd_n, rd_e, a2, a3, a4, a5, a6, a7, a8, a9, a10, a11, a12, a13, a14, a15, a16, a17, and_self]
  · dsimp only [ru_U, ru_V]; simp (disch := omega) only [rd_n, rd_e, a2, a3, a4, a5, a6, a7, a8, a9, a10, a11, a12, a13, a14, a15, a16, a17, and_self]
  · dsimp only [ru_U, ru_V] at h ⊢; simp (disch := omega) only [rd_n] at h ⊢; exact hb h
  · dsimp only [ru_U, ru_V]; simp (disch := omega) only [rd_n]; exact c1
  · dsimp only [ru_U, ru_V]; simp (disch := omega) only [rd_n]; exact c2
  · dsimp only [ru_U, ru_V]; simp (disch := omega) only [rd_n]; exact c3
  · dsimp only [ru_U, ru_V]; simp (disch := omega) only [rd_n]; exact c4
  · dsimp only [ru_U, ru_V]; simp (disch := omega) only [rd_n]; exact l1
  · dsimp only [ru_U, ru_V]; simp (disch := omega) only [rd_n]; exact l2
  · dsimp only [ru_U, ru_V]; simp (disch := omega) only [rd_n]; exact l4 j h1 h2
  · dsimp only [ru_U, ru_V]; simp (disch := omega) only [rd_n]; exact hr i h1 h2
  · dsimp only [ru_U, ru_V]; simp (disch := omega) only [rd_n]; exact ho hT
theorem uk_phase {a b : pr_M} {q u t T : Nat} (x : Int32) (K : ru_k (ru_U a q) (ru_V b u) t T) : ru_k (ru_U (pr_up a (q + 2) 2 x) q) (ru_V (pr_up b 1 (353 * u + 11) x) u) t T := by
  obtain ⟨⟨a1, ⟨a2, a3, a4, a5, a6, a7⟩, ⟨a8, a9, a10, a11, a12, a13, a14⟩, ⟨a15, a16, a17⟩⟩, hb, ⟨c1, c2, c3, c4⟩, ⟨kk, l1, l2, l3, l4⟩, hr, ho⟩ := K
  dsimp only [ru_U, ru_V, ru_b] at *
  refine ⟨⟨fun j hj => ?_, ?_, ?_, ?_⟩, fun h => ?_, ⟨?_, ?_, ?_, ?_⟩, ⟨kk, ?_, ?_, l3, fun j h1 h2 => ?_⟩, fun i h1 h2 => ?_, fun hT => ?_⟩
  · dsimp only [ru_U, ru_V]; simp (disch := omega) only [rd_n]; exact a1 j hj
  · dsimp only [ru_U, ru_V]; simp (disch := omega) only [rd_n, rd_e, a2, a3, a4, a5, a6, a7, a8, a9, a10, a11, a12, a13, a14, a15, a16, a17, and_self]
  · dsimp only [ru_U, ru_V]; simp (disch := omega) only [rd_n, rd_e, a2, a3, a4, a5, a6, a7, a8, a9, a10, a11, a12, a13, a14, a15, a16, a17, and_self]
  · dsimp only [ru_U, ru_V]; simp (disch := omega) only [rd_n, rd_e, a2, a3, a4, a5, a6, a7, a8, a9, a10, a11, a12, a13, a14, a15, a16, a17, and_self]
  · dsimp only [ru_U, ru_V] at h ⊢; simp (disch := omega) only [rd_n] at h ⊢; exact hb h
  · dsimp only [ru_U, ru_V]; simp (disch := omega) only [rd_n]; exact c1
  · dsimp only [ru_U, ru_V]; simp (disch := omega) only [rd_n]; exact c2
  · dsimp only [ru_U, ru_V]; simp (disch := omega) only [rd_n]; exact c3
  · dsimp only [ru_U, ru_V]; simp (disch := omega) only [rd_n]; exact c4
  · dsimp only [ru_U, ru_V]; simp (disch := omega) only [rd_n]; exact l1
  · dsimp only [ru_U, ru_V]; simp (disch := omega) only [rd_n]; exact l2
  · dsimp only [ru_U, ru_V]; simp (disch := omega) only [rd_n]; exact l4 j h1 h2
  · dsimp only [ru_U, ru_V]; simp (disch := omega) only [rd_n]; exact hr i h1 h2
  · dsimp only [ru_U, ru_V]; simp (disch := omega) only [rd_n]; exact ho hT
theorem uk_skew {a b : pr_M} {q u t T : Nat} (x : Int32) (K : ru_k (ru_U a q) (ru_V b u) t T) : ru_k (ru_U (pr_up a (q + 2) 3 x) q) (ru_V (pr_up b 1 (353 * u + 12) x) u) t T := by
  obtain ⟨⟨a1, ⟨a2, a3, a4, a5, a6, a7⟩, ⟨a8, a9, a10, a11, a12, a13, a14⟩, ⟨a15, a16, a17⟩⟩, hb, ⟨c1, c2, c3, c4⟩, ⟨kk, l1, l2, l3, l4⟩, hr, ho⟩ := K
  dsimp only [ru_U, ru_V, ru_b] at *
  refine ⟨⟨fun j hj => ?_, ?_, ?_, ?_⟩, fun h => ?_, ⟨?_, ?_, ?_, ?_⟩, ⟨kk, ?_, ?_, l3, fun j h1 h2 => ?_⟩, fun i h1 h2 => ?_, fun hT => ?_⟩
  · dsimp only [ru_U, ru_V]; simp (disch := omega) only [rd_n]; exact a1 j hj
  · dsimp only [ru_U, ru_V]; simp (disch := omega) only [rd_n, rd_e, a2, a3, a4, a5, a6, a7, a8, a9, a10, a11, a12, a13, a14, a15, a16, a17, and_self]
  · dsimp only [ru_U, ru_V]; simp (disch := omega) only [rd_n, rd_e, a2, a3, a4, a5, a6, a7, a8, a9, a10, a11, a12, a13, a14, a15, a16, a17, and_self]
  · dsimp only [ru_U, ru_V]; simp (disch := omega) only [rd_n, rd_e, a2, a3, a4, a5, a6, a7, a8, a9, a10, a11, a12, a13, a14, a15, a16, a17, and_self]
  · dsimp only [ru_U, ru_V] at h ⊢; simp (disch := omega) only [rd_n] at h ⊢; exact hb h
  · dsimp only [ru_U, ru_V]; simp (disch := omega) only [rd_n]; exact c1
  · dsimp only [ru_U, ru_V]; simp (disch := omega) only [rd_n]; exact c2
  · dsimp only [ru_U, ru_V]; simp (disch := omega) only [rd_n]; exact c3
  · dsimp only [ru_U, ru_V]; simp (disch := omega) only [rd_n]; exact c4
  · dsimp only [ru_U, ru_V]; simp (disch := omega) only [rd_n]; exact l1
  · dsimp only [ru_U, ru_V]; simp (disch := omega) only [rd_n]; exact l2
  · dsimp only [ru_U, ru_V]; simp (disch := omega) only [rd_n]; exact l4 j h1 h2
  · dsimp only [ru_U, ru_V]; simp (disch := omega) only [rd_n]; exact hr i h1 h2
  · dsimp only [ru_U, ru_V]; simp (disch := omega) only [rd_n]; exact ho hT
theorem uk_tilt {a b : pr_M} {q u t T : Nat} (x : Int32) (K : ru_k (ru_U a q) (ru_V b u) t T) : ru_k (ru_U (pr_up a (q + 2) 4 x) q) (ru_V (pr_up b 1 (353 * u + 13) x) u) t T := by
  obtain ⟨⟨a1, ⟨a2, a3, a4, a5, a6, a7⟩, ⟨a8, a9, a10, a11, a12, a13, a14⟩, ⟨a15, a16, a17⟩⟩, hb, ⟨c1, c2, c3, c4⟩, ⟨kk, l1, l2, l3, l4⟩, hr, ho⟩ := K
  dsimp only [ru_U, ru_V, ru_b] at *
  refine ⟨⟨fun j hj => ?_, ?_, ?_, ?_⟩, fun h => ?_, ⟨?_, ?_, ?_, ?_⟩, ⟨kk, ?_, ?_, l3, fun j h1 h2 => ?_⟩, fun i h1 h2 => ?_, fun hT => ?_⟩
  · dsimp only [ru_U, ru_V]; simp (disch := omega) only [rd_n]; exact a1 j hj
  · dsimp only [ru_U, ru_V]; simp (disch := omega) only [rd_n, rd_e, a2, a3, a4, a5, a6, a7, a8, a9, a10, a11, a12, a13, a14, a15, a16, a17, and_self]
  · dsimp only [ru_U, ru_V]; simp (disch := omega) only [rd_n, rd_e, a2, a3, a4, a5, a6, a7, a8, a9, a10, a11, a12, a13, a14, a15, a16, a17, and_self]
  · dsimp only [ru_U, ru_V]; simp (disch := omega) only [rd_n, rd_e, a2, a3, a4, a5, a6, a7, a8, a9, a10, a11, a12, a13, a14, a15, a16, a17, and_self]
  · dsimp only [ru_U, ru_V] at h ⊢; simp (disch := omega) only [rd_n] at h ⊢; exact hb h
  · dsimp only [ru_U, ru_V]; simp (disch := omega) only [rd_n]; exact c1
  · dsimp only [ru_U, ru_V]; simp (disch := omega) only [rd_n]; exact c2
  · dsimp only [ru_U, ru_V]; simp (disch := omega) only [rd_n]; exact c3
  · dsimp only [ru_U, ru_V]; simp (disch := omega) only [rd_n]; exact c4
  · dsimp only [ru_U, ru_V]; simp (disch := omega) only [rd_n]; exact l1
  · dsimp only [ru_U, ru_V]; simp (disch := omega) only [rd_n]; exact l2
  · dsimp only [ru_U, ru_V]; simp (disch := omega) only [rd_n]; exact l4 j h1 h2
  · dsimp only [ru_U, ru_V]; simp (disch := omega) only [rd_n]; exact hr i h1 h2
  · dsimp only [ru_U, ru_V]; simp (disch := omega) only [rd_n]; exact ho hT
theorem uk_dist {a b : pr_M} {q u t T : Nat} (x y : Int32) (K : ru_k (ru_U a q) (ru_V b u) t T) : ru_k (ru_U (pr_up (pr_up (pr_up a (q + 2) 5 x) (q + 2) 6 y) (q + 2) 7 y) q) (ru_V (pr_up (pr_up (pr_up b 1 (353 * u + 21) x) 1 (353 * u + 22) y) 1 (353 * u + 23) y) u) t T := by
  obtain ⟨⟨a1, ⟨a2, a3, a4, a5, a6, a7⟩, ⟨a8, a9, a10, a11, a12, a13, a14⟩, ⟨a15, a16, a17⟩⟩, hb, ⟨c1, c2, c3, c4⟩, ⟨kk, l1, l2, l3, l4⟩, hr, ho⟩ := K
  dsimp only [ru_U, ru_V, ru_b] at *
  refine ⟨⟨fun j hj => ?_, ?_, ?_, ?_⟩, fun h => ?_, ⟨?_, ?_, ?_, fun h => by dsimp only [ru_V] at h ⊢; simp (disch := omega) only [rd_n, rd_e] at h ⊢; exact h⟩, ⟨kk, ?_, ?_, l3, fun j h1 h2 => ?_⟩, fun i h1 h2 => ?_, fun hT => ?_⟩
  · dsimp only [ru_U, ru_V]; simp (disch := omega) only [rd_n]; exact a1 j hj
  · dsimp only [ru_U, ru_V]; simp (disch := omega) only [rd_n, rd_e, a2, a3, a4, a5, a6, a7, a8, a9, a10, a11, a12, a13, a14, a15, a16, a17, and_self]
  · dsimp only [ru_U, ru_V]; simp (disch := omega) only [rd_n, rd_e, a2, a3, a4, a5, a6, a7, a8, a9, a10, a11, a12, a13, a14, a15, a16, a17, and_self]
  · dsimp only [ru_U, ru_V]; simp (disch := omega) only [rd_n, rd_e, a2, a3, a4, a5, a6, a7, a8, a9, a10, a11, a12, a13, a14, a15, a16, a17, and_self]
  · dsimp only [ru_U, ru_V] at h ⊢; simp (disch := omega) only [rd_n] at h ⊢; exact hb h
  · dsimp only [ru_U, ru_V]; simp (disch := omega) only [rd_n]; exact c1
  · dsimp only [ru_U, ru_V]; simp (disch := omega) only [rd_n]; exact c2
  · dsimp only [ru_U, ru_V]; simp (disch := omega) only [rd_n]; exact c3
  · dsimp only [ru_U, ru_V]; simp (disch := omega) only [rd_n]; exact l1
  · dsimp only [ru_U, ru_V]; simp (disch := omega) only [rd_n]; exact l2
  · dsimp only [ru_U, ru_V]; simp (disch := omega) only [rd_n]; exact l4 j h1 h2
  · dsimp only [ru_U, ru_V]; simp (disch := omega) only [rd_n]; exact hr i h1 h2
  · dsimp only [ru_U, ru_V]; simp (disch := omega) only [rd_n]; exact ho hT
theorem uk_clear {a b : pr_M} {q u t T : Nat}  (K : ru_k (ru_U a q) (ru_V b u) t T) : ru_k (ru_U (pr_up (pr_up (pr_up (pr_up (pr_up (pr_up (pr_up (pr_up (pr_up a (q + 5) 0 0) (q + 5) 1 0) (q + 5) 2 0) (q + 5) 3 0) (q + 5) 4 0) (q + 5) 5 0) (q + 5) 6 0) (q + 5) 7 0) (q + 5) 8 0) q) (ru_V (pr_up (pr_up (pr_up (pr_up (pr_up (pr_up (pr_up b 1 (353 * u + 14) 0) 1 (353 * u + 15) 0) 1 (353 * u + 16) 0) 1 (353 * u + 17) 0) 1 (353 * u + 18) 0) 1 (353 * u + 19) 0) 1 (353 * u + 20) 0) u) t T := by
  obtain ⟨⟨a1, ⟨a2, a3, a4, a5, a6, a7⟩, ⟨a8, a9, a10, a11, a12, a13, a14⟩, ⟨a15, a16, a17⟩⟩, hb, ⟨c1, c2, c3, c4⟩, ⟨kk, l1, l2, l3, l4⟩, hr, ho⟩ := K
  dsimp only [ru_U, ru_V, ru_b] at *
  refine ⟨⟨fun j hj => ?_, ?_, ?_, ?_⟩, fun h => absurd (show (0 : Int32) < 0 by dsimp only [ru_V] at h; simp (disch := omega) only [rd_n, rd_e] at h; exact h) (by decide), ⟨?_, ?_, ⟨0, by dsimp only [ru_V]; simp (disch := omega) only [rd_n, rd_e]; rfl, by omega⟩, ?_⟩, ⟨kk, ?_, ?_, l3, fun j h1 h2 => ?_⟩, fun i h1 h2 => ?_, fun hT => ?_⟩
  · dsimp only [ru_U, ru_V]; simp (disch := omega) only [rd_n]; exact a1 j hj
  · dsimp only [ru_U, ru_V]; simp (disch := omega) only [rd_n, rd_e, a2, a3, a4, a5, a6, a7, a8, a9, a10, a11, a12, a13, a14, a15, a16, a17, and_self]
  · dsimp only [ru_U, ru_V]; simp (disch := omega) only [rd_n, rd_e, a2, a3, a4, a5, a6, a7, a8, a9, a10, a11, a12, a13, a14, a15, a16, a17, and_self]
  · dsimp only [ru_U, ru_V]; simp (disch := omega) only [rd_n, rd_e, a2, a3, a4, a5, a6, a7, a8, a9, a10, a11, a12, a13, a14, a15, a16, a17, and_self]
  · dsimp only [ru_U, ru_V]; simp (disch := omega) only [rd_n]; exact c1
  · dsimp only [ru_U, ru_V]; simp (disch := omega) only [rd_n]; exact c2
  · dsimp only [ru_U, ru_V]; simp (disch := omega) only [rd_n]; exact c4
  · dsimp only [ru_U, ru_V]; simp (disch := omega) only [rd_n]; exact l1
  · dsimp only [ru_U, ru_V]; simp (disch := omega) only [rd_n]; exact l2
  · dsimp only [ru_U, ru_V]; simp (disch := omega) only [rd_n]; exact l4 j h1 h2
  · dsimp only [ru_U, ru_V]; simp (disch := omega) only [rd_n]; exact hr i h1 h2
  · dsimp only [ru_U, ru_V]; simp (disch := omega) only [rd_n]; exact ho hT
theorem ru_s_keep {a a' b b' : pr_M} {q u : Nat} (h : ru_s (ru_U a q) (ru_V b u)) (hA : ∀ s, 4 ≤ s → a' (q + 6) s = a (q + 6) s) (hB : ∀ k, 31 ≤ k → k ≤ 35 → b' 1 (353 * u + k) = b 1 (353 * u + k)) : ru_s (ru_U a' q) (ru_V b' u) := by
  unfold ru_s ru_z at h ⊢
  dsimp only [ru_U, ru_V] at h ⊢
  simp (disch := omega) only [hA, hB]
  exact h
/-- a call that changes one unit, not its settings, not what its sensor saw -/
theorem rr_unit {a a' b b' : pr_M} {n t u : Nat} (h : rr a b) (ht : t ≤ 100000) (hn : rpn a b 1 n t) (hu : u < n) (K : uk a' b' 1 u t t) (s4 : ∀ s, 4 ≤ s → a' (uq 1 u + 6) s = a (uq 1 u + 6) s) (v : ∀ k, 31 ≤ k → k ≤ 35 → b' 1 (353 * u + k) = b 1 (353 * u + k)) (hA : fr_C a a' (uq 1 u)) (hB : fr_M b b' u) (hd : b' 1 (353 * u + 0) = b 1 (353 * u + 0) ∨ t = 0) : rr a' b' :=
  rr_press h ht (rp_of (rpn_unit hn hu K (fun g => ru_s_keep (hn.2.2.2.2.2.2.2.2.2.2.2.2.1 g u hu) s4 v) (s4 4 (by decide)) (s4 7 (by decide)) hA hB hd)) (fun c s hc => hA _ _ (by have := hn.2.1; dsimp only [uq]; omega)) (fun c k hc => hB _ _ (Or.inl hc))
theorem k_of {a b : pr_M} {n t u : Nat} (hn : rpn a b 1 n t) (hu : u < n) : uk a b 1 u t t := hn.2.2.2.2.2.2.2.2.2.2.2.1 u hu
theorem t_of {a b : pr_M} {n t : Nat} (hn : rpn a b 1 n t) : a 1 4 = nI t ∧ b 1 1765 = nI t := ⟨hn.2.2.2.2.1, hn.2.2.2.2.2.1⟩
theorem s_hide {a b : pr_M} (h : rr a b) (x y : Int32) : owe (F_X8_hide 0 x y a) (F_X9_hide 0 x y b) := by
  obtain ⟨t, ht, n, hn⟩ := h.1
  unfold F_X8_hide F_X9_hide
  rcases ap_unit hn x with ⟨u, hu, hu5, rfl, e1, e2⟩ | ⟨e1, e2, -⟩
  · rw [e1, e2, pr_b1_s, pr_b1_s, if_neg (by decide), rc_outside, rm_in]
    unfold pr_op pr_gd
    dsimp only
    rw [if_pos (lc_u hu5), pr_b1_s, pr_b1_s]
    by_cases c1 : y < 0
    · rw [if_pos c1, if_pos c1, if_neg (by decide), if_pos rfl]
      exact owe_same h _ rfl rfl
    · rw [if_neg c1, if_neg c1]
      by_cases c2 : y ≤ 50
      · rw [if_pos c2, if_neg (Int32.not_lt.mpr c2), if_pos rfl, if_neg (by decide), pr_lt_s, rm_of_24 _ hu5, pr_b1_s, rm_lay_24 _ _ hu5, pr_bd_s]
        have K := k_of hn hu
        refine ⟨_, _, _, by rw [show a (1 + 1 + 3 + 9 * u + 6) 1 = b 1 (353 * u + 24) from K.1.2.2.2.1], rfl, rr_unit h ht hn hu (uk_hide y K) (fun s hs => by simp (disch := omega) only [rd_n]) (fun k h1 h2 => by simp (disch := omega) only [rd_n]) (fun c s hc => by simp (disch := omega) only [rd_n]) (fun c k hc => by simp (disch := omega) only [rd_n]) (Or.inl (by simp (disch := omega) only [rd_n]))⟩
      · rw [if_neg c2, if_pos (Int32.not_le.mp c2), if_neg (by decide), if_pos rfl]
        exact owe_same h _ rfl rfl
  · rw [e1, e2, pr_b1_s, pr_b1_s, if_pos rfl]
    exact owe_same h _ rfl rfl
theorem s_falseMark {a b : pr_M} (h : rr a b) (x y z : Int32) : owe (F_X8_falseMark 0 x y z a) (F_X9_falseMark 0 x y z b) := by
  obtain ⟨t, ht, n, hn⟩ := h.1
  unfold F_X8_falseMark F_X9_falseMark
  rcases ap_unit hn x with ⟨u, hu, hu5, rfl, e1, e2⟩ | ⟨e1, e2, -⟩
  · rw [e1, e2, pr_b1_s, pr_b1_s, if_neg (by decide), rc_outside, rm_in]
    unfold pr_op pr_gd
    dsimp only
    rw [if_pos (lc_u hu5), pr_b1_s, pr_b1_s]
    by_cases c1 : y < -3000
    · rw [if_pos c1, if_pos c1, if_neg (by decide), if_pos rfl]
      exact owe_same h _ rfl rfl
    · rw [if_neg c1, if_neg c1]
      by_cases c2 : y ≤ 3000
      · rw [if_pos c2, if_neg (Int32.not_lt.mpr c2), if_pos rfl, if_neg (by decide), rc_outside, rm_in, pr_b1_s, pr_b1_s]
        by_cases c3 : z < 0
        · rw [if_pos c3, if_pos c3, if_neg (by decide), if_pos rfl]
          exact owe_same h _ rfl rfl
        · rw [if_neg c3, if_neg c3]
          by_cases c4 : z ≤ 50
          · rw [if_pos c4, if_neg (Int32.not_lt.mpr c4), if_pos rfl, if_neg (by decide), pr_lt_s, pr_lt_s, rm_of_26 _ hu5, pr_b1_s, rm_lay_25 _ _ hu5, pr_bd_s, rm_lay_26 _ _ hu5, pr_bd_s]
            have K := k_of hn hu
            refine ⟨_, _, _, by rw [show a (1 + 1 + 3 + 9 * u + 6) 3 = b 1 (353 * u + 26) from K.1.2.2.2.2.2], rfl, rr_unit h ht hn hu (uk_false y z K) (fun s hs => by simp (disch := omega) only [rd_n]) (fun k h1 h2 => by simp (disch := omega) only [rd_n]) (fun c s hc => by simp (disch := omega) only [rd_n]) (fun c k hc => by simp (disch := omega) only [rd_n]) (Or.inl (by simp (disch := omega) only [rd_n]))⟩
          · rw [if_neg c4, if_pos (Int32.not_le.mp c4), if_neg (by decide), if_pos rfl]
            exact owe_same h _ rfl rfl
      · rw [if_neg c2, if_pos (Int32.not_le.mp c2), if_neg (by decide), if_pos rfl]
        exact owe_same h _ rfl rfl
  · rw [e1, e2, pr_b1_s, pr_b1_s, if_pos rfl]
    exact owe_same h _ rfl rfl
/-- an amount and a duration -/
def isD (x y : Int32) : Prop := ¬ x < -3000 ∧ x ≤ 3000 ∧ ¬ y < 1 ∧ y ≤ 50
theorem ap_dist (x y : Int32) (a b : pr_M) : (isD x y ∧ F_X8_isDisturbance x y a = some 1 ∧ F_X9_isDisturbance x y b = some 1) ∨ (F_X8_isDisturbance x y a = some 0 ∧ F_X9_isDisturbance x y b = some 0) := by
  unfold F_X8_isDisturbance F_X9_isDisturbance isD
  simp only [rc_outside, rm_in, pr_b1_s]
  by_cases c1 : x < -3000
  · right; simp [c1]
  · by_cases c2 : x ≤ 3000
    · by_cases c3 : y < 1
      · right; simp [c1, c2, c3, Int32.not_lt.mpr c2]
      · by_cases c4 : y ≤ 50
        · left; simp [c1, c2, c3, c4, Int32.not_lt.mpr c2, Int32.not_lt.mpr c4]
        · right; simp [c1, c2, c3, c4, Int32.not_lt.mpr c2, Int32.not_le.mp c4]
    · right; simp [c1, c2, Int32.not_le.mp c2]
theorem s_disturb {a b : pr_M} (h : rr a b) (x y z : Int32) : owe (F_X8_disturb 0 x y z a) (F_X9_disturb 0 x y z b) := by
  obtain ⟨t, ht, n, hn⟩ := h.1
  unfold F_X8_disturb F_X9_disturb
  rcases ap_unit hn x with ⟨u, hu, hu5, rfl, e1, e2⟩ | ⟨e1, e2, -⟩
  · rw [e1, e2, pr_b1_s, pr_b1_s, if_neg (by decide)]
    unfold pr_op pr_gd
    dsimp only
    rw [if_pos (lc_u hu5)]
    rcases ap_dist y z a b with ⟨-, d1, d2⟩ | ⟨d1, d2⟩
    · rw [d1, d2, pr_b1_s, pr_b1_s, if_neg (by decide), if_neg (by decide)]
      unfold F_X4_beDisturbed F_X9_giveDisturbance
      simp only [pr_lt_s, pr_bd_s, rm_lay_21 _ _ hu5, rm_lay_22 _ _ hu5, rm_lay_23 _ _ hu5, Nat.zero_add, ri_cl_1765]
      have K := k_of hn hu
      have tt := t_of hn
      refine ⟨nI t, _, _, by simp (disch := omega) only [rd_n, tt.1], by simp (disch := omega) only [rd_n, tt.2], rr_unit h ht hn hu (uk_dist y z K) (fun s hs => by simp (disch := omega) only [rd_n]) (fun k h1 h2 => by simp (disch := omega) only [rd_n]) (fun c s hc => by simp (disch := omega) only [rd_n]) (fun c k hc => by simp (disch := omega) only [rd_n]) (Or.inl (by simp (disch := omega) only [rd_n]))⟩
    · rw [d1, d2, pr_b1_s, pr_b1_s, if_pos rfl, if_pos rfl]
      exact owe_same h _ rfl rfl
  · rw [e1, e2, pr_b1_s, pr_b1_s, if_pos rfl]
    exact owe_same h _ rfl rfl
