theorem rm_recog {u : Nat} {b : pr_M} (hu : u < 5) {R : Int32} (hR : R = 0 ∨ R = 1 ∨ R = 2) (h : F_X9_recognized 0 (nI u) b = some R) :
    ∃ b', F_X9_recognize 0 (nI u) b = some ((), b') ∧ b' 1 (353 * u + 33) = R ∧ b' 1 (353 * u + 17) = (if R = 0 then b 1 (353 * u + 17) + 1 else 0) ∧
      (R = 0 → b' 1 (353 * u + 34) = b 1 (353 * u + 34) ∧ b' 1 (353 * u + 35) = b 1 (353 * u + 35)) ∧ (R = 1 → b' 1 (353 * u + 34) = b 1 (353 * u + 31) ∧ b' 1 (353 * u + 35) = b 1 (353 * u + 32)) ∧ (R = 2 → b' 1 (353 * u + 34) = b 1 (353 * u + 25) ∧ b' 1 (353 * u + 35) = b 1 (353 * u + 20)) ∧
      b' 1 1772 = b 1 1772 + (if R = 0 then 0 else 1) ∧ b' 1 1773 = b 1 1773 + (if R = 2 then 1 else 0) ∧ b' 1 1774 = b 1 1774 + (if R = 0 then 1 else 0) ∧
      (∀ c k, (c ≠ 1 ∨ (k ≠ 353 * u + 33 ∧ k ≠ 353 * u + 17 ∧ k ≠ 353 * u + 34 ∧ k ≠ 353 * u + 35 ∧ k ≠ 1772 ∧ k ≠ 1773 ∧ k ≠ 1774)) → b' c k = b c k) := by
  have t1 : ¬ (1 : Int32) = 0 := by decide
  have t2 : ¬ (2 : Int32) = 0 := by decide
  have t3 : ¬ (2 : Int32) = 1 := by decide
  have t4 : ¬ (1 : Int32) = 2 := by decide
  have t5 : ¬ (0 : Int32) = 2 := by decide
  have t6 : ¬ (0 : Int32) = 1 := by decide
  have p0 : (0 : Int32) ≤ 0 := by decide
  have p1 : ¬ (1 : Int32) ≤ 0 := by decide
  have p2 : ¬ (2 : Int32) ≤ 0 := by decide
  unfold F_X9_recognize
  rw [h, pr_b1_s, rm_lay_33 _ _ hu, pr_bd_s]
  rcases hR with rfl | rfl | rfl
  · simp only [if_pos p0, if_neg t5, if_true, pr_b1_s, rm_tally_0, rm_tally_1, rm_tally_2, pr_bd_s, rm_of_17 _ hu, rm_lay_17 _ _ hu]
    refine ⟨_, rfl, ?_, ?_, fun _ => ?_, fun e => absurd e t6, fun e => absurd e t5, ?_, ?_, ?_, fun c k h => ?_⟩ <;> simp (disch := omega) only [rd_n, rd_e, if_true, if_neg t1, and_self]
  · simp only [if_neg p1, if_neg t4, if_neg t1, if_true, pr_b1_s, rm_tally_0, rm_tally_1, rm_tally_2, pr_bd_s, rm_of_31 _ hu, rm_of_32 _ hu, rm_lay_17 _ _ hu, rm_lay_34 _ _ hu, rm_lay_35 _ _ hu]
    refine ⟨_, rfl, ?_, ?_, fun e => absurd e t1, fun _ => ?_, fun e => absurd e t4, ?_, ?_, ?_, fun c k h => ?_⟩ <;> simp (disch := omega) only [rd_n, rd_e, if_true, if_neg t1, and_self]
  · simp only [if_neg p2, if_neg t3, if_neg t2, if_true, pr_b1_s, rm_tally_0, rm_tally_1, rm_tally_2, pr_bd_s, rm_of_25 _ hu, rm_of_20 _ hu, rm_lay_17 _ _ hu, rm_lay_34 _ _ hu, rm_lay_35 _ _ hu]
    refine ⟨_, rfl, ?_, ?_, fun e => absurd e t2, fun e => absurd e t3, fun _ => ?_, ?_, ?_, ?_, fun c k h => ?_⟩ <;> simp (disch := omega) only [rd_n, rd_e, if_true, if_neg t1, and_self]
theorem rc_mark_n {c c' s' : Nat} {s R : Int32} {a : pr_M} (h : c' ≠ c ∨ (s' ≠ 7 ∧ s' ≠ 8 ∧ s' ≠ 9)) : rc_mark c s R a c' s' = a c' s' := by
  unfold rc_mark
  by_cases h0 : R = 0
  · rw [if_pos h0]
  · by_cases h1 : R = 1
    · rw [if_neg h0, if_pos h1]; simp (disch := omega) only [rd_n]
    · rw [if_neg h0, if_neg h1]; simp (disch := omega) only [rd_n]
theorem rc_mark_1 {c : Nat} {s : Int32} {a : pr_M} : rc_mark c s 1 a c 7 = 1 ∧ rc_mark c s 1 a c 8 = a c 5 ∧ rc_mark c s 1 a c 9 = a c 6 := by
  unfold rc_mark
  rw [if_neg (by decide), if_pos rfl]
  simp (disch := omega) only [rd_n, rd_e, and_self]
theorem rc_mark_2 {c : Nat} {s : Int32} {a : pr_M} : rc_mark c s 2 a c 7 = 2 ∧ rc_mark c s 2 a c 8 = a c 2 ∧ rc_mark c s 2 a c 9 = s := by
  unfold rc_mark
  rw [if_neg (by decide), if_neg (by decide)]
  simp (disch := omega) only [rd_n, rd_e, and_self]
/-- the class's other cells; the totals of its press may have changed -/
def fr_M2 (b b' : pr_M) (u : Nat) : Prop := ∀ c k, (c ≠ 1 ∨ ((k < 353 * u ∨ 353 * u + 353 ≤ k) ∧ (k < 1772 ∨ 1778 ≤ k))) → b' c k = b c k
theorem op_rec {a b : pr_M} {q u t T : Nat} (hu : u < 5) (K : ru_k (ru_U a q) (ru_V b u) t T) (h4 : a (q + 6) 4 = 1) (h7 : a (q + 6) 7 = 0) (h5 : a (q + 6) 5 = b 1 (353 * u + 31)) (h6 : a (q + 6) 6 = b 1 (353 * u + 32)) (hz : b 1 (353 * u + 34) = ri_no ∧ b 1 (353 * u + 35) = ri_no) :
    ∃ a' b' R, (R = 0 ∨ R = 1 ∨ R = 2) ∧ F_X7_recognizeMark q a = some (if R = 0 then 0 else 1, a') ∧ F_X9_recognize 0 (nI u) b = some ((), b') ∧ a' (q + 6) 7 = R ∧ a' (q + 6) 4 = 1 ∧ b' 1 (353 * u + 33) = R ∧
      ru_k (ru_U a' q) (ru_V b' u) t T ∧ ru_s (ru_U a' q) (ru_V b' u) ∧ (b' 1 1772 = b 1 1772 + (if R = 0 then 0 else 1) ∧ b' 1 1773 = b 1 1773 + (if R = 2 then 1 else 0) ∧ b' 1 1774 = b 1 1774 + (if R = 0 then 1 else 0) ∧ ∀ j, 3 ≤ j → j < 6 → b' 1 (1772 + j) = b 1 (1772 + j)) ∧ fr_C a a' q ∧ fr_M2 b b' u ∧ st_M b b' u := by
  obtain ⟨⟨a1, ⟨a2, a3, a4, a5, a6, a7⟩, ⟨a8, a9, a10, a11, a12, a13, a14⟩, ⟨a15, a16, a17⟩⟩, hb, ⟨c1, c2, c3, c4⟩, ⟨k, l1, l2, l3, l4⟩, hr, ho⟩ := K
  dsimp only [ru_U, ru_V, ru_b] at *
  have eC := rc_recog h7 rfl
  have eM := rm_recd (b := b) hu
  rw [a15, a17, h5, a13, a16, a11, a1 3 (by decide), a12, a1 2 (by decide)] at eC
  have h3 := rv_rec_3 (b 1 (353 * u + 24)) (b 1 (353 * u + 26)) (rv_abs (b 1 (353 * u + 31) - b 1 (353 * u + 19))) (rv_abs (b 1 (353 * u + 25) - b 1 (353 * u + 19))) (rv_win (b 1 (353 * u + 17)) (b 1 (353 * u + 3)) (b 1 (353 * u + 18)) (b 1 (353 * u + 2)))
  generalize rv_rec (b 1 (353 * u + 24)) (b 1 (353 * u + 26)) (rv_abs (b 1 (353 * u + 31) - b 1 (353 * u + 19))) (rv_abs (b 1 (353 * u + 25) - b 1 (353 * u + 19))) (rv_win (b 1 (353 * u + 17)) (b 1 (353 * u + 3)) (b 1 (353 * u + 18)) (b 1 (353 * u + 2))) = R at eC eM h3
  obtain ⟨b', E2, m1, m2, m3, m4, m5, m6, m7, m8, hB⟩ := rm_recog hu h3 eM
  have hM : ∀ c s, (c ≠ q + 5 ∨ s ≠ 3) → (c ≠ q + 6 ∨ (s ≠ 7 ∧ s ≠ 8 ∧ s ≠ 9)) → (pr_up (rc_mark (q + 6) (b 1 (353 * u + 20)) R a) (q + 5) 3 (if R = 0 then b 1 (353 * u + 17) + 1 else 0)) c s = a c s := fun c s g1 g2 => by
    rw [rd_n g1, rc_mark_n (by omega)]
  have hM3 : (pr_up (rc_mark (q + 6) (b 1 (353 * u + 20)) R a) (q + 5) 3 (if R = 0 then b 1 (353 * u + 17) + 1 else 0)) (q + 5) 3 = (if R = 0 then b 1 (353 * u + 17) + 1 else 0) := rd_e ⟨rfl, rfl⟩
  have hM6 : ∀ s, (pr_up (rc_mark (q + 6) (b 1 (353 * u + 20)) R a) (q + 5) 3 (if R = 0 then b 1 (353 * u + 17) + 1 else 0)) (q + 6) s = rc_mark (q + 6) (b 1 (353 * u + 20)) R a (q + 6) s := fun s => rd_n (by omega)
  rw [a14] at eC
  have hR7 : (pr_up (rc_mark (q + 6) (b 1 (353 * u + 20)) R a) (q + 5) 3 (if R = 0 then b 1 (353 * u + 17) + 1 else 0)) (q + 6) 7 = R := by
    rw [hM6]
    rcases h3 with rfl | rfl | rfl
    · exact h7
    · exact rc_mark_1.1
    · exact rc_mark_2.1
  refine ⟨_, b', R, h3, eC, E2, hR7, by rw [hM _ _ (by omega) (by omega)]; exact h4, m1, ⟨⟨fun j hj => ?_, ?_, ?_, ?_⟩, fun h => ?_, ⟨?_, ?_, ?_, ?_⟩, ⟨k, ?_, ?_, l3, fun j h1 h2 => ?_⟩, fun i h1 h2 => ?_, fun hT => ?_⟩, Or.inr ⟨?_, ?_, ?_, ?_, ?_⟩, ⟨m6, m7, m8, fun j h1 h2 => ?_⟩, fun c s h => ?_, fun c k h => ?_, fun j hj => hB _ _ (by omega)⟩ <;> (try dsimp only [ru_U, ru_V] at *)
  · rw [hM _ _ (by omega) (by omega), hB _ _ (by omega)]; exact a1 j hj
  · simp (disch := omega) only [hM, hB]; exact ⟨a2, a3, a4, a5, a6, a7⟩
  · rw [hM3, m2]; simp (disch := omega) only [hM, hB]; exact ⟨a8, a9, a10, trivial, a12, a13, a14⟩
  · simp (disch := omega) only [hM, hB]; exact ⟨a15, a16, a17⟩
  · simp (disch := omega) only [hM, hB] at h ⊢; exact hb h
  · rw [hB _ _ (by omega)]; exact c1
  · rw [hB _ _ (by omega)]; exact c2
  · rw [hB _ _ (by omega)]; exact c3
  · rw [hB _ _ (by omega), hB _ _ (by omega)]; exact c4
  · rw [hM _ _ (by omega) (by omega)]; exact l1
  · rw [hB _ _ (by omega)]; exact l2
  · rw [hM _ _ (by omega) (by omega), hB _ _ (by omega)]; exact l4 j h1 h2
  · rw [hM _ _ (by omega) (by omega), hM _ _ (by omega) (by omega), hB _ _ (by omega), hB _ _ (by omega)]; exact hr i h1 h2
  · rw [hB _ _ (by omega), hB _ _ (by omega), hB _ _ (by omega), hB _ _ (by omega)]; exact ho hT
  · rw [hM _ _ (by omega) (by omega)]; exact h4
  · rw [hM _ _ (by omega) (by omega), hB _ _ (by omega)]; exact h5.symm
  · rw [hM _ _ (by omega) (by omega), hB _ _ (by omega)]; exact h6.symm
  · rw [hR7]; exact m1
  · rw [hR7, hM6, hM6]
    rcases h3 with rfl | rfl | rfl
    · exact Or.inl ⟨rfl, by rw [(m3 rfl).1]; exact hz.1, by rw [(m3 rfl).2]; exact hz.2⟩
    · exact Or.inr ⟨Or.inl rfl, by rw [(m4 rfl).1, rc_mark_1.2.1]; exact h5.symm, by rw [(m4 rfl).2, rc_mark_1.2.2]; exact h6.symm⟩
    · exact Or.inr ⟨Or.inr rfl, by rw [(m5 rfl).1, rc_mark_2.2.1]; exact a16.symm, by rw [(m5 rfl).2, rc_mark_2.2.2]⟩
  · exact hB _ _ (by omega)
  · exact hM _ _ (by omega) (by omega)
  · exact hB _ _ (by omega)
