/-! ===== the law's loop ===== -/
theorem l_body {l : Launch} {D : va_G} {T : pr_T} {B : Nat} {aC aM : Nat → Nat} {Y : pr_Y} {c0 : Cond} {fa fb : pr_M} {b L i : Nat} {xs : Nat → Int32} (hC : ∀ fb, pr_C (pr_EC l (l_0 D T B aC aM fb)) Y room_1 cL_law RL 4 c0) (hM : ∀ fa, pr_C (pr_EM l (l_1 D T B aC aM fa)) Y room_1 cL_law RL 4 c0) (hX : va_X b L xs (pr_ys Y) (pr_ys Y).heap) (hb : b < (pr_ys Y).heap.size) (hA : ¬ B ≤ b) (hL : L ≤ 3072) (hi : i + 6 ≤ L) (h : rr fa fb)
    (K : ∀ fa fb, rr fa fb → pr_W (pr_EC l (l_0 D T B aC aM fb)) Y room_1 4 fa 963 (l_lv b (aC 0) (aM 0) i) []) : pr_W (pr_EC l (l_0 D T B aC aM fb)) Y room_1 4 fa 27 (l_lv b (aC 0) (aM 0) i) [] := by
  refine pr_aload_n (hC fb) dL_law_27 rfl 3 rfl ?_
  refine pr_iload_n (hC fb) dL_law_28 rfl 0 rfl ?_
  intro H locs ls hP hS hl
  refine va_sld (hC fb).1 (hC fb).2.1 hX hb hA hS (nI_in (show i < L by omega) (by omega)) dL_law_29 ?_
  rw [nI_clamp (show i < 2 ^ 31 by omega)]
  revert H locs ls
  show pr_W (pr_EC l (l_0 D T B aC aM fb)) Y room_1 4 fa 30 (l_lv b (aC 0) (aM 0) i) [.int (xs i)]
  refine pr_bipush (v := 31) (hC fb) dL_law_30 (by decide) ?_
  refine pr_iand (hC fb) dL_law_32 ?_
  obtain ⟨j, hj, e⟩ := pk_andE (xs i) (m := 31) 5 (by decide)
  have hj : j < 32 := hj
  rw [e]
  rcases (show j = 0 ∨ j = 1 ∨ j = 2 ∨ j = 3 ∨ j = 4 ∨ j = 5 ∨ j = 6 ∨ j = 7 ∨ j = 8 ∨ j = 9 ∨ j = 10 ∨ j = 11 ∨ j = 12 ∨ j = 13 ∨ j = 14 ∨ j = 15 ∨ j = 16 ∨ j = 17 ∨ j = 18 ∨ j = 19 ∨ j = 20 ∨ j = 21 ∨ j = 22 ∨ j = 23 ∨ j = 24 ∨ 25 ≤ j by omega) with rfl | rfl | rfl | rfl | rfl | rfl | rfl | rfl | rfl | rfl | rfl | rfl | rfl | rfl | rfl | rfl | rfl | rfl | rfl | rfl | rfl | rfl | rfl | rfl | rfl | hj2
  · exact pr_tableIn (tgt := 148) (off := 115) (v := 0) (hC fb) dL_law_33 rfl (by decide) (by decide) (by decide) (by decide) (lc_0 hC hM hX hb hA hL hi h K)
  · exact pr_tableIn (tgt := 171) (off := 138) (v := 1) (hC fb) dL_law_33 rfl (by decide) (by decide) (by decide) (by decide) (lc_1 hC hM hX hb hA hL hi h K)
  · exact pr_tableIn (tgt := 214) (off := 181) (v := 2) (hC fb) dL_law_33 rfl (by decide) (by decide) (by decide) (by decide) (lc_2 hC hM hX hb hA hL hi h K)
  · exact pr_tableIn (tgt := 247) (off := 214) (v := 3) (hC fb) dL_law_33 rfl (by decide) (by decide) (by decide) (by decide) (lc_3 hC hM hX hb hA hL hi h K)
  · exact pr_tableIn (tgt := 290) (off := 257) (v := 4) (hC fb) dL_law_33 rfl (by decide) (by decide) (by decide) (by decide) (lc_4 hC hM hX hb hA hL hi h K)
  · exact pr_tableIn (tgt := 313) (off := 280) (v := 5) (hC fb) dL_law_33 rfl (by decide) (by decide) (by decide) (by decide) (lc_5 hC hM hX hb hA hL hi h K)
  · exact pr_tableIn (tgt := 336) (off := 303) (v := 6) (hC fb) dL_law_33 rfl (by decide) (by decide) (by decide) (by decide) (lc_6 hC hM hX hb hA hL hi h K)
  · exact pr_tableIn (tgt := 379) (off := 346) (v := 7) (hC fb) dL_law_33 rfl (by decide) (by decide) (by decide) (by decide) (lc_7 hC hM hX hb hA hL hi h K)
  · exact pr_tableIn (tgt := 412) (off := 379) (v := 8) (hC fb) dL_law_33 rfl (by decide) (by decide) (by decide) (by decide) (lc_8 hC hM hX hb hA hL hi h K)
  · exact pr_tableIn (tgt := 455) (off := 422) (v := 9) (hC fb) dL_law_33 rfl (by decide) (by decide) (by decide) (by decide) (lc_9 hC hM hX hb hA hL hi h K)
  · exact pr_tableIn (tgt := 488) (off := 455) (v := 10) (hC fb) dL_law_33 rfl (by decide) (by decide) (by decide) (by decide) (lc_10 hC hM hX hb hA hL hi h K)
  · exact pr_tableIn (tgt := 511) (off := 478) (v := 11) (hC fb) dL_law_33 rfl (by decide) (by decide) (by decide) (by decide) (lc_11 hC hM hX hb hA hL hi h K)
  · exact pr_tableIn (tgt := 544) (off := 511) (v := 12) (hC fb) dL_law_33 rfl (by decide) (by decide) (by decide) (by decide) (lc_12 hC hM hX hb hA hL hi h K)
  · exact pr_tableIn (tgt := 577) (off := 544) (v := 13) (hC fb) dL_law_33 rfl (by decide) (by decide) (by decide) (by decide) (lc_13 hC hM hX hb hA hL hi h K)
  · exact pr_tableIn (tgt := 620) (off := 587) (v := 14) (hC fb) dL_law_33 rfl (by decide) (by decide) (by decide) (by decide) (lc_14 hC hM hX hb hA hL hi h K)
  · exact pr_tableIn (tgt := 643) (off := 610) (v := 15) (hC fb) dL_law_33 rfl (by decide) (by decide) (by decide) (by decide) (lc_15 hC hM hX hb hA hL hi h K)
  · exact pr_tableIn (tgt := 686) (off := 653) (v := 16) (hC fb) dL_law_33 rfl (by decide) (by decide) (by decide) (by decide) (lc_16 hC hM hX hb hA hL hi h K)
  · exact pr_tableIn (tgt := 739) (off := 706) (v := 17) (hC fb) dL_law_33 rfl (by decide) (by decide) (by decide) (by decide) (lc_17 hC hM hX hb hA hL hi h K)
  · exact pr_tableIn (tgt := 802) (off := 769) (v := 18) (hC fb) dL_law_33 rfl (by decide) (by decide) (by decide) (by decide) (lc_18 hC hM hX hb hA hL hi h K)
  · exact pr_tableIn (tgt := 855) (off := 822) (v := 19) (hC fb) dL_law_33 rfl (by decide) (by decide) (by decide) (by decide) (lc_19 hC hM hX hb hA hL hi h K)
  · exact pr_tableIn (tgt := 868) (off := 835) (v := 20) (hC fb) dL_law_33 rfl (by decide) (by decide) (by decide) (by decide) (lc_20 hC hM hX hb hA hL hi h K)
  · exact pr_tableIn (tgt := 881) (off := 848) (v := 21) (hC fb) dL_law_33 rfl (by decide) (by decide) (by decide) (by decide) (lc_21 hC hM hX hb hA hL hi h K)
  · exact pr_tableIn (tgt := 894) (off := 861) (v := 22) (hC fb) dL_law_33 rfl (by decide) (by decide) (by decide) (by decide) (lc_22 hC hM hX hb hA hL hi h K)
  · exact pr_tableIn (tgt := 917) (off := 884) (v := 23) (hC fb) dL_law_33 rfl (by decide) (by decide) (by decide) (by decide) (lc_23 hC hM hX hb hA hL hi h K)
  · exact pr_tableIn (tgt := 940) (off := 907) (v := 24) (hC fb) dL_law_33 rfl (by decide) (by decide) (by decide) (by decide) (lc_24 hC hM hX hb hA hL hi h K)
  · refine pr_tableOut (tgt := 963) (hC fb) dL_law_33 (Or.inr ?_) (by decide) (K fa fb h)
    rw [nI_toInt (by omega)]
    omega
theorem l_loop {l : Launch} {D : va_G} {T : pr_T} {B : Nat} {aC aM : Nat → Nat} {Y : pr_Y} {c0 : Cond} {b L : Nat} {xs : Nat → Int32} (hC : ∀ fb, pr_C (pr_EC l (l_0 D T B aC aM fb)) Y room_1 cL_law RL 4 c0) (hM : ∀ fa, pr_C (pr_EM l (l_1 D T B aC aM fa)) Y room_1 cL_law RL 4 c0) (hX : va_X b L xs (pr_ys Y) (pr_ys Y).heap) (hb : b < (pr_ys Y).heap.size) (hA : ¬ B ≤ b) (hL : L ≤ 3072)
    (Kend : ∀ fa fb i, pr_W (pr_EC l (l_0 D T B aC aM fb)) Y room_1 4 fa 969 (l_lv b (aC 0) (aM 0) i) []) : ∀ (m i : Nat) (fa fb : pr_M), L ≤ i + m → i ≤ L + 6 → rr fa fb → pr_W (pr_EC l (l_0 D T B aC aM fb)) Y room_1 4 fa 18 (l_lv b (aC 0) (aM 0) i) [] := by
  have head : ∀ (i : Nat) (fa fb : pr_M), i ≤ L + 6 → (i + 6 ≤ L → pr_W (pr_EC l (l_0 D T B aC aM fb)) Y room_1 4 fa 27 (l_lv b (aC 0) (aM 0) i) []) → pr_W (pr_EC l (l_0 D T B aC aM fb)) Y room_1 4 fa 18 (l_lv b (aC 0) (aM 0) i) [] := fun i fa fb hi k => by
    refine pr_iload_n (hC fb) dL_law_18 rfl 0 rfl ?_
    refine pr_aload_n (hC fb) dL_law_19 rfl 3 rfl ?_
    intro H locs ls hP hS hl
    refine va_slen (hC fb).1 (hC fb).2.1 hX hb hA hS dL_law_20 ?_
    revert H locs ls
    show pr_W (pr_EC l (l_0 D T B aC aM fb)) Y room_1 4 fa 21 (l_lv b (aC 0) (aM 0) i) [.int (nI L), .int (nI i)]
    refine pr_bipush (v := 6) (hC fb) dL_law_21 (by decide) ?_
    refine pr_isub (hC fb) dL_law_23 ?_
    refine pr_icmp_gt (tgt := 969) (hC fb) dL_law_24 (by decide) (fun _ => Kend fa fb i) (fun c => k ?_)
    rcases Nat.lt_or_ge L 6 with h6 | h6
    · exfalso
      exact c (Int32.lt_of_lt_of_le (show nI L - nI 6 < 0 from pk_sneg (by decide) h6) (nI_pos' (by omega)))
    · rw [show nI L - 6 = nI (L - 6) from pk_sub (b := 6) h6] at c
      rcases Nat.lt_or_ge (L - 6) i with h | h
      · exact absurd (nI_lt h (by omega)) c
      · omega
  intro m
  induction m with
  | zero => exact fun i fa fb h1 h2 h => head i fa fb h2 (fun c => absurd c (by omega))
  | succ m ih =>
    intro i fa fb h1 h2 h
    refine head i fa fb h2 (fun c => l_body hC hM hX hb hA hL c h (fun fa fb h => ?_))
    refine pr_iinc (lv' := l_lv b (aC 0) (aM 0) (i + 6)) (hC fb) dL_law_963 0 rfl (v := nI (i + 6)) (nI_add i 6) (by decide) rfl ?_
    exact pr_goto (tgt := 18) (hC fb) dL_law_966 (by decide) (ih (i + 6) fa fb (by omega) (by omega) h)
