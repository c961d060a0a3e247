/-! ===== put: the loops, the call ===== -/
theorem pt_c {x : Int64} : ∀ (i l N : Nat) (a : pr_M), i < 8 → l + i < 80 → i + 1 < N → a 199 1 = nI l →
    ∃ a', L_X8_put_34 0 x N (nI i) a = some ((), a') ∧ a' 199 1 = nI (l + i + 1) ∧ (∀ j, j ≤ i → a' 200 (l + j) = nI (by_c x (i - j))) ∧ (∀ j, j < l → a' 200 j = a 200 j) ∧ (∀ c s, c < 199 → a' c s = a c s) := by
  have one : ∀ (i l N : Nat) (a : pr_M), i < 8 → l + i < 80 → a 199 1 = nI l → L_X8_put_34 0 x (N + 1) (nI i) a = L_X8_put_34 0 x N (nI i + (-1)) (pr_up (pr_up a 200 l (nI (by_c x i))) 199 1 (nI (l + 1))) := fun i l N a hi hl ha => by
    rw [L_X8_put_34, if_neg (nI_pos (by omega)), by_u x hi, Nat.zero_add]
    unfold F_X2_append
    rw [ha, if_neg (nI_pos (by omega)), if_neg (show ¬ (80 : Int32) ≤ nI l from nI_ge (b := 80) (by omega) (by decide)), pr_gd_i (by omega) (by decide), ri_cl (by omega), pr_lt_s, rd_n (by omega), ha, nI_1, pr_lt_s, pr_bd_s]
  intro i
  induction i with
  | zero =>
    intro l N a hi hl hN ha
    obtain ⟨N, rfl⟩ : ∃ j, N = j + 2 := ⟨N - 2, by omega⟩
    rw [one 0 l (N + 1) a hi hl ha, show nI 0 + (-1) = (-1 : Int32) by decide, L_X8_put_34, if_pos (by decide)]
    refine ⟨_, rfl, rd_e ⟨rfl, rfl⟩, fun j hj => ?_, fun j hj => ?_, fun c s hc => ?_⟩
    · obtain rfl : j = 0 := by omega
      rw [rd_n (by omega)]
      exact rd_e ⟨rfl, rfl⟩
    · simp (disch := omega) only [rd_n]
    · simp (disch := omega) only [rd_n]
  | succ i ih =>
    intro l N a hi hl hN ha
    obtain ⟨N, rfl⟩ : ∃ j, N = j + 1 := ⟨N - 1, by omega⟩
    rw [one (i + 1) l N a hi hl ha, pk_m1]
    obtain ⟨a', e1, e2, e3, e4, e5⟩ := ih (l + 1) N (pr_up (pr_up a 200 l (nI (by_c x (i + 1)))) 199 1 (nI (l + 1))) (by omega) (by omega) (by omega) (rd_e ⟨rfl, rfl⟩)
    refine ⟨a', e1, ?_, fun j hj => ?_, fun j hj => ?_, fun c s hc => ?_⟩
    · rw [e2]; congr 1; omega
    · rcases Nat.eq_zero_or_pos j with rfl | h0
      · rw [Nat.add_zero, e4 l (by omega), rd_n (by omega), rd_e ⟨rfl, rfl⟩]; rfl
      · have := e3 (j - 1) (by omega)
        rw [show l + 1 + (j - 1) = l + j by omega, show i - (j - 1) = i + 1 - j by omega] at this
        exact this
    · rw [e4 j (by omega)]; simp (disch := omega) only [rd_n]
    · rw [e5 c s hc]; simp (disch := omega) only [rd_n]
theorem pt_m {x : Int64} {n l : Nat} (hn : n ≤ 8) (hl : l + n ≤ 80) : ∀ (m i N : Nat) (b : pr_M), i + m = n → m < N → b 0 5 = nI l → (∀ j, j < i → b 5 (l + j) = nI (by_c x (n - 1 - j))) →
    ∃ b', L_X9_put_86 0 x (nI n) N (nI i) b = some ((), b') ∧ (∀ j, j < n → b' 5 (l + j) = nI (by_c x (n - 1 - j))) ∧ (∀ c j, (c ≠ 5 ∨ j < l) → b' c j = b c j)
  | 0, i, N, b, hi, hN, h5, h => by
    obtain ⟨N, rfl⟩ : ∃ j, N = j + 1 := ⟨N - 1, by omega⟩
    have hin : i = n := by omega
    subst hin
    rw [L_X9_put_86, if_pos (nI_le (Nat.le_refl _) (by omega))]
    exact ⟨_, rfl, h, fun _ _ _ => rfl⟩
  | m + 1, i, N, b, hi, hN, h5, h => by
    obtain ⟨N, rfl⟩ : ∃ j, N = j + 1 := ⟨N - 1, by omega⟩
    have es : (8 : Int32) * ((nI n - 1) - nI i) = 8 * nI (n - 1 - i) := by rw [ri_neg1 (by omega), pk_sub (by omega)]
    obtain ⟨b', e1, e2, e3⟩ := pt_m (x := x) hn hl m (i + 1) N (pr_up b 5 (l + i) (nI (by_c x (n - 1 - i)))) (by omega) (by omega) (by rw [rd_n (by omega)]; exact h5) (fun j hj => by
      by_cases c : j = i
      · subst c; exact rd_e ⟨rfl, rfl⟩
      · rw [rd_n (by omega)]; exact h j (by omega))
    rw [L_X9_put_86, if_neg (nI_ge (by omega) (by omega)), h5, nI_add, pr_gd_i (by omega) (by decide), ri_cl (by omega), es, by_s x (by omega), pr_lt_s, nI_1, Nat.zero_add, e1]
    exact ⟨_, rfl, e2, fun c j hc => by rw [e3 c j hc, rd_n (by omega)]⟩
def M_put (x : Int64) (n : Nat) (b : pr_M) : Option (Int32 × pr_M) := if ((b 0 5) + nI n) ≤ 80 then (pr_bd (L_X9_put_86 0 x (nI n) pr_fuel 0 b) fun _ f6006 => pr_lt (pr_up f6006 0 5 ((f6006 0 5) + nI n)) fun f6007 => some ((f6007 0 5), f6007)) else some ((-1000000004), b)
theorem pt_in (c : Nat) (hc : c < 256) (a b : pr_M) : (33 ≤ c ∧ c ≤ 126 → F_X8_isOutside (nI c) 33 126 a = some 0 ∧ F_X9_in (nI c) 33 126 b = some 1) ∧ (¬ (33 ≤ c ∧ c ≤ 126) → F_X8_isOutside (nI c) 33 126 a = some 1 ∧ F_X9_in (nI c) 33 126 b = some 0) := by
  rw [rc_outside, rm_in]
  constructor
  · intro h
    rw [if_neg (show ¬ nI c < 33 from nI_nlt (b := 33) (by omega) (by omega)), if_neg (show ¬ nI c < 33 from nI_nlt (b := 33) (by omega) (by omega)), if_pos (show nI c ≤ 126 from nI_le (b := 126) (by omega) (by decide)), if_neg (show ¬ (126 : Int32) < nI c from nI_nlt (a := 126) (by omega) (by decide))]
    exact ⟨rfl, rfl⟩
  · intro h
    by_cases c1 : c < 33
    · rw [if_pos (show nI c < 33 from nI_lt (b := 33) c1 (by decide)), if_pos (show nI c < 33 from nI_lt (b := 33) c1 (by decide))]
      exact ⟨rfl, rfl⟩
    · rw [if_neg (show ¬ nI c < 33 from nI_nlt (b := 33) (by omega) (by omega)), if_neg (show ¬ nI c < 33 from nI_nlt (b := 33) (by omega) (by omega)), if_neg (show ¬ nI c ≤ 126 from nI_ge (a := 126) (by omega) (by omega)), if_pos (show (126 : Int32) < nI c from nI_lt (a := 126) (by omega) (by omega))]
      exact ⟨rfl, rfl⟩
theorem pt_go {x : Int64} {a b : pr_M} : ∀ (m c N N' : Nat) (y : Int64), c + m = 8 → m < N → m < N' → y.toBitVec.toNat = x.toBitVec.toNat / 2 ^ (8 * c) → (∀ i, i < c → 33 ≤ by_c x i ∧ by_c x i ≤ 126) →
    (L_X8_charactersIn_5 N y (nI c) a = some 0 ∧ L_X9_put_5 0 x N' (nI c) y b = some (-1000000002, b)) ∨ (∃ n, 1 ≤ n ∧ n ≤ 8 ∧ L_X8_charactersIn_5 N y (nI c) a = some (nI n) ∧ L_X9_put_5 0 x N' (nI c) y b = M_put x n b ∧ ∀ i, i < n → 33 ≤ by_c x i ∧ by_c x i ≤ 126)
  | m, c, N, N', y, hc, hN, hN', hy, hB => by
    obtain ⟨N, rfl⟩ : ∃ j, N = j + 1 := ⟨N - 1, by omega⟩
    obtain ⟨N', rfl⟩ : ∃ j, N' = j + 1 := ⟨N' - 1, by omega⟩
    have hx : x.toBitVec.toNat < 2 ^ 64 := x.toBitVec.isLt
    rw [L_X8_charactersIn_5, L_X9_put_5]
    by_cases c0 : y.toBitVec.toNat = 0
    · rw [if_pos ((by_0 y).mpr c0), if_pos ((by_0 y).mpr c0), if_pos ((by_00 y).mpr (by rw [c0]))]
      rcases Nat.eq_zero_or_pos c with e | e
      · subst e
        left
        rw [if_neg (show ¬ (8 : Int32) ≤ nI 0 by decide), if_pos (show nI 0 = 0 by decide)]
        exact ⟨rfl, rfl⟩
      · right
        refine ⟨c, e, by omega, rfl, ?_, hB⟩
        rw [if_neg (nI_ne0 e (by omega))]
        unfold M_put
        by_cases c8 : (8 : Int32) ≤ nI c
        · rw [if_pos c8]
        · rw [if_neg c8]
    · have c8 : c < 8 := by
        rcases Nat.lt_or_ge c 8 with h | h
        · exact h
        · exfalso
          have e8 : c = 8 := by omega
          subst e8
          rw [Nat.div_eq_of_lt hx] at hy
          exact c0 hy
      have hb : y.toBitVec.toNat % 256 = by_c x c := by rw [hy]; rfl
      have hb2 : by_c x c < 256 := Nat.mod_lt _ (by decide)
      obtain ⟨p1, p2⟩ := pt_in (by_c x c) hb2 a b
      rw [if_neg (fun q => c0 ((by_0 y).mp q)), if_neg (fun q => c0 ((by_0 y).mp q)), if_neg (show ¬ (8 : Int32) ≤ nI c from nI_ge (b := 8) c8 (by decide)), if_neg (show ¬ (8 : Int32) ≤ nI c from nI_ge (b := 8) c8 (by decide)), by_A, hb]
      by_cases ci : 33 ≤ by_c x c ∧ by_c x c ≤ 126
      · rw [(p1 ci).1, (p1 ci).2, if_neg (fun q => by have := (by_00 y).mp q; omega), pr_b1_s, pr_b1_s, if_pos rfl, if_neg (show ¬ (1 : Int32) = 0 by decide), nI_1]
        obtain ⟨m, rfl⟩ : ∃ j, m = j + 1 := ⟨m - 1, by omega⟩
        refine pt_go m (c + 1) N N' _ (by omega) (by omega) (by omega) ?_ (fun i hi => ?_)
        · rw [by_1, hy, Nat.div_div_eq_div_mul, show 8 * (c + 1) = 8 * c + 8 by omega, Nat.pow_add]
        · by_cases e : i = c
          · subst e; exact ci
          · exact hB i (by omega)
      · left
        rw [(p2 ci).1, (p2 ci).2, pr_b1_s, pr_b1_s, if_neg (show ¬ (1 : Int32) = 0 by decide), if_pos rfl]
        refine ⟨rfl, ?_⟩
        by_cases cz : lg_cmp (y &&& 255) 0 = 0
        · rw [if_pos cz]
          by_cases e : nI c = 0
          · rw [if_pos e]
          · rw [if_neg e]
        · rw [if_neg cz]
theorem s_put {a b : pr_M} (h : rr a b) (x : Int64) : owe (F_X8_put 0 x a) (F_X9_put 0 x b) := by
  obtain ⟨hp, h2, h3, len, g1, g2, g3, g4⟩ := id h
  unfold F_X8_put F_X9_put F_X8_charactersIn
  rcases pt_go (x := x) (a := a) (b := b) 8 0 pr_fuel pr_fuel x rfl (by decide) (by decide) (by rw [Nat.mul_zero, Nat.pow_zero, Nat.div_one]) (fun i hi => absurd hi (Nat.not_lt_zero i)) with ⟨e1, e2⟩ | ⟨n, n1, n8, e1, e2, hB⟩
  · rw [show L_X8_charactersIn_5 pr_fuel x 0 a = some 0 from e1, show L_X9_put_5 0 x pr_fuel 0 x b = _ from e2, pr_b1_s, if_pos rfl]
    exact owe_same h _ rfl rfl
  · rw [show L_X8_charactersIn_5 pr_fuel x 0 a = some (nI n) from e1, show L_X9_put_5 0 x pr_fuel 0 x b = _ from e2, pr_b1_s, if_neg (nI_ne0 n1 (by omega)), Nat.zero_add, g2, nI_add]
    unfold M_put
    rw [g3, nI_add]
    by_cases c : len + n ≤ 80
    · rw [if_pos (show nI (len + n) ≤ 80 from nI_le (b := 80) c (by decide)), if_pos (show nI (len + n) ≤ 80 from nI_le (b := 80) c (by decide)), ri_neg1 n1]
      obtain ⟨a', w1, w2, w3, w4, w5⟩ := pt_c (x := x) (n - 1) len pr_fuel a (by omega) (by omega) (by show n - 1 + 1 < 4000; omega) g2
      obtain ⟨b', v1, v2, v3⟩ := pt_m (x := x) n8 c n 0 pr_fuel b (by omega) (by show n < 4000; omega) g3 (fun j hj => absurd hj (Nat.not_lt_zero j))
      rw [w1, show L_X9_put_86 0 x (nI n) pr_fuel 0 b = some ((), b') from v1, pr_bd_s, pr_bd_s, pr_lt_s, rd_e ⟨rfl, rfl⟩, v3 0 5 (by omega), g3, nI_add, w2, show len + (n - 1) + 1 = len + n by omega]
      obtain ⟨t, ht, q, hn⟩ := hp
      refine ⟨_, _, _, rfl, rfl, ⟨⟨t, ht, q, rpn_same hn (fun c s _ g => w5 _ _ (by omega)) (fun k _ => by rw [rd_n (by omega), v3 _ _ (by omega)])⟩, sl_same (by decide) h2 (fun s => w5 _ _ (by omega)) (fun c s g _ => w5 _ _ (by omega)) (fun j _ => by rw [rd_n (by omega), v3 _ _ (by omega)]) (by rw [rd_n (by omega), v3 _ _ (by omega)]), sl_same (by decide) h3 (fun s => w5 _ _ (by omega)) (fun c s g _ => w5 _ _ (by omega)) (fun j _ => by rw [rd_n (by omega), v3 _ _ (by omega)]) (by rw [rd_n (by omega), v3 _ _ (by omega)]), len + n, c, ?_, rd_e ⟨rfl, rfl⟩, fun i hi => ?_⟩⟩
      · rw [w2]; congr 1; omega
      · by_cases ci : i < len
        · rw [w4 i ci, rd_n (by omega), v3 _ _ (by omega)]; exact g4 i ci
        · obtain ⟨j, rfl⟩ : ∃ j, i = len + j := ⟨i - len, by omega⟩
          rw [w3 j (by omega), rd_n (by omega), v2 j (by omega)]
          have := hB (n - 1 - j) (by omega)
          exact ⟨rfl, _, this.1, this.2, rfl⟩
    · rw [if_neg (show ¬ nI (len + n) ≤ 80 from nI_ge (a := 80) (by omega) (by omega)), if_neg (show ¬ nI (len + n) ≤ 80 from nI_ge (a := 80) (by omega) (by omega))]
      exact owe_same h _ rfl rfl
