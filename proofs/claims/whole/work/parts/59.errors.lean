/-! ===== the kept errors ===== -/
def er_up (g : Int32 → Int32 → Int32) (e : Nat → Int32) : Nat → Nat → Int32 → Int32
  | 0, _, x => x
  | n + 1, lo, x => er_up g e n (lo + 1) (g x (e lo))
def er_dn (g : Int32 → Int32 → Int32) (e : Nat → Int32) (lo : Nat) : Nat → Int32 → Int32
  | 0, x => x
  | n + 1, x => er_dn g e lo n (g x (e (lo + n)))
theorem er_up_snoc {g : Int32 → Int32 → Int32} {e : Nat → Int32} : ∀ (n lo : Nat) (x : Int32), er_up g e (n + 1) lo x = g (er_up g e n lo x) (e (lo + n))
  | 0, _, _ => rfl
  | n + 1, lo, x => by
    rw [er_up, er_up_snoc n (lo + 1) (g x (e lo)), er_up, show lo + 1 + n = lo + (n + 1) by omega]
theorem er_up_g {g : Int32 → Int32 → Int32} (hg : ∀ x c d, g (g x c) d = g (g x d) c) {e : Nat → Int32} : ∀ (n lo : Nat) (x c : Int32), er_up g e n lo (g x c) = g (er_up g e n lo x) c
  | 0, _, _, _ => rfl
  | n + 1, lo, x, c => by rw [er_up, hg, er_up_g hg n, er_up]
theorem er_eq {g : Int32 → Int32 → Int32} (hg : ∀ x c d, g (g x c) d = g (g x d) c) {e : Nat → Int32} : ∀ (n lo : Nat) (x : Int32), er_dn g e lo n x = er_up g e n lo x
  | 0, _, _ => rfl
  | n + 1, lo, x => by rw [er_dn, er_eq hg n, er_up_g hg, er_up_snoc]
def er_sz (v : Int32) : Int32 := if 0 ≤ v then v else -v
def er_max (x e : Int32) : Int32 := if x < e then e else x
def er_add (x e : Int32) : Int32 := x + e
def er_cnt (l x e : Int32) : Int32 := if e ≤ l then x else x + 1
theorem er_max_c (x c d : Int32) : er_max (er_max x c) d = er_max (er_max x d) c := by
  unfold er_max
  by_cases h1 : x < c
  · rw [if_pos h1]
    by_cases h2 : x < d
    · rw [if_pos h2]
      by_cases h3 : c < d
      · rw [if_pos h3, if_neg (fun h4 => Int32.lt_irrefl (Int32.lt_trans h3 h4))]
      · rw [if_neg h3]
        by_cases h4 : d < c
        · rw [if_pos h4]
        · rw [if_neg h4]; exact Int32.le_antisymm (Int32.not_lt.mp h4) (Int32.not_lt.mp h3)
    · rw [if_neg h2, if_pos h1, if_neg (fun h3 => h2 (Int32.lt_trans h1 h3))]
  · rw [if_neg h1]
    by_cases h2 : x < d
    · rw [if_pos h2, if_neg (fun h3 => h1 (Int32.lt_trans h2 h3))]
    · rw [if_neg h2, if_neg h1]
theorem er_add_c (x c d : Int32) : er_add (er_add x c) d = er_add (er_add x d) c := by
  unfold er_add
  rw [Int32.add_assoc, Int32.add_comm c d, ← Int32.add_assoc]
theorem er_cnt_c (l x c d : Int32) : er_cnt l (er_cnt l x c) d = er_cnt l (er_cnt l x d) c := by
  unfold er_cnt
  by_cases h1 : c ≤ l <;> by_cases h2 : d ≤ l <;> simp only [h1, h2, if_true, if_false]
theorem rm_sizeE (v : Int32) (b : pr_M) : F_X9_size v b = some (er_sz v) := by
  unfold F_X9_size er_sz
  by_cases h : 0 ≤ v
  · rw [if_pos h, if_pos h]
  · rw [if_neg h, if_neg h]
theorem rc_kept {q k j : Nat} {a : pr_M} (hk : k < 2 ^ 31) (hj : j ≤ 60) (h : a q 1 = nI k) : F_X1_kept q (nI j) a = some (nI (min k j)) := by
  unfold F_X1_kept
  rw [h, if_neg (show ¬ (60 : Int32) < nI j from nI_nlt (b := j) (a := 60) hj (by decide))]
  by_cases c : k < j
  · rw [if_pos (nI_lt c (by omega)), Nat.min_eq_left (by omega)]
  · rw [if_neg (nI_nlt (by omega) (by omega)), Nat.min_eq_right (by omega)]
theorem rc_sizeOf {q k i : Nat} {a : pr_M} (hk : k < 2 ^ 31) (hi : i ≤ k) (h : a q 1 = nI k) : F_X1_sizeOf q (nI i) a = some (er_sz (a (q + 1) ((k - i) % 64))) := by
  unfold F_X1_sizeOf
  have hm : (k - i) % 64 < 64 := Nat.mod_lt _ (by decide)
  rw [h, pk_sub hi, ri_63 (by omega), pr_gd_i hm (by decide), ri_cl (by omega), ri_abs]
  rfl
theorem er_great {q k m j : Nat} {a : pr_M} {e : Nat → Int32} (hk : k < 2 ^ 31) (hj : j ≤ 60) (hm : m = min k j) (h : a q 1 = nI k) (hE : ∀ J, k - m ≤ J → J < k → er_sz (a (q + 1) (J % 64)) = e J) : ∀ (r N : Nat) (x : Int32), r ≤ m → r < N → L_X1_greatest_4 q (nI j) N x (nI (m + 1 - r)) a = some (er_dn er_max e (k - m) r x)
  | 0, N, x, hr, hN => by
    obtain ⟨N, rfl⟩ : ∃ j, N = j + 1 := ⟨N - 1, by omega⟩
    rw [L_X1_greatest_4, rc_kept hk hj h, pr_b1_s, ← hm, if_pos (nI_lt (by omega) (by omega))]
    rfl
  | r + 1, N, x, hr, hN => by
    obtain ⟨N, rfl⟩ : ∃ j, N = j + 1 := ⟨N - 1, by omega⟩
    rw [L_X1_greatest_4, rc_kept hk hj h, pr_b1_s, ← hm, if_neg (nI_nlt (by omega) (by omega)), rc_sizeOf hk (by omega) h, pr_b1_s, nI_1, show m + 1 - (r + 1) + 1 = m + 1 - r by omega, hE _ (by omega) (by omega), show k - (m + 1 - (r + 1)) = k - m + r by omega]
    exact er_great hk hj hm h hE r N _ (by omega) (by omega)
theorem er_sum {q k m j : Nat} {a : pr_M} {e : Nat → Int32} (hk : k < 2 ^ 31) (hj : j ≤ 60) (hm : m = min k j) (h : a q 1 = nI k) (hE : ∀ J, k - m ≤ J → J < k → er_sz (a (q + 1) (J % 64)) = e J) : ∀ (r N : Nat) (x : Int32), r ≤ m → r < N → L_X1_sumOf_4 q (nI j) N x (nI (m + 1 - r)) a = some (er_dn er_add e (k - m) r x)
  | 0, N, x, hr, hN => by
    obtain ⟨N, rfl⟩ : ∃ j, N = j + 1 := ⟨N - 1, by omega⟩
    rw [L_X1_sumOf_4, rc_kept hk hj h, pr_b1_s, ← hm, if_pos (nI_lt (by omega) (by omega))]
    rfl
  | r + 1, N, x, hr, hN => by
    obtain ⟨N, rfl⟩ : ∃ j, N = j + 1 := ⟨N - 1, by omega⟩
    rw [L_X1_sumOf_4, rc_kept hk hj h, pr_b1_s, ← hm, if_neg (nI_nlt (by omega) (by omega)), rc_sizeOf hk (by omega) h, pr_b1_s, nI_1, show m + 1 - (r + 1) + 1 = m + 1 - r by omega, hE _ (by omega) (by omega), show k - (m + 1 - (r + 1)) = k - m + r by omega]
    exact er_sum hk hj hm h hE r N _ (by omega) (by omega)
theorem er_count {q k m j : Nat} {l : Int32} {a : pr_M} {e : Nat → Int32} (hk : k < 2 ^ 31) (hj : j ≤ 60) (hm : m = min k j) (h : a q 1 = nI k) (hE : ∀ J, k - m ≤ J → J < k → er_sz (a (q + 1) (J % 64)) = e J) : ∀ (r N : Nat) (x : Int32), r ≤ m → r < N → L_X1_greaterThan_5 q (nI j) l N x (nI (m + 1 - r)) a = some (er_dn (er_cnt l) e (k - m) r x)
  | 0, N, x, hr, hN => by
    obtain ⟨N, rfl⟩ : ∃ j, N = j + 1 := ⟨N - 1, by omega⟩
    rw [L_X1_greaterThan_5, rc_kept hk hj h, pr_b1_s, ← hm, if_pos (nI_lt (by omega) (by omega))]
    rfl
  | r + 1, N, x, hr, hN => by
    obtain ⟨N, rfl⟩ : ∃ j, N = j + 1 := ⟨N - 1, by omega⟩
    rw [L_X1_greaterThan_5, rc_kept hk hj h, pr_b1_s, ← hm, if_neg (nI_nlt (by omega) (by omega)), rc_sizeOf hk (by omega) h, pr_b1_s, nI_1, show m + 1 - (r + 1) + 1 = m + 1 - r by omega, hE _ (by omega) (by omega), show k - (m + 1 - (r + 1)) = k - m + r by omega, er_count hk hj hm h hE r N _ (by omega) (by omega), er_count hk hj hm h hE r N _ (by omega) (by omega), er_dn]
    unfold er_cnt
    by_cases c : e (k - m + r) ≤ l
    · rw [if_pos c, if_pos c]
    · rw [if_neg c, if_neg c]
theorem er_model {u k m : Nat} {x3 l : Int32} {b : pr_M} {e : Nat → Int32} (hu : u < 5) (hk : k < 2 ^ 31) (hl : b 1 (353 * u + 6) = l) (hE : ∀ J, k - m ≤ J → J < k → er_sz (b 1 (353 * u + (37 + J % 60))) = e J) : ∀ (r J N : Nat) (x y z : Int32), J + r = k → k - m ≤ J → r < N → L_X9_errors_72 0 (nI u) x3 (nI k) (nI m) N x y z (nI J) b = some (er_up er_max e r J x, er_up er_add e r J y, er_up (er_cnt l) e r J z)
  | 0, J, N, x, y, z, hr, h1, hN => by
    obtain ⟨N, rfl⟩ : ∃ j, N = j + 1 := ⟨N - 1, by omega⟩
    rw [L_X9_errors_72, if_pos (nI_le (by omega) (by omega))]
    rfl
  | r + 1, J, N, x, y, z, hr, h1, hN => by
    obtain ⟨N, rfl⟩ : ∃ j, N = j + 1 := ⟨N - 1, by omega⟩
    have hm : J % 60 < 60 := Nat.mod_lt _ (by decide)
    have e37 : (37 : Int32) + (nI J - nI J / 60 * 60) = nI (37 + J % 60) := by rw [ri_r60 (by omega)]; exact nI_add 37 _
    rw [L_X9_errors_72, if_neg (nI_ge (by omega) (by omega)), e37, rm_of _ hu (by omega), pr_b1_s, rm_sizeE, pr_b1_s, hE _ (by omega) (by omega), rm_of_6 _ hu, hl]
    have q1 : (if e J ≤ x then some x else some (e J)) = some (er_max x (e J)) := by
      unfold er_max
      by_cases c : e J ≤ x
      · rw [if_pos c, if_neg (Int32.not_lt.mpr c)]
      · rw [if_neg c, if_pos (Int32.not_le.mp c)]
    have q2 : (if e J ≤ l then some (0 : Int32) else some 1) = some (if e J ≤ l then 0 else 1) := by
      by_cases c : e J ≤ l
      · rw [if_pos c, if_pos c]
      · rw [if_neg c, if_neg c]
    have q3 : z + (if e J ≤ l then (0 : Int32) else 1) = er_cnt l z (e J) := by
      unfold er_cnt
      by_cases c : e J ≤ l
      · rw [if_pos c, if_pos c, Int32.add_zero]
      · rw [if_neg c, if_neg c]
    rw [q1, pr_b1_s, pr_b1_s, q2, pr_b1_s, q3, nI_1, er_model hu hk hl hE r (J + 1) N _ _ _ (by omega) (by omega) (by omega)]
    rfl
/-- both sides find the controlled unit, or neither does -/
theorem ap_ctl {a b : pr_M} {n t : Nat} (h : rpn a b 1 n t) (x : Int32) : (∃ u, 1 ≤ u ∧ u < n ∧ u < 5 ∧ x = nI u ∧ F_X3_controlledUnitAt (0 + 1) x a = some (some (1 + 1 + 3 + 9 * u)) ∧ F_X9_isControlled 0 x b = some 1) ∨ (F_X3_controlledUnitAt (0 + 1) x a = some none ∧ F_X9_isControlled 0 x b = some 0) := by
  unfold F_X3_controlledUnitAt F_X9_isControlled
  by_cases c : x = 0
  · rw [if_pos c, if_pos c]; exact Or.inr ⟨rfl, rfl⟩
  · rw [if_neg c, if_neg c]
    rcases ap_unit h x with ⟨u, hu, hu5, rfl, e1, e2⟩ | ⟨e1, e2, -⟩
    · left
      refine ⟨u, ?_, hu, hu5, rfl, ?_, ?_⟩
      · rcases Nat.eq_zero_or_pos u with e | e
        · subst e; exact absurd rfl c
        · exact e
      · rw [e1, pr_b1_s]
        unfold pr_op pr_gd
        dsimp only
        rw [if_pos (lc_u hu5)]
      · rw [e2, pr_b1_s, if_neg (show ¬ (1 : Int32) = 0 by decide)]
    · right
      rw [e1, e2, pr_b1_s, pr_b1_s, if_pos rfl]
      exact ⟨rfl, rfl⟩
theorem s_errors {a b : pr_M} (h : rr a b) (x y z : Int32) : owe1 (F_X8_errors 0 x y z a) (F_X9_errors 0 x y z b) := by
  obtain ⟨t, ht, n, hn⟩ := h.1
  unfold F_X8_errors F_X9_errors F_X1_greatest F_X1_sumOf F_X1_greaterThan
  rcases ap_ctl hn x with ⟨u, hu1, hu, hu5, rfl, e1, e2⟩ | ⟨e1, e2⟩
  · rw [e1, e2, pr_b1_s, pr_b1_s, if_neg (show ¬ (1 : Int32) = 0 by decide), rc_outside, rm_in]
    unfold pr_op
    dsimp only
    rw [show pr_gd (pr_LC[1 + 1 + 3 + 9 * u]? = some (7, 0)) = fun (X : Option Int32) => X from by funext X; exact if_pos (lc_u hu5)]
    dsimp only
    rw [pr_b1_s, pr_b1_s]
    obtain ⟨⟨a1, -⟩, -, -, ⟨k, l1, l2, l3, l4⟩, -⟩ := k_of hn hu
    dsimp only [ru_U, ru_V, uq] at a1 l1 l2 l4
    by_cases c1 : y < 1
    · rw [if_pos c1, if_pos c1, if_neg (show ¬ (1 : Int32) = 0 by decide), if_pos rfl]; exact ⟨_, rfl, rfl⟩
    · rw [if_neg c1, if_neg c1]
      by_cases c2 : y ≤ 60
      · obtain ⟨j, hj, rfl⟩ := nI_of2 (M := 60) (n := 60) (by decide) (fun c => c1 (Int32.lt_trans c (by decide))) c2
        rw [if_pos c2, if_neg (Int32.not_lt.mpr c2), if_pos rfl, if_neg (show ¬ (1 : Int32) = 0 by decide), rm_in, pr_b1_s]
        obtain ⟨m, hm⟩ : ∃ m, m = min k j := ⟨_, rfl⟩
        have vm : (if nI j ≤ nI k then some (nI j) else some (nI k)) = some (nI m) := by
          by_cases c : j ≤ k
          · rw [if_pos (nI_le c (by omega)), hm, Nat.min_eq_right c]
          · rw [if_neg (nI_ge (by omega) (by omega)), hm, Nat.min_eq_left (by omega)]
        have hE : ∀ J, k - m ≤ J → J < k → er_sz (a (1 + 1 + 3 + 9 * u + 6 + 1 + 1) (J % 64)) = er_sz (b 1 (353 * u + (37 + J % 60))) := fun J g1 g2 => by
          rw [show (a (1 + 1 + 3 + 9 * u + 6 + 1 + 1) (J % 64)) = b 1 (353 * u + (37 + J % 60)) from l4 J g2 (by omega)]
        have hk31 : k < 2 ^ 31 := by omega
        have M := er_model (x3 := z) (l := b 1 (353 * u + 6)) (e := fun J => er_sz (b 1 (353 * u + (37 + J % 60)))) hu5 hk31 rfl (fun J _ _ => rfl) m (k - m) pr_fuel 0 0 0 (by omega) (Nat.le_refl _) (by show m < 4000; omega)
        have G := er_great (q := 1 + 1 + 3 + 9 * u + 6 + 1) hk31 hj hm l1 hE m pr_fuel 0 (Nat.le_refl _) (by show m < 4000; omega)
        have S := er_sum (q := 1 + 1 + 3 + 9 * u + 6 + 1) hk31 hj hm l1 hE m pr_fuel 0 (Nat.le_refl _) (by show m < 4000; omega)
        have C := er_count (q := 1 + 1 + 3 + 9 * u + 6 + 1) (l := b 1 (353 * u + 6)) hk31 hj hm l1 hE m pr_fuel 0 (Nat.le_refl _) (by show m < 4000; omega)
        rw [show m + 1 - m = 1 by omega, er_eq er_max_c] at G
        rw [show m + 1 - m = 1 by omega, er_eq er_add_c] at S
        rw [show m + 1 - m = 1 by omega, er_eq (er_cnt_c _)] at C
        have no : (z < 0 ∨ 3 < z) → ∀ i : Nat, i ≤ 3 → ¬ z = nI i := fun hz i hi e => by
          rw [e] at hz
          rcases hz with hz | hz
          · exact nI_pos (by omega) hz
          · exact nI_nlt (a := 3) (b := i) hi (by decide) hz
        by_cases hz : z < 0 ∨ 3 < z
        · have r5 : (if z < 0 then (0 : Int32) else if 3 < z then 0 else 1) = 0 := by
            rcases hz with c | c
            · rw [if_pos c]
            · rw [if_neg (fun c2 => absurd (Int32.lt_trans c2 (Int32.lt_trans (by decide) c)) (Int32.lt_irrefl)), if_pos c]
          rw [r5, if_pos rfl, if_neg (show ¬ z = 0 from no hz 0 (by decide)), if_neg (show ¬ z = 1 from no hz 1 (by decide)), if_neg (show ¬ z = 2 from no hz 2 (by decide)), if_neg (show ¬ z = 3 from no hz 3 (by decide))]
          exact ⟨_, rfl, rfl⟩
        · obtain ⟨i, hi, rfl⟩ := nI_of2 (M := 3) (n := 3) (by decide) (fun c => hz (Or.inl c)) (Int32.not_lt.mp fun c => hz (Or.inr c))
          rw [if_neg (show ¬ nI i < 0 from nI_pos (by omega)), if_neg (show ¬ (3 : Int32) < nI i from nI_nlt (b := i) (a := 3) hi (by decide)), if_neg (show ¬ (1 : Int32) = 0 by decide), rm_of_36 _ hu5, l2, pr_b1_s, vm, pr_b1_s, pk_sub (by omega), M, pr_b1_s]
          rcases (show i = 0 ∨ i = 1 ∨ i = 2 ∨ i = 3 by omega) with rfl | rfl | rfl | rfl
          · rw [if_pos (show nI 0 = 0 by decide), if_pos (show nI 0 = 0 by decide), show (1 : Int32) = nI 1 from rfl, G, pr_b1_s, pr_b1_s]
            exact ⟨_, rfl, rfl⟩
          · rw [if_neg (show ¬ nI 1 = 0 by decide), if_neg (show ¬ nI 1 = 0 by decide), if_pos (show nI 1 = 1 by decide), if_pos (show nI 1 = 1 by decide), show (1 : Int32) = nI 1 from rfl, S, pr_b1_s, pr_b1_s]
            exact ⟨_, rfl, rfl⟩
          · rw [if_neg (show ¬ nI 2 = 0 by decide), if_neg (show ¬ nI 2 = 0 by decide), if_neg (show ¬ nI 2 = 1 by decide), if_neg (show ¬ nI 2 = 1 by decide), if_pos (show nI 2 = 2 by decide), if_pos (show nI 2 = 2 by decide), rc_kept hk31 hj l1, pr_b1_s, ← hm]
            exact ⟨_, rfl, rfl⟩
          · rw [if_neg (show ¬ nI 3 = 0 by decide), if_neg (show ¬ nI 3 = 0 by decide), if_neg (show ¬ nI 3 = 1 by decide), if_neg (show ¬ nI 3 = 1 by decide), if_neg (show ¬ nI 3 = 2 by decide), if_neg (show ¬ nI 3 = 2 by decide), if_pos (show nI 3 = 3 by decide), rc_set_6, pr_b1_s, show a (1 + 1 + 3 + 9 * u + 1) 6 = b 1 (353 * u + 6) from a1 6 (by decide), show (1 : Int32) = nI 1 from rfl, C, pr_b1_s, pr_b1_s]
            exact ⟨_, rfl, rfl⟩
      · rw [if_neg c2, if_pos (Int32.not_le.mp c2), if_neg (show ¬ (1 : Int32) = 0 by decide), if_pos rfl]; exact ⟨_, rfl, rfl⟩
  · rw [e1, e2, pr_b1_s, pr_b1_s, if_pos rfl]
    exact ⟨_, rfl, rfl⟩
