/-! ===== carryOut ===== -/
theorem q_go_ok {len : Nat} {e : Nat → Nat} (h : tx len e) : ∀ (f p : Nat), p ≤ len → (q_go e len f p).2.2 = true → ∀ st, st ∈ (q_go e len f p).1 → pOK st
  | 0, p, hp, ho, st, hst => by cases ho
  | f + 1, p, hp, ho, st, hst => by
    rw [q_go] at ho hst
    rcases qa : q_at e p with ⟨s', _ | st0⟩
    · rw [qa] at ho; cases ho
    · rw [qa] at ho hst
      dsimp only at ho hst
      have B := q_at_b h hp qa
      by_cases c : len ≤ s'
      · rw [if_pos c] at hst
        cases hst with
        | head => exact (q_at_ok h hp qa).1
        | tail _ w => cases w
      · rw [if_neg c] at ho hst
        cases hst with
        | head => exact (q_at_ok h hp qa).1
        | tail _ w => exact q_go_ok h f s' B.1 ho st w
theorem ex_go {len K n : Nat} {e : Nat → Nat} (h : tx len e) (hK : K ≤ 41) (x y : Int32) : ∀ (f p N N' k t : Nat) (a b : pr_M), (q_go e len f p).2.2 = true → p ≤ len → tc len e a → cG a p → k + (q_go e len f p).1.length = K → (q_go e len f p).1.length < N → (q_go e len f p).1.length < N' → b 0 9 = nI K → (∀ i st, (q_go e len f p).1[i]? = some st → mO (k + i) b st) → (∀ st, st ∈ (q_go e len f p).1 → st.2.1 < n) → t + q_sn (q_go e len f p).1 ≤ 100000 → rpn a b 1 n t →
    ∃ a' b', L_X8_carryOut_74 0 x N (nI k) a = some ((), a') ∧ L_X9_carryOut_116 0 y N' (nI k) b = some ((), b') ∧ rpn a' b' 1 n (t + q_sn (q_go e len f p).1) ∧ (∀ c s, 50 ≤ c → (c ≠ 199 ∨ s < 2) → a' c s = a c s) ∧ (∀ c k, c ≠ 1 → b' c k = b c k)
  | 0, p, N, N', k, t, a, b, ho, hp, ha, g, hl, hN, hN', h9, hm, hu, ht, hn => by cases ho
  | f + 1, p, N, N', k, t, a, b, ho, hp, ha, g, hl, hN, hN', h9, hm, hu, ht, hn => by
    obtain ⟨N, rfl⟩ : ∃ j, N = j + 1 := ⟨N - 1, by omega⟩
    obtain ⟨N', rfl⟩ : ∃ j, N' = j + 1 := ⟨N' - 1, by omega⟩
    have h80 := h.1
    have i4 : (4 : Int32) * nI k = nI (4 * k) := by rw [show (4 : Int32) = nI 4 from rfl, pk_mul]
    rcases qa : q_at e p with ⟨s', _ | st⟩
    · rw [q_go, qa] at ho; cases ho
    · obtain ⟨ok, hpl⟩ := q_at_ok h hp qa
      obtain ⟨a1, e1, f1, k1, k2, -⟩ := c_rd h ha hp g qa
      obtain ⟨k2, k3, k4⟩ := k2 st rfl
      have hn1 : rpn a1 b 1 n t := rpn_same hn (fun c s _ g => f1 _ _ (by omega)) (fun _ _ => rfl)
      have main : ∀ L', (q_go e len (f + 1) p).1 = st :: L' → ∃ a2 b2, F_X8_carryOutStep 0 a1 = some ((), a2) ∧ F_X9_carryOutStep 0 (nI (4 * k)) b = some ((), b2) ∧ rpn a2 b2 1 n (t + (if st.1 = 110 then st.2.2.1.toNatClampNeg else 0)) ∧ (∀ c s, 50 ≤ c → a2 c s = a1 c s) ∧ (∀ c k, c ≠ 1 → b2 c k = b c k) := fun L' hL => by
        rw [hL] at hl hm hu ht
        rw [List.length_cons] at hl
        rw [q_sn] at ht
        exact ex_1 ok (hu st (List.mem_cons_self ..)) k3 (hm 0 st rfl) (by omega) (by omega) hn1
      have hd : ∀ L', (q_go e len (f + 1) p).1 = st :: L' → ∀ (a2 b2 : pr_M), F_X8_carryOutStep 0 a1 = some ((), a2) → F_X9_carryOutStep 0 (nI (4 * k)) b = some ((), b2) → L_X8_carryOut_74 0 x (N + 1) (nI k) a = L_X8_carryOut_74 0 x N (nI (k + 1)) a2 ∧ L_X9_carryOut_116 0 y (N' + 1) (nI k) b = L_X9_carryOut_116 0 y N' (nI (k + 1)) b2 := fun L' hL a2 b2 w1 w2 => by
        rw [hL, List.length_cons] at hl
        rw [L_X8_carryOut_74, L_X9_carryOut_116, if_neg (show ¬ (80 : Int32) ≤ nI k from nI_ge (b := 80) (by omega) (by decide)), h9, if_neg (nI_ge (by omega) (by omega)), i4, w2, pr_bd_s, nI_1]
        unfold F_X2_hasMore
        rw [Nat.zero_add, g.2, if_pos rfl, ha.1, g.1, if_neg (nI_ge hpl (by omega)), pr_b1_s, if_neg (show ¬ (1 : Int32) = 0 by decide), e1, pr_bd_s, w1, pr_bd_s]
        exact ⟨rfl, rfl⟩
      have B := q_at_b h hp qa
      have tc1 := tc_cf ha f1
      by_cases c : len ≤ s'
      · have hq : q_go e len (f + 1) p = ([st], s', true) := by
          rw [q_go, qa]
          exact if_pos c
        obtain ⟨a2, b2, w1, w2, w3, w4, w5⟩ := main [] (by rw [hq])
        obtain ⟨d1, d2⟩ := hd [] (by rw [hq]) a2 b2 w1 w2
        rw [hq] at hl hN hN' ht ⊢
        dsimp only at hl hN hN' ⊢
        rw [List.length_cons] at hl hN hN'
        rw [d1, d2]
        obtain ⟨N, rfl⟩ : ∃ j, N = j + 1 := ⟨N - 1, by omega⟩
        obtain ⟨N', rfl⟩ : ∃ j, N' = j + 1 := ⟨N' - 1, by omega⟩
        have e0 : ([] : List pr_Stp).length = 0 := rfl
        rw [L_X8_carryOut_74, L_X9_carryOut_116, if_neg (show ¬ (80 : Int32) ≤ nI (k + 1) from nI_ge (b := 80) (by omega) (by decide)), w5 _ _ (by omega), h9, if_pos (nI_le (by omega) (by omega))]
        unfold F_X2_hasMore
        rw [Nat.zero_add, w4 _ _ (by omega), w4 _ _ (by omega), w4 _ _ (by omega), k2.2, if_pos rfl, tc1.1, k2.1, if_pos (nI_le c (by omega)), pr_b1_s, if_pos rfl]
        refine ⟨a2, b2, rfl, rfl, ?_, fun c s h1 h2 => by rw [w4 c s h1, f1 c s (by omega)], w5⟩
        rw [q_sn, q_sn, Nat.add_zero]
        exact w3
      · have hq : q_go e len (f + 1) p = (st :: (q_go e len f s').1, (q_go e len f s').2.1, (q_go e len f s').2.2) := by
          rw [q_go, qa]
          exact if_neg c
        obtain ⟨a2, b2, w1, w2, w3, w4, w5⟩ := main (q_go e len f s').1 (by rw [hq])
        obtain ⟨d1, d2⟩ := hd (q_go e len f s').1 (by rw [hq]) a2 b2 w1 w2
        rw [hq] at ho hl hN hN' ht hm hu ⊢
        dsimp only at ho hl hN hN' ht hm hu ⊢
        rw [List.length_cons] at hl hN hN'
        rw [q_sn] at ht ⊢
        rw [d1, d2]
        have T2 : tc len e a2 := ⟨by rw [w4 _ _ (by omega)]; exact tc1.1, fun i hi => by rw [w4 _ _ (by omega)]; exact tc1.2 i hi⟩
        obtain ⟨a', b', y1, y2, y3, y4, y5⟩ := ex_go h hK x y f s' N N' (k + 1) (t + (if st.1 = 110 then st.2.2.1.toNatClampNeg else 0)) a2 b2 ho B.1 T2 ⟨by rw [w4 _ _ (by omega)]; exact k2.1, by rw [w4 _ _ (by omega)]; exact k2.2⟩ (by omega) (by omega) (by omega) (by rw [w5 _ _ (by omega)]; exact h9) (fun i st' hi => by
          have := hm (i + 1) st' hi
          rw [show k + (i + 1) = k + 1 + i by omega] at this
          exact ⟨by rw [w5 _ _ (by omega)]; exact this.1, by rw [w5 _ _ (by omega)]; exact this.2.1, by rw [w5 _ _ (by omega)]; exact this.2.2.1, fun cc => by rw [w5 _ _ (by omega)]; exact this.2.2.2 cc⟩) (fun st' hst => hu st' (List.mem_cons_of_mem _ hst)) (by omega) w3
        refine ⟨a', b', y1, y2, ?_, fun c s h1 h2 => by rw [y4 c s h1 h2, w4 c s h1, f1 c s (by omega)], fun c j hc => by rw [y5 c j hc, w5 c j hc]⟩
        rw [← Nat.add_assoc]
        exact y3
theorem q_sum_n : ∀ (L : List pr_Stp) (y : Nat), (∀ st, st ∈ L → pOK st) → q_sum L (nI y) = nI (y + q_sn L) ∧ q_sn L ≤ 99 * L.length
  | [], y, _ => ⟨rfl, Nat.zero_le _⟩
  | st :: L, y, h => by
    rw [q_sum, q_sn, List.length_cons]
    by_cases c : st.1 = 110
    · obtain ⟨v, hv, hv9⟩ := (h st (List.mem_cons_self ..)).2.2.2.1 c
      rw [if_pos c, if_pos c, hv, nI_add, ri_cl (by omega)]
      have := q_sum_n L (y + v) (fun st' hs => h st' (List.mem_cons_of_mem _ hs))
      rw [this.1]
      exact ⟨by congr 1; omega, by omega⟩
    · rw [if_neg c, if_neg c]
      have := q_sum_n L y (fun st' hs => h st' (List.mem_cons_of_mem _ hs))
      rw [this.1]
      exact ⟨by congr 1; omega, by omega⟩
theorem q_max_n {n : Nat} (hn : 2 ≤ n) : ∀ (L : List pr_Stp) (m : Nat), m ≤ 4 → (∀ st, st ∈ L → pOK st) → ∃ m', m' ≤ 4 ∧ q_max L (nI m) = nI m' ∧ (m' < n ↔ m < n ∧ ∀ st, st ∈ L → st.2.1 < n)
  | [], m, hm, _ => ⟨m, hm, rfl, fun c => ⟨c, fun st hs => (by cases hs)⟩, fun c => c.1⟩
  | st :: L, m, hm, h => by
    have ok := h st (List.mem_cons_self ..)
    rw [q_max]
    have fin : ∀ m1, m1 ≤ 4 → (m1 < n ↔ m < n ∧ st.2.1 < n) → ∃ m', m' ≤ 4 ∧ q_max L (nI m1) = nI m' ∧ (m' < n ↔ m < n ∧ ∀ st', st' ∈ st :: L → st'.2.1 < n) := fun m1 h1 h2 => by
      obtain ⟨m', g1, g2, g3⟩ := q_max_n hn L m1 h1 (fun st' hs => h st' (List.mem_cons_of_mem _ hs))
      refine ⟨m', g1, g2, g3.trans ⟨fun w => ⟨(h2.mp w.1).1, fun st' hs => ?_⟩, fun w => ⟨h2.mpr ⟨w.1, w.2 st (List.mem_cons_self ..)⟩, fun st' hs => w.2 st' (List.mem_cons_of_mem _ hs)⟩⟩⟩
      cases hs with
      | head => exact (h2.mp w.1).2
      | tail _ q => exact w.2 st' q
    have o2 := ok.2.1
    by_cases c : st.1 = 100
    · rw [if_pos c]
      by_cases c2 : m < st.2.1
      · rw [if_pos (nI_lt c2 (by omega))]
        exact fin _ o2 ⟨fun w => ⟨by omega, w⟩, fun w => w.2⟩
      · rw [if_neg (nI_nlt (by omega) (by omega))]
        exact fin _ hm ⟨fun w => ⟨w, by omega⟩, fun w => w.1⟩
    · have o3 := ok.2.2.1 c
      rw [if_neg c]
      exact fin _ hm ⟨fun w => ⟨w, by omega⟩, fun w => w.1⟩
def q_is (n : Nat) : List pr_Stp → Int32 → Int32
  | [], x => x
  | st :: L, x => q_is n L (if x = 0 then 0 else if st.2.1 < n then 1 else 0)
theorem q_is_0 {n : Nat} : ∀ (L : List pr_Stp), q_is n L 0 = 0
  | [] => rfl
  | st :: L => by rw [q_is, if_pos rfl]; exact q_is_0 L
theorem q_is_1 {n : Nat} : ∀ (L : List pr_Stp), ((∀ st, st ∈ L → st.2.1 < n) → q_is n L 1 = 1) ∧ ((¬ ∀ st, st ∈ L → st.2.1 < n) → q_is n L 1 = 0)
  | [] => ⟨fun _ => rfl, fun c => absurd (fun st hs => (by cases hs)) c⟩
  | st :: L => by
    rw [q_is, if_neg (show ¬ (1 : Int32) = 0 by decide)]
    by_cases c : st.2.1 < n
    · rw [if_pos c]
      refine ⟨fun w => (q_is_1 L).1 fun st' hs => w st' (List.mem_cons_of_mem _ hs), fun w => (q_is_1 L).2 fun q => w fun st' hs => ?_⟩
      cases hs with
      | head => exact c
      | tail _ q2 => exact q st' q2
    · rw [if_neg c]
      exact ⟨fun w => absurd (w st (List.mem_cons_self ..)) c, fun _ => q_is_0 L⟩
theorem m_18 {n : Nat} (hn5 : n ≤ 5) (hn2 : 2 ≤ n) {b : pr_M} (h66 : b 1 1766 = nI n) : ∀ (L : List pr_Stp) (k N : Nat) (x1 x2 : Int32), (∀ i st, L[i]? = some st → mO (k + i) b st) → (∀ st, st ∈ L → pOK st) → b 0 9 = nI (k + L.length) → k + L.length ≤ 41 → L.length < N →
    L_X9_carryOut_18 0 N x1 x2 (nI k) b = some (q_sum L x1, q_is n L x2)
  | [], k, N, x1, x2, hm, ho, h9, hK, hN => by
    obtain ⟨N, rfl⟩ : ∃ j, N = j + 1 := ⟨N - 1, by omega⟩
    rw [List.length_nil, Nat.add_zero] at h9 hK
    rw [L_X9_carryOut_18, h9, if_pos (nI_le (Nat.le_refl _) (by omega))]
    rfl
  | st :: L, k, N, x1, x2, hm, ho, h9, hK, hN => by
    rw [List.length_cons] at h9 hK hN
    obtain ⟨N, rfl⟩ : ∃ j, N = j + 1 := ⟨N - 1, by omega⟩
    have ok := ho st (List.mem_cons_self ..)
    have o2 := ok.2.1
    obtain ⟨m1, m2, m3, m4⟩ := hm 0 st rfl
    have m1 : b 6 (4 * k) = nI st.1 := m1
    have m2 : b 6 (4 * k + 1) = nI st.2.1 := m2
    have m3 : b 6 (4 * k + 2) = st.2.2.1 := m3
    have i4 : (4 : Int32) * nI k = nI (4 * k) := by rw [show (4 : Int32) = nI 4 from rfl, pk_mul]
    have i1 : nI (4 * k) + 1 = nI (4 * k + 1) := nI_add _ 1
    rw [L_X9_carryOut_18, h9, if_neg (nI_ge (by omega) (by omega)), i4, i1, ix2]
    have gd : ∀ (j : Nat), j < 164 → ∀ X : Option Int32, pr_gd (¬(nI j < 0 ∨ 164 ≤ Int32.toNatClampNeg (nI j))) X = X := fun j hj X => pr_gd_i hj (by decide)
    have gd2 : ∀ (j : Nat), j < 164 → ∀ X : Option (Int32 × Int32), pr_gd (¬(nI j < 0 ∨ 164 ≤ Int32.toNatClampNeg (nI j))) X = X := fun j hj X => pr_gd_i hj (by decide)
    simp only [gd (4 * k + 1) (by omega), gd (4 * k + 2) (by omega), gd2 (4 * k) (by omega)]
    rw [ri_cl (n := 4 * k) (by omega), ri_cl (n := 4 * k + 1) (by omega), ri_cl (n := 4 * k + 2) (by omega), Nat.zero_add, m1, m2, m3]
    have hu : F_X9_isUnit 0 (nI st.2.1) b = some (if st.2.1 < n then 1 else 0) := by
      unfold F_X9_isUnit
      rw [rm_in, pr_b1_s, Nat.zero_add, ri_cl_1766, h66, ri_neg1 (by omega), if_neg (nI_pos (by omega))]
      unfold pr_gd
      by_cases c : st.2.1 < n
      · rw [if_neg (nI_nlt (by omega) (by omega)), if_pos c, if_pos (Or.inr rfl)]
      · rw [if_pos (nI_lt (by omega) (by omega)), if_neg c, if_pos (Or.inl rfl)]
    have v1 : (if x2 = 0 then some (0 : Int32) else pr_b1 (F_X9_isUnit 0 (nI st.2.1) b) fun r => if r = 0 then some 0 else some 1) = some (if x2 = 0 then 0 else if st.2.1 < n then 1 else 0) := by
      by_cases c : x2 = 0
      · rw [if_pos c, if_pos c]
      · rw [if_neg c, if_neg c, hu, pr_b1_s]
        by_cases c2 : st.2.1 < n
        · rw [if_pos c2, if_neg (show ¬ (1 : Int32) = 0 by decide)]
        · rw [if_neg c2, if_pos rfl]
    have v2 : (if nI st.1 = 110 then some st.2.2.1 else some (0 : Int32)) = some (if st.1 = 110 then st.2.2.1 else 0) := by
      rcases ok.1 with c | c | c | c <;> rw [c] <;> rfl
    rw [v1, pr_b1_s, v2, pr_b1_s, nI_1]
    have := m_18 hn5 hn2 h66 L (k + 1) N (x1 + (if st.1 = 110 then st.2.2.1 else 0)) (if x2 = 0 then 0 else if st.2.1 < n then 1 else 0) (fun i st' hi => by
      have := hm (i + 1) st' hi
      rw [show k + (i + 1) = k + 1 + i by omega] at this
      exact this) (fun st' hs => ho st' (List.mem_cons_of_mem _ hs)) (by rw [h9]; congr 1; omega) (by omega) (by omega)
    rw [this, q_sum, q_is]
    by_cases c : st.1 = 110
    · rw [if_pos c, if_pos c]
    · rw [if_neg c, if_neg c, Int32.add_zero]
theorem s_carryOut {a b : pr_M} (h : rr a b) : owe (F_X8_carryOut 0 a) (F_X9_carryOut 0 b) := by
  obtain ⟨len, e, x, ta, tb⟩ := tx_of h.2.2.2
  obtain ⟨a1, c1, c2, c3, c4, c5⟩ := c_all x ta
  obtain ⟨b1, d1, d2, d3⟩ := m_all x tb
  have h1 := rr_text h c2 d2
  obtain ⟨t, ht, n, hn⟩ := h1.1
  have hn2 := hn.1
  have hn5 := hn.2.1
  have tt := t_of hn
  have h80 := x.1
  unfold F_X8_carryOut F_X9_carryOut
  rw [Nat.zero_add, Nat.zero_add, c1, pr_bd_s, d1, pr_bd_s]
  rcases ho : (q_go e len 41 0).2.2 with _ | _
  · obtain ⟨y1, y2⟩ := c5 ho
    rw [y2, if_neg (show ¬ (1 : Int32) = 0 by decide), if_neg (show ¬ (if false = true then (-1000000006 : Int32) else nI (q_go e len 41 0).2.1) = -1000000006 from fun q => nI_pos (n := (q_go e len 41 0).2.1) (by omega) (by rw [show nI (q_go e len 41 0).2.1 = -1000000006 from q]; decide))]
    exact owe_same h1 _ rfl rfl
  · obtain ⟨⟨y1, y2⟩, y8, y9⟩ := c4 ho
    obtain ⟨z9, zl, zm⟩ := d3 ho
    have ok := q_go_ok x 41 0 (Nat.zero_le _) ho
    obtain ⟨S1, S2⟩ := q_sum_n (q_go e len 41 0).1 0 ok
    obtain ⟨mx, M1, M2, M3⟩ := q_max_n hn2 (q_go e len 41 0).1 0 (by omega) ok
    rw [show (0 : Int32) = nI 0 from rfl, S1, Nat.zero_add] at y8
    rw [show (0 : Int32) = nI 0 from rfl, M2] at y9
    have m18 := m_18 hn5 hn2 hn.2.2.2.1 (q_go e len 41 0).1 0 pr_fuel 0 1 (fun i st hi => by rw [Nat.zero_add]; exact zm i st hi) ok (by rw [Nat.zero_add]; exact z9) (by omega) (by show (q_go e len 41 0).1.length < 4000; omega)
    rw [show q_sum (q_go e len 41 0).1 0 = nI (q_sn (q_go e len 41 0).1) by rw [show (0 : Int32) = nI 0 from rfl, S1, Nat.zero_add]] at m18
    rw [y2, if_pos rfl, if_pos (show (if true = true then (-1000000006 : Int32) else nI (q_go e len 41 0).2.1) = -1000000006 from rfl), show L_X9_carryOut_18 0 pr_fuel 0 1 0 b1 = _ from m18, pr_b1_s, y8, y9, hn.2.2.1, tt.1, ri_cl_1765, tt.2]
    dsimp only
    by_cases cu : ∀ st, st ∈ (q_go e len 41 0).1 → st.2.1 < n
    · rw [if_pos (nI_lt (M3.mpr ⟨by omega, cu⟩) (by omega)), (q_is_1 _).1 cu, if_neg (show ¬ (1 : Int32) = 0 by decide), nI_add]
      by_cases ct : t + q_sn (q_go e len 41 0).1 ≤ 100000
      · rw [if_pos (show nI (t + q_sn (q_go e len 41 0).1) ≤ 100000 from nI_le (b := 100000) ct (by decide)), if_pos (show nI (t + q_sn (q_go e len 41 0).1) ≤ 100000 from nI_le (b := 100000) ct (by decide))]
        unfold F_X2_beginReading
        rw [pr_lt_s, pr_lt_s, pr_bd_s]
        generalize ha2 : pr_up (pr_up a1 199 2 0) 199 3 0 = a2
        have F2 : ∀ c s, (c ≠ 199 ∨ (s ≠ 2 ∧ s ≠ 3)) → a2 c s = a1 c s := fun c s hc => by rw [← ha2]; simp (disch := omega) only [rd_n]
        have T2 : tc len e a2 := ⟨by rw [F2 _ _ (by omega), c2 _ _ (by omega)]; exact ta.1, fun i hi => by rw [F2 _ _ (by omega), c2 _ _ (by omega)]; exact ta.2 i hi⟩
        obtain ⟨a', b', e1, e2, r, A, B⟩ := ex_go x (K := (q_go e len 41 0).1.length) zl (nI (q_sn (q_go e len 41 0).1)) (nI (q_sn (q_go e len 41 0).1)) 41 0 pr_fuel pr_fuel 0 t a2 b1 ho (Nat.zero_le _) T2 ⟨by rw [← ha2]; simp (disch := omega) only [rd_n, rd_e]; rfl, by rw [← ha2]; simp (disch := omega) only [rd_n, rd_e]⟩ (Nat.zero_add _) (by show (q_go e len 41 0).1.length < 4000; omega) (by show (q_go e len 41 0).1.length < 4000; omega) z9 (fun i st hi => by rw [Nat.zero_add]; exact zm i st hi) cu ct (rpn_same hn (fun c s _ g => F2 _ _ (by omega)) (fun _ _ => rfl))
        rw [show L_X8_carryOut_74 0 (nI (q_sn (q_go e len 41 0).1)) pr_fuel 0 a2 = some ((), a') from e1, show L_X9_carryOut_116 0 (nI (q_sn (q_go e len 41 0).1)) pr_fuel 0 b1 = some ((), b') from e2, pr_bd_s, pr_bd_s, pr_lt_s, pr_lt_s]
        obtain ⟨-, h2, h3, h4⟩ := h1
        have A' : ∀ c s, 50 ≤ c → c < 199 → pr_up a' 199 1 0 c s = a1 c s := fun c s g1 g2 => by rw [rd_n (by omega), A c s g1 (by omega), F2 c s (by omega)]
        have B' : ∀ c j, c ≠ 1 → (c ≠ 0 ∨ j ≠ 5) → pr_up b' 0 5 0 c j = b1 c j := fun c j g1 g2 => by rw [rd_n (by omega), B c j g1]
        refine ⟨_, _, _, rfl, rfl, ⟨⟨_, ct, n, rpn_same r (fun c s _ g => rd_n (by omega)) (fun k _ => rd_n (by omega))⟩, sl_same (by decide) h2 (fun s => A' _ _ (by omega) (by omega)) (fun c s g1 g2 => A' _ _ (by omega) (by omega)) (fun j _ => B' _ _ (by omega) (by omega)) (B' _ _ (by omega) (by omega)), sl_same (by decide) h3 (fun s => A' _ _ (by omega) (by omega)) (fun c s g1 g2 => A' _ _ (by omega) (by omega)) (fun j _ => B' _ _ (by omega) (by omega)) (B' _ _ (by omega) (by omega)), 0, Nat.zero_le _, rd_e ⟨rfl, rfl⟩, rd_e ⟨rfl, rfl⟩, fun i hi => absurd hi (Nat.not_lt_zero i)⟩⟩
      · rw [if_neg (show ¬ nI (t + q_sn (q_go e len 41 0).1) ≤ 100000 from nI_ge (a := 100000) (by omega) (by omega)), if_neg (show ¬ nI (t + q_sn (q_go e len 41 0).1) ≤ 100000 from nI_ge (a := 100000) (by omega) (by omega))]
        exact owe_same h1 _ rfl rfl
    · rw [if_neg (nI_nlt (Nat.le_of_not_lt fun w => cu (M3.mp w).2) (by omega)), (q_is_1 _).2 cu, if_pos rfl]
      exact owe_same h1 _ rfl rfl
