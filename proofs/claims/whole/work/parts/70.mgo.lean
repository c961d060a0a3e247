/-! ===== the model reads the whole text; fault ===== -/
theorem q_at_b {len p s' : Nat} {o : Option pr_Stp} {e : Nat → Nat} (h : tx len e) (hp : p ≤ len) (hq : q_at e p = (s', o)) : s' ≤ len ∧ ∀ st, o = some st → p + 2 ≤ s' := by
  obtain ⟨a', -, -, k1, k2, -⟩ := c_rd (a := fun c j => if c = 199 then (if j = 1 then nI len else if j = 2 then nI p else 0) else nI (e j)) h ⟨rfl, fun i _ => rfl⟩ hp ⟨rfl, rfl⟩ hq
  exact ⟨k1, fun st hst => (k2 st hst).2.2⟩
def mw (k : Nat) (b b' : pr_M) : Prop := ∀ c j, (c ≠ 0 ∧ c ≠ 6 ∨ c = 0 ∧ j ≠ 6 ∧ j ≠ 7 ∧ j ≠ 9 ∨ c = 6 ∧ j < 4 * k) → b' c j = b c j
theorem mO_w {k k' : Nat} {b b' : pr_M} {st : pr_Stp} (h : mO k b st) (hk : k < k') (w : mw k' b b') : mO k b' st := by
  obtain ⟨h1, h2, h3, h4⟩ := h
  exact ⟨by rw [w _ _ (by omega)]; exact h1, by rw [w _ _ (by omega)]; exact h2, by rw [w _ _ (by omega)]; exact h3, fun c => by rw [w _ _ (by omega)]; exact h4 c⟩
theorem m_stop {len p N : Nat} {e : Nat → Nat} {b : pr_M} (h : tx len e) (hb : tm len e b) (hp : p ≤ 90) (h6 : b 0 6 = nI p) (hN : 0 < N) (hs : ¬ b 0 7 = 0 ∨ e p ≠ 44) : L_X9_fault_19 0 N b = some ((), b) := by
  obtain ⟨N, rfl⟩ : ∃ j, N = j + 1 := ⟨N - 1, by omega⟩
  have h126 := tx_lt h p
  rw [L_X9_fault_19]
  by_cases c : b 0 7 = 0
  · rw [if_pos c, m_next h hb (by omega) h6, pr_b1_s, if_neg (show ¬ nI (e p) = 44 from fun q => (hs.resolve_left (fun w => w c)) ((nI_eq (b := 44) (by omega) (by decide)).mp q))]
  · rw [if_neg c]
theorem m_go {len : Nat} {e : Nat → Nat} (h : tx len e) : ∀ (n p N k : Nat) (b : pr_M), 82 ≤ p + 2 * n → 0 < p → p < len → 2 * k ≤ p → n < N → tm len e b → mg b p → b 0 9 = nI k →
    ∃ b', L_X9_fault_19 0 N b = some ((), b') ∧ mw k b b' ∧ ((q_go e len n p).2.2 = true → mg b' (q_go e len n p).2.1 ∧ len ≤ (q_go e len n p).2.1 ∧ b' 0 9 = nI (k + (q_go e len n p).1.length) ∧ k + (q_go e len n p).1.length ≤ 41 ∧ ∀ i st, (q_go e len n p).1[i]? = some st → mO (k + i) b' st) ∧ ((q_go e len n p).2.2 = false → b' 0 6 = nI (q_go e len n p).2.1 ∧ (¬ b' 0 7 = 0 ∨ (q_go e len n p).2.1 < len))
  | 0, p, N, k, b, h1, h0, h2, h3, hN, hb, g, h9 => by have := h.1; omega
  | n + 1, p, N, k, b, h1, h0, h2, h3, hN, hb, g, h9 => by
    have h80 := h.1
    have h126 := tx_lt h p
    by_cases c4 : e p = 44
    · obtain ⟨N, rfl⟩ : ∃ j, N = j + 1 := ⟨N - 1, by omega⟩
      rw [L_X9_fault_19, if_pos g.2, m_next h hb (by omega) g.1, pr_b1_s, if_pos (show nI (e p) = 44 by rw [c4]; rfl), pr_lt_s, g.1, nI_1, q_go]
      have F0 : mw k b (pr_up b 0 6 (nI (p + 1))) := fun c j hc => rd_n (by omega)
      rcases qa : q_at e p with ⟨s', o⟩
      have B := q_at_b h (by omega) qa
      have qs : q_step e (p + 1) = (s', o) := by
        unfold q_at at qa
        rw [if_neg (by omega), if_pos c4] at qa
        exact qa
      obtain ⟨b1, e1, f1, k1, k2⟩ := m_step (k := k) (b := pr_up b 0 6 (nI (p + 1))) h ⟨by rw [F0 _ _ (by omega)]; exact hb.1, fun i hi => by rw [F0 _ _ (by omega)]; exact hb.2 i hi⟩ (by omega) (show p + 1 ≤ len by omega) ⟨rd_e ⟨rfl, rfl⟩, by rw [rd_n (by omega)]; exact g.2⟩ (by rw [rd_n (by omega)]; exact h9) qs
      have T1 : tm len e b1 := ⟨by rw [f1 _ _ (by omega), F0 _ _ (by omega)]; exact hb.1, fun i hi => by rw [f1 _ _ (by omega), F0 _ _ (by omega)]; exact hb.2 i hi⟩
      have F1 : mw k b b1 := fun c j hc => by rw [f1 _ _ (by omega), F0 _ _ (by omega)]
      rw [e1, pr_bd_s]
      cases o with
      | none =>
        have k2 := k2 rfl
        dsimp only
        rw [m_stop h T1 (show s' ≤ 90 by omega) k2.1 (by omega) (by
          rcases k2.2 with w | ⟨w, w1, w2⟩
          · left; rw [w]; decide
          · right; omega)]
        refine ⟨b1, rfl, F1, fun c => (by cases c), fun _ => ⟨k2.1, ?_⟩⟩
        rcases k2.2 with w | ⟨w, w1, w2⟩
        · left; rw [w]; decide
        · exact Or.inr (tx_in h (by omega))
      | some st =>
        obtain ⟨g1, o1, n1⟩ := k1 st rfl
        have B2 := B.2 st rfl
        dsimp only
        by_cases c : len ≤ s'
        · rw [if_pos c, m_stop h T1 (show s' ≤ 90 by omega) g1.1 (by omega) (Or.inr (by rw [h.2.2 s' c]; decide))]
          refine ⟨b1, rfl, F1, fun _ => ⟨g1, c, n1, show k + 1 ≤ 41 by omega, fun i st' hi => ?_⟩, fun c => (by cases c)⟩
          cases i with
          | zero => cases hi; exact o1
          | succ i => cases hi
        · rw [if_neg c]
          obtain ⟨b', w1, w2, w3, w4⟩ := m_go h n s' N (k + 1) b1 (by omega) (by omega) (by omega) (by omega) (by omega) T1 g1 n1
          refine ⟨b', w1, fun c j hc => by rw [w2 c j (by omega), F1 c j hc], fun c => ?_, w4⟩
          obtain ⟨y1, y2, y3, y4, y5⟩ := w3 c
          refine ⟨y1, y2, ?_, ?_, fun i st' hi => ?_⟩
          · rw [y3, List.length_cons]; congr 1; omega
          · rw [List.length_cons]; omega
          · cases i with
            | zero => cases hi; exact mO_w o1 (by omega) w2
            | succ i => rw [show k + (i + 1) = k + 1 + i by omega]; exact y5 i st' hi
    · have qa : q_at e p = (p, none) := by
        unfold q_at
        rw [if_neg (by omega), if_neg c4]
      rw [m_stop h hb (by omega) g.1 (by omega) (Or.inr c4), q_go, qa]
      exact ⟨b, rfl, fun _ _ _ => rfl, fun c => (by cases c), fun _ => ⟨g.1, Or.inr h2⟩⟩
theorem m_all {len : Nat} {e : Nat → Nat} {b : pr_M} (h : tx len e) (hb : tm len e b) :
    ∃ b', F_X9_fault 0 b = some (if (q_go e len 41 0).2.2 then -1000000006 else nI (q_go e len 41 0).2.1, b') ∧ mw 0 b b' ∧ ((q_go e len 41 0).2.2 = true → b' 0 9 = nI (q_go e len 41 0).1.length ∧ (q_go e len 41 0).1.length ≤ 41 ∧ ∀ i st, (q_go e len 41 0).1[i]? = some st → mO i b' st) := by
  have h80 := h.1
  unfold F_X9_fault
  rw [pr_lt_s, pr_lt_s, pr_lt_s]
  generalize hb0 : pr_up (pr_up (pr_up b 0 6 0) 0 7 0) 0 9 0 = b0
  have F0 : mw 0 b b0 := fun c j hc => by rw [← hb0]; simp (disch := omega) only [rd_n]
  have T0 : tm len e b0 := ⟨by rw [F0 _ _ (by omega)]; exact hb.1, fun i hi => by rw [F0 _ _ (by omega)]; exact hb.2 i hi⟩
  have G0 : mg b0 0 := ⟨by rw [← hb0]; simp (disch := omega) only [rd_n, rd_e]; rfl, by rw [← hb0]; simp (disch := omega) only [rd_n, rd_e]⟩
  have N0 : b0 0 9 = nI 0 := by rw [← hb0, rd_e ⟨rfl, rfl⟩]; rfl
  rcases qa : q_at e 0 with ⟨s', o⟩
  have B := q_at_b h (Nat.zero_le _) qa
  have qs : q_step e 0 = (s', o) := by
    unfold q_at at qa
    rw [if_pos rfl] at qa
    exact qa
  obtain ⟨b1, e1, f1, k1, k2⟩ := m_step (k := 0) h T0 (by omega) (Nat.zero_le _) G0 N0 qs
  have T1 : tm len e b1 := ⟨by rw [f1 _ _ (by omega)]; exact T0.1, fun i hi => by rw [f1 _ _ (by omega)]; exact T0.2 i hi⟩
  have F1 : mw 0 b b1 := fun c j hc => by rw [f1 _ _ (by omega), F0 _ _ (by omega)]
  rw [e1, pr_bd_s]
  have fin : ∀ (b' : pr_M) (z : Nat), z ≤ len → tm len e b' → b' 0 6 = nI z → (¬ b' 0 7 = 0 ∨ z < len) → (if b' 0 7 = 0 then (if b' 0 5 ≤ b' 0 6 then some ((-1000000006 : Int32), b') else some (b' 0 6, b')) else some (b' 0 6, b')) = some (nI z, b') := fun b' z hz t w1 w2 => by
    by_cases c : b' 0 7 = 0
    · rw [if_pos c, t.1, w1, if_neg (nI_ge (w2.resolve_left (fun q => q c)) (by omega))]
    · rw [if_neg c, w1]
  cases o with
  | none =>
    have k2 := k2 rfl
    have hq : q_go e len 41 0 = ([], s', false) := by rw [show q_go e len 41 0 = _ from q_go.eq_2 e len 0 40, qa]
    rw [hq]
    dsimp only
    rw [m_stop h T1 (show s' ≤ 90 by omega) k2.1 (by decide) (by
      rcases k2.2 with w | ⟨w, w1, w2⟩
      · left; rw [w]; decide
      · right; omega), pr_bd_s, fin b1 s' B.1 T1 k2.1 (by
      rcases k2.2 with w | ⟨w, w1, w2⟩
      · left; rw [w]; decide
      · exact Or.inr (tx_in h (by omega)))]
    exact ⟨b1, rfl, F1, fun c => (by cases c)⟩
  | some st =>
    obtain ⟨g1, o1, n1⟩ := k1 st rfl
    have B2 := B.2 st rfl
    have good : ∀ (b' : pr_M) (z : Nat), len ≤ z → z ≤ 90 → tm len e b' → mg b' z → (if b' 0 7 = 0 then (if b' 0 5 ≤ b' 0 6 then some ((-1000000006 : Int32), b') else some (b' 0 6, b')) else some (b' 0 6, b')) = some (-1000000006, b') := fun b' z hz hz2 t w => by
      rw [if_pos w.2, t.1, w.1, if_pos (nI_le hz (by omega))]
    by_cases c : len ≤ s'
    · have hq : q_go e len 41 0 = ([st], s', true) := by
        rw [show q_go e len 41 0 = _ from q_go.eq_2 e len 0 40, qa]
        exact if_pos c
      rw [hq, m_stop h T1 (show s' ≤ 90 by omega) g1.1 (by decide) (Or.inr (by rw [h.2.2 s' c]; decide)), pr_bd_s, good b1 s' c (by omega) T1 g1]
      refine ⟨b1, rfl, F1, fun _ => ⟨n1, show 1 ≤ 41 by omega, fun i st' hi => ?_⟩⟩
      cases i with
      | zero => cases hi; exact o1
      | succ i => cases hi
    · have hq : q_go e len 41 0 = (st :: (q_go e len 40 s').1, (q_go e len 40 s').2.1, (q_go e len 40 s').2.2) := by
        rw [show q_go e len 41 0 = _ from q_go.eq_2 e len 0 40, qa]
        exact if_neg c
      rw [hq]
      obtain ⟨b', w1, w2, w3, w4⟩ := m_go h 40 s' pr_fuel 1 b1 (by omega) (by omega) (by omega) (by omega) (by decide) T1 g1 n1
      have T' : tm len e b' := ⟨by rw [w2 _ _ (by omega)]; exact T1.1, fun i hi => by rw [w2 _ _ (by omega)]; exact T1.2 i hi⟩
      obtain ⟨a0, -, -, zl, -, -⟩ := c_go (a := fun c j => if c = 199 then (if j = 1 then nI len else if j = 2 then nI s' else 0) else nI (e j)) h 40 s' pr_fuel 0 (by omega) B.1 (by omega) (by decide) ⟨rfl, fun i _ => rfl⟩ ⟨rfl, rfl⟩
      rw [w1, pr_bd_s]
      rcases ho : (q_go e len 40 s').2.2 with _ | _
      · obtain ⟨y1, y2⟩ := w4 ho
        rw [fin b' _ zl T' y1 y2]
        exact ⟨b', rfl, fun c j hc => by rw [w2 c j (by omega), F1 c j hc], fun c => (by cases c)⟩
      · obtain ⟨y1, y2, y3, y4, y5⟩ := w3 ho
        rw [good b' _ y2 (by omega) T' y1]
        refine ⟨b', rfl, fun c j hc => by rw [w2 c j (by omega), F1 c j hc], fun _ => ⟨?_, ?_, fun i st' hi => ?_⟩⟩
        · rw [y3, List.length_cons]; congr 1; omega
        · rw [List.length_cons]; omega
        · cases i with
          | zero => cases hi; exact mO_w o1 (by omega) w2
          | succ i => rw [show i + 1 = 1 + i by omega]; exact y5 i st' hi
/-- the pad's text -/
theorem tx_of {a b : pr_M} (h : pd a b) : ∃ len e, tx len e ∧ tc len e a ∧ tm len e b := by
  obtain ⟨len, h1, h2, h3, h4⟩ := h
  refine ⟨len, fun i => if i < len then (b 5 i).toNatClampNeg else 0, ⟨h1, fun i hi => ?_, fun i hi => if_neg (by omega)⟩, ⟨h2, fun i hi => ?_⟩, ⟨h3, fun i hi => ?_⟩⟩
  · obtain ⟨-, c, c1, c2, c3⟩ := h4 i hi
    dsimp only
    rw [if_pos hi, c3, ri_cl (by omega)]
    exact ⟨c1, c2⟩
  · obtain ⟨g, c, c1, c2, c3⟩ := h4 i hi
    dsimp only
    rw [if_pos hi, g, c3, ri_cl (by omega)]
  · obtain ⟨g, c, c1, c2, c3⟩ := h4 i hi
    dsimp only
    rw [if_pos hi, c3, ri_cl (by omega)]
/-- reading the text leaves one state -/
theorem rr_text {a a' b b' : pr_M} (h : rr a b) (hA : cw a a') (hB : mw 0 b b') : rr a' b' := by
  obtain ⟨⟨t, ht, n, hn⟩, h1, h2, h3⟩ := h
  exact ⟨⟨t, ht, n, rpn_same hn (fun c s _ g => hA _ _ (by omega)) (fun k _ => hB _ _ (by omega))⟩, sl_same (by decide) h1 (fun s => hA _ _ (by omega)) (fun c s g _ => hA _ _ (by omega)) (fun j _ => hB _ _ (by omega)) (hB _ _ (by omega)), sl_same (by decide) h2 (fun s => hA _ _ (by omega)) (fun c s g _ => hA _ _ (by omega)) (fun j _ => hB _ _ (by omega)) (hB _ _ (by omega)), by
    obtain ⟨len, g1, g2, g3, g4⟩ := h3
    exact ⟨len, g1, by rw [hA _ _ (by omega)]; exact g2, by rw [hB _ _ (by omega)]; exact g3, fun i hi => by rw [hA _ _ (by omega), hB _ _ (by omega)]; exact g4 i hi⟩⟩
theorem s_fault {a b : pr_M} (h : rr a b) : owe (F_X8_fault 0 a) (F_X9_fault 0 b) := by
  obtain ⟨len, e, x, ta, tb⟩ := tx_of h.2.2.2
  obtain ⟨a', c1, c2, c3, c4, c5⟩ := c_all x ta
  obtain ⟨b', d1, d2, d3⟩ := m_all x tb
  unfold F_X8_fault
  rw [Nat.zero_add, c1, pr_bd_s, d1]
  rcases ho : (q_go e len 41 0).2.2 with _ | _
  · obtain ⟨y1, y2⟩ := c5 ho
    rw [y2, if_neg (show ¬ (1 : Int32) = 0 by decide), y1]
    exact ⟨_, _, _, rfl, rfl, rr_text h c2 d2⟩
  · obtain ⟨⟨y1, y2⟩, y3⟩ := c4 ho
    rw [y2, if_pos rfl]
    exact ⟨_, _, _, rfl, rfl, rr_text h c2 d2⟩
theorem s_wipe {a b : pr_M} (h : rr a b) : owe (F_X8_wipe 0 a) (F_X9_wipe 0 b) := by
  obtain ⟨⟨t, ht, n, hn⟩, h1, h2, len, g1, g2, g3, g4⟩ := h
  unfold F_X8_wipe F_X9_wipe
  rw [pr_lt_s, pr_lt_s, Nat.zero_add, g2, g3]
  refine ⟨_, _, _, rfl, rfl, ⟨⟨t, ht, n, rpn_same hn (fun c s _ g => rd_n (by omega)) (fun k _ => rd_n (by omega))⟩, sl_same (by decide) h1 (fun s => rd_n (by omega)) (fun c s g _ => rd_n (by omega)) (fun j _ => rd_n (by omega)) (rd_n (by omega)), sl_same (by decide) h2 (fun s => rd_n (by omega)) (fun c s g _ => rd_n (by omega)) (fun j _ => rd_n (by omega)) (rd_n (by omega)), 0, Nat.zero_le _, rd_e ⟨rfl, rfl⟩, rd_e ⟨rfl, rfl⟩, fun i hi => absurd hi (Nat.not_lt_zero i)⟩⟩
