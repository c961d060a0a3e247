/-! ===== the law from its entry to its loop ===== -/
theorem va_Dm {A : Nat → Prop} {ws ws' : va_W} (h : ws.map (fun q => q.1) = ws'.map (fun q => q.1)) (hD : va_D A ws) : va_D A ws' := by
  have get : ∀ (i : Nat) (p : Nat × va_E), ws'[i]? = some p → ∃ p' : Nat × va_E, ws[i]? = some p' ∧ p'.1 = p.1 := fun i p hp => by
    have e : (ws'.map (fun q => q.1))[i]? = some p.1 := by rw [List.getElem?_map, hp]; rfl
    rw [← h, List.getElem?_map] at e
    cases hq : ws[i]? with
    | none => rw [hq] at e; cases e
    | some q => rw [hq] at e; exact ⟨q, rfl, Option.some.inj e⟩
  refine ⟨fun i j p q hi hj hpq => ?_, fun k q hk => ?_⟩
  · obtain ⟨p', g1, g2⟩ := get i p hi
    obtain ⟨q', z1, z2⟩ := get j q hj
    exact hD.1 i j p' q' g1 z1 (by rw [g2, z2]; exact hpq)
  · obtain ⟨q', g1, g2⟩ := get k q hk
    rw [← g2]
    exact hD.2 k q' g1
theorem va_Dsw {A : Nat → Prop} {X R : va_W} (hD : va_D A (X ++ R)) : va_D A (R ++ X) := by
  have get : ∀ (i : Nat) (p : Nat × va_E), (R ++ X)[i]? = some p → (X ++ R)[if i < R.length then X.length + i else i - R.length]? = some p ∧ i < R.length + X.length := fun i p hp => by
    by_cases hl : i < R.length
    · rw [List.getElem?_append_left hl] at hp
      rw [if_pos hl, List.getElem?_append_right (by omega), Nat.add_sub_cancel_left]
      exact ⟨hp, by omega⟩
    · rw [List.getElem?_append_right (by omega)] at hp
      have hx : i - R.length < X.length := (List.getElem?_eq_some_iff.mp hp).1
      rw [if_neg hl, List.getElem?_append_left hx]
      exact ⟨hp, by omega⟩
  refine ⟨fun i j p q hi hj hpq => ?_, fun k q hk => hD.2 _ q (get k q hk).1⟩
  obtain ⟨g1, g2⟩ := get i p hi
  obtain ⟨z1, z2⟩ := get j q hj
  have := hD.1 _ _ p q g1 z1 hpq
  by_cases ci : i < R.length
  · rw [if_pos ci] at this
    by_cases cj : j < R.length
    · rw [if_pos cj] at this; omega
    · rw [if_neg cj] at this; omega
  · rw [if_neg ci] at this
    by_cases cj : j < R.length
    · rw [if_pos cj] at this; omega
    · rw [if_neg cj] at this; omega
theorem me_fst {T : pr_T} {L : List (Nat × Nat)} {ad : Nat → Nat} {f : pr_M} : (pr_me T L ad f).map (fun q => q.1) = (List.range L.length).map ad := by
  unfold pr_me
  rw [List.map_map]
  rfl
theorem me_D {A : Nat → Prop} {T : pr_T} {L1 L2 : List (Nat × Nat)} {a1 a2 : Nat → Nat} {f1 f2 : pr_M} (hD : va_D A (pr_me T L1 a1 f1 ++ pr_me T L2 a2 f2)) (g1 g2 : pr_M) : va_D A (pr_me T L1 a1 g1 ++ pr_me T L2 a2 g2) := va_Dm (by rw [List.map_append, List.map_append, me_fst, me_fst, me_fst, me_fst]) hD
theorem l_start {l : Launch} {D : va_G} {T : pr_T} {B : Nat} {Y : pr_Y} {c0 : Cond} {b L : Nat} {xs : Nat → Int32} (C : pr_C (pr_EG l D T B) Y room_1 cL_law RL 4 c0) (hO : va_AO "PrintRegister$Unit" (pr_ys Y)) (hX : va_X b L xs (pr_ys Y) (pr_ys Y).heap) (hb : b < (pr_ys Y).heap.size) (hA : ¬ B ≤ b) (hL : L ≤ 3072)
    (Kend : ∀ (H : Heap) (locs : List Loc) (ls : Array Slot), va_S (fun q => B ≤ q) (pr_ys Y).heap H locs → W (pr_yp Y) l (pr_ye Y) room_1 (pr_ys Y) (pr_ym Y) (pr_ya Y) (pr_yb Y) (pr_yh Y) (pr_yc Y) H locs 208 15855 (pr_yQ Y) (F0 (pr_ym Y) 969 ls [])) : pr_G (pr_EG l D T B) Y room_1 4 [] 0 0 0 [(0, .ref b)] [] := by
  refine g_new C (rfl : pr_CL[8]? = some (RX8, TX8, 5)) pr_uw8 tyX8_ok (by decide +kernel) pr_w687 pr_w688 pr_w18 (Nat.le_of_ble_eq_true rfl) (Nat.le_of_ble_eq_true rfl) dL_law_0 fun o1 => ?_
  refine g_dup C dL_law_3 rfl ?_
  refine h_call C hO (i_X8 [] o1) pr_w692 pr_w693 pr_w18 pr_w360 rfl rfl rfl ⟨by decide +kernel, by decide +kernel, by decide +kernel⟩ ⟨Nat.le_of_ble_eq_true rfl, Nat.le_of_ble_eq_true rfl⟩ (Nat.le_of_ble_eq_true rfl) (Nat.le_of_ble_eq_true rfl) (Nat.le_of_ble_eq_true rfl) dL_law_4 fun aC g1 h1 e1 hD1 => ?_
  refine g_astore_n C dL_law_7 rfl (by decide) rfl ?_
  refine g_new C (rfl : pr_CL[9]? = some (RX9, TX9, 10)) pr_uw9 tyX9_ok (by decide +kernel) pr_w689 pr_w690 pr_w479 (Nat.le_of_ble_eq_true rfl) (Nat.le_of_ble_eq_true rfl) dL_law_8 fun o2 => ?_
  refine g_dup C dL_law_11 rfl ?_
  refine h_call C hO (i_X9 _ o2) pr_w694 pr_w695 pr_w479 pr_w496 rfl rfl rfl ⟨by decide +kernel, by decide +kernel, by decide +kernel⟩ ⟨Nat.le_of_ble_eq_true rfl, Nat.le_of_ble_eq_true rfl⟩ (Nat.le_of_ble_eq_true rfl) (Nat.le_of_ble_eq_true rfl) (Nat.le_of_ble_eq_true rfl) dL_law_12 fun aM g2 h2 e2 hD2 => ?_
  refine g_astore_n C dL_law_15 rfl (by decide) rfl ?_
  refine g_iconst C (v := 0) dL_law_16 rfl ?_
  refine g_istore_n C dL_law_17 rfl (by decide) rfl ?_
  rw [List.append_nil]
  have hDm : va_D (fun q => B ≤ q) (pr_me T pr_LM aM g2 ++ pr_me T pr_LC aC g1) := by
    have := hD2 g2
    rw [List.append_nil] at this
    exact this
  have hC : ∀ fb, pr_C (pr_EC l (l_0 D T B aC aM fb)) (pr_Yk Y 208 15855) room_1 cL_law RL 4 c0 := fun fb => pr_Ck C (fun f => me_D (va_Dsw hDm) f fb) (Nat.le_of_ble_eq_true rfl) (Nat.le_of_ble_eq_true rfl)
  have hM : ∀ fa, pr_C (pr_EM l (l_1 D T B aC aM fa)) (pr_Yk Y 208 15855) room_1 cL_law RL 4 c0 := fun fa => by
    dsimp only [pr_EM, l_1]
    exact pr_Ck C (fun f => me_D hDm f fa) (Nat.le_of_ble_eq_true rfl) (Nat.le_of_ble_eq_true rfl)
  have main := l_loop (aC := aC) (aM := aM) hC hM hX hb hA hL (fun fa fb i H locs ls hP hS hl => Kend H locs ls hS) L 0 g1 g2 (by omega) (by omega) (rr_first e1 e2)
  rw [h1, h2] at main
  intro H locs ls hP hD hS hl
  exact main H locs ls (va_sw hP) hS hl
