/-! ===== the law from its entry to its repeats ===== -/
def az (ad : Nat → Nat) (Z : List (Nat × Nat)) : Nat → Nat := fun c => if c < 201 then ad c else (Z.getD (c - 201) (0, 0)).1
def aa (T : pr_T) (z : Nat × Nat) : Nat × va_E := (z.1, .inl (T.1, z.2, .inl (fun _ => 0)))
theorem lc_len : pr_LC.length = 201 := by decide +kernel
theorem lc_cl : pr_cl pr_LC := by unfold pr_cl; decide +kernel
theorem lc_12 : ∀ c, c < pr_LC.length → 12 ≤ (pr_LC.getD c (0, 0)).1 → (pr_LC.getD c (0, 0)).2 = 5 := by decide +kernel
theorem lX_len : ∀ Z : List (Nat × Nat), (pr_LX (Z.map (fun z => z.2))).length = 201 + Z.length := fun Z => by
  rw [List.length_append, List.length_map, List.length_map, lc_len]
theorem fs_z {ad ad' : Nat → Nat} {f f' : pr_M} {c : Nat} : ∀ (ds : List Nat) (j : Nat), (∀ d, d ∈ ds → d ≠ 0 → ad (c + d) = ad' (c + d)) → f c = f' c → pr_fs ad f c j ds = pr_fs ad' f' c j ds
  | [], _, _, _ => rfl
  | d :: ds, j, h, hf => by
    rw [pr_fs, pr_fs, fs_z ds (j + 1) (fun x hx => h x (List.mem_cons_of_mem _ hx)) hf]
    congr 1
    unfold pr_fv
    by_cases e : d = 0
    · rw [if_pos e, if_pos e, hf]
    · rw [if_neg e, if_neg e, h d (List.mem_cons_self ..) e]
theorem ce_z {D : va_G} {T : pr_T} {ad ad' : Nat → Nat} {f f' : pr_M} {k : Nat × Nat} {c a : Nat} {H : Heap} (h1 : ∀ d, d ∈ pr_sh k.1 → d ≠ 0 → ad (c + d) = ad' (c + d)) (h2 : 12 ≤ k.1 → ∀ i, i < 5 → ad (c + 3 + 9 * i) = ad' (c + 3 + 9 * i)) (h3 : 12 ≤ k.1 → k.2 = 5) (hf : f c = f' c) (h : va_at D pr_CL (a, pr_ce T ad f k c) H) : va_at D pr_CL (a, pr_ce T ad' f' k c) H := by
  unfold pr_ce at h ⊢
  by_cases e1 : k.1 < 10
  · rw [if_pos e1] at h ⊢; rw [← fs_z _ _ h1 hf]; exact h
  · rw [if_neg e1] at h ⊢
    by_cases e2 : k.1 = 10
    · rw [if_pos e2] at h ⊢; rw [← hf]; exact h
    · rw [if_neg e2] at h ⊢
      by_cases e3 : k.1 = 11
      · rw [if_pos e3] at h ⊢; rw [← hf]; exact h
      · rw [if_neg e3] at h ⊢
        rw [h3 (by omega)] at h ⊢
        have e := vc_q (cA := T.2.2) (g1 := fun i => some (ad (c + 3 + 9 * i))) (g2 := fun i => some (ad' (c + 3 + 9 * i))) (fun j hj => by rw [h2 (by omega) j hj])
        show H[a]? = some (vp_cell T.2.2 (5, .inr (.inr (.inr (.inr (fun i => some (ad' (c + 3 + 9 * i))))))))
        rw [← e]
        exact h
theorem lx_at {Z : List (Nat × Nat)} {k : Nat} (hk : k < Z.length) : (pr_LX (Z.map (fun z => z.2)))[201 + k]? = some (10, (Z.getD k (0, 0)).2) := by
  rw [List.getElem?_append_right (by rw [lc_len]; omega), lc_len, Nat.add_sub_cancel_left, List.getElem?_map, List.getElem?_map, gd_at hk]
  rfl
theorem P_z {D : va_G} {T : pr_T} {ad : Nat → Nat} {f : pr_M} {Z : List (Nat × Nat)} {H : Heap} (hP : va_P D pr_CL (pr_me T pr_LC ad f ++ Z.map (aa T)) H) : va_P D pr_CL (pr_me T (pr_LX (Z.map (fun z => z.2))) (az ad Z) (fz f) ++ []) H := by
  intro k q hk
  rw [List.append_nil] at hk
  have hl : k < 201 + Z.length := by
    have := (List.getElem?_eq_some_iff.mp hk).1
    rw [me_len, lX_len] at this
    exact this
  by_cases h2 : k < 201
  · have hkl : k < pr_LC.length := by rw [lc_len]; exact h2
    have e0 := gd_at hkl
    have e := pr_me_at (T := T) (ad := az ad Z) (f := fz f) (R := []) (px_lx (X := Z.map (fun z => z.2)) e0)
    rw [List.append_nil, hk] at e
    cases e
    have h0 := hP k _ (pr_me_at e0)
    have ea : az ad Z k = ad k := if_pos h2
    rw [ea]
    obtain ⟨c1, c2⟩ := lc_cl k hkl
    rw [lc_len] at c1 c2
    refine ce_z (fun d hd hd0 => (if_pos (c1 d hd hd0)).symm) (fun h12 i hi => (if_pos (by have := c2 h12; omega)).symm) (lc_12 k hkl) ?_ h0
    funext j
    exact (if_pos h2).symm
  · obtain ⟨i, rfl⟩ : ∃ i, k = 201 + i := ⟨k - 201, by omega⟩
    have hi : i < Z.length := by omega
    have e := pr_me_at (T := T) (ad := az ad Z) (f := fz f) (R := []) (lx_at hi)
    rw [List.append_nil, hk] at e
    cases e
    have h0 := hP (201 + i) (aa T (Z.getD i (0, 0))) (by
      rw [List.getElem?_append_right (by rw [me_len, lc_len]; omega), me_len, lc_len, Nat.add_sub_cancel_left, List.getElem?_map, gd_at hi]
      rfl)
    have ea : az ad Z (201 + i) = (Z.getD i (0, 0)).1 := by
      unfold az
      rw [if_neg h2, Nat.add_sub_cancel_left]
    rw [ea]
    have ef : fz f (201 + i) = fun _ => 0 := by
      funext j
      exact if_neg h2
    unfold pr_ce
    rw [if_neg (show ¬ (10 : Nat) < 10 by decide), if_pos rfl, ef]
    exact h0
theorem rg_z (ad : Nat → Nat) (Z : List (Nat × Nat)) : (List.range (201 + Z.length)).map (az ad Z) = (List.range 201).map ad ++ Z.map (fun z => z.1) := by
  apply List.ext_getElem?
  intro i
  by_cases h : i < 201
  · rw [List.getElem?_append_left (by simpa using h), List.getElem?_map, List.getElem?_map, List.getElem?_range (by omega), List.getElem?_range h]
    show some (az ad Z i) = some (ad i)
    unfold az
    rw [if_pos h]
  · obtain ⟨j, rfl⟩ : ∃ j, i = 201 + j := ⟨i - 201, by omega⟩
    rw [List.getElem?_append_right (by simp), List.length_map, List.length_range, Nat.add_sub_cancel_left, List.getElem?_map, List.getElem?_map]
    by_cases hj : j < Z.length
    · rw [List.getElem?_range (by omega), gd_at hj]
      show some (az ad Z (201 + j)) = some _
      unfold az
      rw [if_neg h, Nat.add_sub_cancel_left]
    · rw [List.getElem?_eq_none (by simpa using by omega), List.getElem?_eq_none (by omega)]
      rfl
theorem me_fst {T : pr_T} {L : List (Nat × Nat)} {ad : Nat → Nat} {f : pr_M} : (pr_me T L ad f).map (fun q => q.1) = (List.range L.length).map ad := by
  unfold pr_me
  rw [List.map_map]
  rfl
theorem va_Dm {A : Nat → Prop} {ws ws' : va_W} (h : ws.map (fun q => q.1) = ws'.map (fun q => q.1)) (hD : va_D A ws) : va_D A ws' := by
  have get : ∀ (i : Nat) (p : Nat × va_E), ws'[i]? = some p → ∃ p' : Nat × va_E, ws[i]? = some p' ∧ p'.1 = p.1 := fun i p hp => by
    have e : (ws'.map (fun q => q.1))[i]? = some p.1 := by rw [List.getElem?_map, hp]; rfl
    rw [← h, List.getElem?_map] at e
    cases hq : ws[i]? with
    | none => rw [hq] at e; cases e
    | some q => rw [hq] at e; exact ⟨q, rfl, Option.some.inj e⟩
  refine ⟨fun i j p q hi hj hpq => ?_, fun k q hk => ?_⟩
  · obtain ⟨p', g1, g2⟩ := get i p hi
    obtain ⟨q', z1, z2⟩ := get j q hj
    exact hD.1 i j p' q' g1 z1 (by rw [g2, z2]; exact hpq)
  · obtain ⟨q', g1, g2⟩ := get k q hk
    rw [← g2]
    exact hD.2 k q' g1
theorem D_z {A : Nat → Prop} {T : pr_T} {ad : Nat → Nat} {f : pr_M} {Z : List (Nat × Nat)} (hD : va_D A (pr_me T pr_LC ad f ++ Z.map (aa T))) (g : pr_M) : va_D A (pr_me T (pr_LX (Z.map (fun z => z.2))) (az ad Z) g ++ []) := by
  refine va_Dm ?_ hD
  rw [List.append_nil, List.map_append, me_fst, me_fst, lX_len, lc_len, rg_z, List.map_map]
  rfl
section HC
variable {l : Launch} {D : va_G} {T : pr_T} {B : Nat} {sc : pr_SC} {Y : pr_Y} {Rm : Room} {cc : ByteArray} {own : String} {nL : Nat} {c0 : Cond} {ws : va_W} {k n pc : Nat} {lv lv' : List (Nat × Value)} {st : List Value}
theorem h_after {X : va_W} {o mc ms : Nat} {L : List (Nat × Nat)} {Fb : pr_M → Option (Unit × pr_M)} {H : Heap} {locs : List Loc} {rest stk : List Value} {ls : Array Slot}
    (hr : va_Run (pr_yp Y) l (pr_ye Y) Rm (pr_ys Y) (pr_ym Y) (pr_ya Y) (pr_yb Y) (pr_yh Y) (pr_yc Y) H locs k n mc ms (F0 (pr_ym Y) pc ls stk) rest (pr_HQ D T B X o L Fb [Value.ref o].toArray) (fun q => B ≤ q))
    (hS : va_S (fun q => B ≤ q) (pr_ys Y).heap H locs) (hl : lv_has ls nL lv) (kk : ∀ (ad : Nat → Nat) (g : pr_M), ad 0 = o → Fb pr_f0 = some ((), g) → (∀ f, va_D (fun q => B ≤ q) (pr_me T L ad f ++ X)) → pr_G (pr_EG l D T B sc) Y Rm nL (pr_me T L ad g ++ X) (k + mc) (n + ms) (pc + 3) lv rest) :
    W (pr_yp Y) l (pr_ye Y) Rm (pr_ys Y) (pr_ym Y) (pr_ya Y) (pr_yb Y) (pr_yh Y) (pr_yc Y) H locs k n (pr_yQ Y) (F0 (pr_ym Y) pc ls stk) := by
  intro T0 hT X0
  obtain ⟨v, st₀, t, T', L', h0, X', hL, e1, e2, ⟨hv, ⟨ad, g, ha, hg, hP1, hD1⟩, hz, hk⟩, go⟩ := hr T0 hT X0
  cases hv
  rw [h0] at hz hk
  obtain ⟨t2, a1, b1⟩ := kk ad g ha hg hD1 T'.heap (locs ++ L') ls (by rw [e1]; exact hP1) (hD1 g)
    ⟨Nat.le_trans hS.1 (by rw [e1]; exact hz), fun q h1 h2 => by rw [e1, hk q (Nat.lt_of_lt_of_le h1 hS.1) h2]; exact hS.2.1 q h1 h2, fun q hq => by
      rcases List.mem_append.mp hq with h | h
      · exact hS.2.2 q h
      · exact hL q h⟩ hl T' rfl X'
  exact ⟨t2, go t2 a1, b1⟩
theorem h_call (C : pr_C (pr_EG l D T B sc) Y Rm cc own nL c0) (hO : va_AO "PrintRegister$Unit" (pr_ys Y)) {y : MethodName} {bytes : ByteArray} {maxL idx o K mc ms : Nat} {rm : Room} {X : va_W} {L : List (Nat × Nat)} {Fb : pr_M → Option (Unit × pr_M)} (hM : pr_HM l D T B sc y bytes maxL rm X o K L Fb mc ms)
    (w1 : Cond.methodLink own idx y ∈ pr_AL) (w2 : Cond.instanceMethod y ∈ pr_AL) (w4 : Cond.initialized y.cls ∈ pr_AL) (w5 : Cond.code y bytes maxL none ∈ pr_AL) (hrc : rm.cells = mc) (hrs : rm.slots = ms) (hy1 : y.name = "<init>")
    (hy : y.cls ≠ "java/lang/invoke/MethodHandle" ∧ y.cls ≠ "java/lang/invoke/VarHandle" ∧ (parseMethodDescriptor y.desc).map (fun d => d.parameters.length) = some 0) (hR : rm.frames + 1 ≤ Rm.frames ∧ 8 + (maxL + 11) + rm.locals ≤ Rm.locals)
    (hk : k + mc ≤ Rm.cells) (hn : n + ms ≤ Rm.slots) (hcat : (st.map fun v => v.category).sum ≤ 8) (hdg : decode cc pc = .ok (.invokespecial idx, 3)) (kk : ∀ (ad : Nat → Nat) (g : pr_M), ad 0 = o → Fb pr_f0 = some ((), g) → (∀ f, va_D (fun q => B ≤ q) (pr_me T L ad f ++ X)) → pr_G (pr_EG l D T B sc) Y Rm nL (pr_me T L ad g ++ X) (k + mc) (n + ms) (pc + 3) lv st) : pr_G (pr_EG l D T B sc) Y Rm nL (X ++ [(o, .inr (K, pr_df K))]) k n pc lv (.ref o :: st) := fun H locs ls hP hD hS hl =>
  h_after (va_runI (As := []) (rest := st) (g := F0 (pr_ym Y) pc ls (.ref o :: st)) ⟨C.1, C.2.1, C.2.2.1, C.2.2.2.1, C.2.2.2.2.1⟩ (hM hD) (cwI 0 C.2.2.2.2.1 (pr_goodIn w5) rfl hrc hrs (pr_hts C w4) (pr_hts C w1) (pr_hts C w2) hy1 hy hR) ⟨g_blind, g_pre C hO hP hS⟩ rfl rfl hl.1 rfl (lv_room hcat) hdg ⟨hk, hn⟩) hS hl kk
theorem g_astore_n {E : pr_E} {lv lv' : List (Nat × Value)} (C : pr_C E Y Rm cc own nL c0) {j : Fin 4} {i x : Nat} (hd : decode cc pc = .ok (.astore_n j, 1)) (hi : (j : Nat) = i) (hn : i < nL) (hl : (i, Value.ref x) :: lv.filter (fun q => !(q.1 == i) && !(q.1 + 1 == i && q.2.category == 2)) = lv') (kk : pr_G E Y Rm nL ws k n (pc + 1) lv' st) : pr_G E Y Rm nL ws k n pc lv (.ref x :: st) := fun H locs ls hP hD hS h => lv_astore_n C.1 C.2.1 hd hi h hn hl (fun ls h => kk H locs ls hP hD hS h)
theorem g_astore {E : pr_E} (C : pr_C E Y Rm cc own nL c0) {i x : Nat} (hd : decode cc pc = .ok (.astore i, 2)) (hn : i < nL) (hl : (i, Value.ref x) :: lv.filter (fun q => !(q.1 == i) && !(q.1 + 1 == i && q.2.category == 2)) = lv') (kk : pr_G E Y Rm nL ws k n (pc + 2) lv' st) : pr_G E Y Rm nL ws k n pc lv (.ref x :: st) := fun H locs ls hP hD hS h => lv_astore C.1 C.2.1 hd h hn hl (fun ls h => kk H locs ls hP hD hS h)
theorem w_of_g {L : List (Nat × Nat)} {ad : Nat → Nat} {X : va_W} {f : pr_M} (hD : ∀ f, va_D (fun q => B ≤ q) (pr_me T L ad f ++ X)) (kk : pr_G (pr_EG l D T B sc) Y Rm nL (pr_me T L ad f ++ X) k n pc lv st) : pr_W (l, D, T, L, ad, X, B, sc) (pr_Yk Y k n) Rm nL f pc lv st := fun H locs ls hP hS hl => kk H locs ls hP (hD f) hS hl
end HC
theorem lx_nil : pr_LX [] = pr_LC := List.append_nil _
set_option maxHeartbeats 4000000 in
set_option maxRecDepth 100000 in
theorem l_start {l : Launch} {D : va_G} {T : pr_T} {B : Nat} {sc : pr_SC} {Y : pr_Y} {c0 : Cond} {b L : Nat} {xs : Nat → Int32} (hsc : sc = (b, L, xs)) (C : pr_C (pr_EG l D T B sc) Y room_1 cL_law RL 22 c0) (hO : va_AO "PrintRegister$Unit" (pr_ys Y)) (ok : lk_ok L xs)
    (Kend : ∀ (pc : Nat) (H : Heap) (locs : List Loc) (ls : Array Slot), decode cL_law pc = .ok (.ireturn, 1) → va_S (fun q => B ≤ q) (pr_ys Y).heap H locs → W (pr_yp Y) l (pr_ye Y) room_1 (pr_ys Y) (pr_ym Y) (pr_ya Y) (pr_yb Y) (pr_yh Y) (pr_yc Y) H locs 210 8253 (pr_yQ Y) (F0 (pr_ym Y) pc ls [.int 1])) : pr_G (pr_EG l D T B sc) Y room_1 22 [] 0 0 0 [(0, .ref b)] [] := by
  refine g_new C (rfl : pr_CL[8]? = some (RX8, TX8, 5)) pr_uw8 tyX8_ok (by decide +kernel) pr_w387 pr_w388 pr_w17 (Nat.le_of_ble_eq_true rfl) (Nat.le_of_ble_eq_true rfl) dL_law_0 fun o1 => ?_
  refine g_dup C dL_law_3 rfl ?_
  refine h_call C hO (i_X8 [] o1) pr_w390 pr_w391 pr_w17 pr_w272 rfl rfl rfl ⟨by decide +kernel, by decide +kernel, by decide +kernel⟩ ⟨Nat.le_of_ble_eq_true rfl, Nat.le_of_ble_eq_true rfl⟩ (Nat.le_of_ble_eq_true rfl) (Nat.le_of_ble_eq_true rfl) (Nat.le_of_ble_eq_true rfl) dL_law_4 fun ad g0 h1 e1 hD1 => ?_
  refine g_astore_n C dL_law_7 rfl (by decide) rfl ?_
  obtain ⟨r1, g1, g2, g3, g', s1, s2, s3, s4⟩ := ok g0 e1
  have C1 := pr_Ck (k := 201) (n := 7975) (L := pr_LX []) (ad := ad) (X := []) C hD1 (Nat.le_of_ble_eq_true rfl) (Nat.le_of_ble_eq_true rfl)
  have hq1 : (pr_LE (D, T, ad, [], B, [], sc))[0]? = some (8, 0) := px_lx (by decide +kernel)
  have hs1 : pr_sc (pr_EC l (D, T, ad, [], B, [], sc)) = (b, L, xs) := hsc
  have main : pr_W (pr_EC l (D, T, ad, [], B, [], sc)) (pr_Yk Y 201 7975) room_1 22 g0 8 [(1, .ref (ad 0)), (0, .ref b)] [] := by
    refine pr_aload_n C1 dL_law_8 rfl 0 rfl ?_
    refine pr_iconst (v := 2) C1 dL_law_9 (by decide) ?_
    refine k_X8_setUp (e := (D, T, ad, [], B, [], sc)) C1 pr_w392 hq1 s1 (Nat.le_of_ble_eq_true rfl) (Nat.le_of_ble_eq_true rfl) (Nat.le_of_ble_eq_true rfl) dL_law_10 ?_
    refine pr_pop C1 dL_law_13 rfl ?_
    refine pr_aload_n C1 dL_law_14 rfl 0 rfl ?_
    refine pr_aload_n C1 dL_law_15 rfl 1 rfl ?_
    refine pr_iconst (v := 0) C1 dL_law_16 (by decide) ?_
    refine pr_iconst (v := 0) C1 dL_law_17 (by decide) ?_
    refine k_L_settings (e := (D, T, ad, [], B, [], sc)) C1 pr_w395 hq1 hs1 s2 (Nat.le_of_ble_eq_true rfl) (Nat.le_of_ble_eq_true rfl) (Nat.le_of_ble_eq_true rfl) dL_law_18 ?_
    refine pr_aload_n C1 dL_law_21 rfl 0 rfl ?_
    refine pr_aload_n C1 dL_law_22 rfl 1 rfl ?_
    refine pr_iconst (v := 1) C1 dL_law_23 (by decide) ?_
    refine pr_bipush (v := 13) C1 dL_law_24 (by decide) ?_
    refine k_L_settings (e := (D, T, ad, [], B, [], sc)) C1 pr_w395 hq1 hs1 s3 (Nat.le_of_ble_eq_true rfl) (Nat.le_of_ble_eq_true rfl) (Nat.le_of_ble_eq_true rfl) dL_law_26 ?_
    refine w_of_g hD1 ?_
    refine g_bipush C (v := 14) dL_law_29 rfl ?_
    refine g_newai C (N := 14) (by decide) (by decide +kernel) (Nat.le_of_ble_eq_true rfl) (Nat.le_of_ble_eq_true rfl) (Nat.le_of_ble_eq_true rfl) dL_law_31 fun q2 => ?_
    refine g_astore_n C dL_law_33 rfl (by decide) rfl ?_
    refine g_bipush C (v := 14) dL_law_34 rfl ?_
    refine g_newai C (N := 14) (by decide) (by decide +kernel) (Nat.le_of_ble_eq_true rfl) (Nat.le_of_ble_eq_true rfl) (Nat.le_of_ble_eq_true rfl) dL_law_36 fun q3 => ?_
    refine g_astore_n C dL_law_38 rfl (by decide) rfl ?_
    refine g_iconst C (v := 5) dL_law_39 rfl ?_
    refine g_newai C (N := 5) (by decide) (by decide +kernel) (Nat.le_of_ble_eq_true rfl) (Nat.le_of_ble_eq_true rfl) (Nat.le_of_ble_eq_true rfl) dL_law_40 fun q4 => ?_
    refine g_astore C dL_law_42 (by decide) rfl ?_
    refine g_iconst C (v := 5) dL_law_44 rfl ?_
    refine g_newai C (N := 5) (by decide) (by decide +kernel) (Nat.le_of_ble_eq_true rfl) (Nat.le_of_ble_eq_true rfl) (Nat.le_of_ble_eq_true rfl) dL_law_45 fun q5 => ?_
    refine g_astore C dL_law_47 (by decide) rfl ?_
    refine g_bipush C (v := 48) dL_law_49 rfl ?_
    refine g_newai C (N := 48) (by decide) (by decide +kernel) (Nat.le_of_ble_eq_true rfl) (Nat.le_of_ble_eq_true rfl) (Nat.le_of_ble_eq_true rfl) dL_law_51 fun q6 => ?_
    refine g_astore C dL_law_53 (by decide) rfl ?_
    refine g_bipush C (v := 48) dL_law_55 rfl ?_
    refine g_newai C (N := 48) (by decide) (by decide +kernel) (Nat.le_of_ble_eq_true rfl) (Nat.le_of_ble_eq_true rfl) (Nat.le_of_ble_eq_true rfl) dL_law_57 fun q7 => ?_
    refine g_astore C dL_law_59 (by decide) rfl ?_
    refine g_bipush C (v := 48) dL_law_61 rfl ?_
    refine g_newai C (N := 48) (by decide) (by decide +kernel) (Nat.le_of_ble_eq_true rfl) (Nat.le_of_ble_eq_true rfl) (Nat.le_of_ble_eq_true rfl) dL_law_63 fun q8 => ?_
    refine g_astore C dL_law_65 (by decide) rfl ?_
    refine g_bipush C (v := 48) dL_law_67 rfl ?_
    refine g_newai C (N := 48) (by decide) (by decide +kernel) (Nat.le_of_ble_eq_true rfl) (Nat.le_of_ble_eq_true rfl) (Nat.le_of_ble_eq_true rfl) dL_law_69 fun q9 => ?_
    refine g_astore C dL_law_71 (by decide) rfl ?_
    refine g_bipush C (v := 48) dL_law_73 rfl ?_
    refine g_newai C (N := 48) (by decide) (by decide +kernel) (Nat.le_of_ble_eq_true rfl) (Nat.le_of_ble_eq_true rfl) (Nat.le_of_ble_eq_true rfl) dL_law_75 fun q10 => ?_
    refine g_astore C dL_law_77 (by decide) rfl ?_
    intro H locs ls hP hD hS hl
    have eW : ∀ a1 a2 a3 a4 a5 a6 a7 a8 a9 : Nat × va_E, ((((((((((pr_me T (pr_LX []) ad g3 ++ []) ++ [a1]) ++ [a2]) ++ [a3]) ++ [a4]) ++ [a5]) ++ [a6]) ++ [a7]) ++ [a8]) ++ [a9]) = pr_me T pr_LC ad g3 ++ [a1, a2, a3, a4, a5, a6, a7, a8, a9] := fun a1 a2 a3 a4 a5 a6 a7 a8 a9 => by
      rw [lx_nil]
      simp only [List.append_nil, List.append_assoc, List.cons_append, List.nil_append]
    rw [eW] at hP hD
    have hP2 := P_z (Z := [(q2, 14), (q3, 14), (q4, 5), (q5, 5), (q6, 48), (q7, 48), (q8, 48), (q9, 48), (q10, 48)]) hP
    have hD2 := D_z (Z := [(q2, 14), (q3, 14), (q4, 5), (q5, 5), (q6, 48), (q7, 48), (q8, 48), (q9, 48), (q10, 48)]) hD
    have C2 := pr_Ck (k := 210) (n := 8253) (L := pr_LX [14, 14, 5, 5, 48, 48, 48, 48, 48]) (ad := az ad [(q2, 14), (q3, 14), (q4, 5), (q5, 5), (q6, 48), (q7, 48), (q8, 48), (q9, 48), (q10, 48)]) (X := []) C hD2 (Nat.le_of_ble_eq_true rfl) (Nat.le_of_ble_eq_true rfl)
    have hs2 : pr_sc (pr_EC l (D, T, az ad [(q2, 14), (q3, 14), (q4, 5), (q5, 5), (q6, 48), (q7, 48), (q8, 48), (q9, 48), (q10, 48)], [], B, [14, 14, 5, 5, 48, 48, 48, 48, 48], sc)) = (b, L, xs) := hsc
    have a0 : az ad [(q2, 14), (q3, 14), (q4, 5), (q5, 5), (q6, 48), (q7, 48), (q8, 48), (q9, 48), (q10, 48)] 0 = ad 0 := if_pos (by decide)
    refine l_main (e := (D, T, az ad [(q2, 14), (q3, 14), (q4, 5), (q5, 5), (q6, 48), (q7, 48), (q8, 48), (q9, 48), (q10, 48)], [], B, [14, 14, 5, 5, 48, 48, 48, 48, 48], sc)) C2 hs2 (q1 := 0) (q2 := 201) (q3 := 202) (q4 := 203) (q5 := 204) (q6 := 205) (q7 := 206) (q8 := 207) (q9 := 208) (q10 := 209) (px_lx (by decide +kernel)) (show (pr_LX [14, 14, 5, 5, 48, 48, 48, 48, 48])[201]? = some (10, 14) by decide +kernel) (show (pr_LX [14, 14, 5, 5, 48, 48, 48, 48, 48])[202]? = some (10, 14) by decide +kernel) (show (pr_LX [14, 14, 5, 5, 48, 48, 48, 48, 48])[203]? = some (10, 5) by decide +kernel) (show (pr_LX [14, 14, 5, 5, 48, 48, 48, 48, 48])[204]? = some (10, 5) by decide +kernel) (show (pr_LX [14, 14, 5, 5, 48, 48, 48, 48, 48])[205]? = some (10, 48) by decide +kernel) (show (pr_LX [14, 14, 5, 5, 48, 48, 48, 48, 48])[206]? = some (10, 48) by decide +kernel) (show (pr_LX [14, 14, 5, 5, 48, 48, 48, 48, 48])[207]? = some (10, 48) by decide +kernel) (show (pr_LX [14, 14, 5, 5, 48, 48, 48, 48, 48])[208]? = some (10, 48) by decide +kernel) (show (pr_LX [14, 14, 5, 5, 48, 48, 48, 48, 48])[209]? = some (10, 48) by decide +kernel) s4 (fun pc lv hd H locs ls hP hS hl => Kend pc H locs ls hd hS) H locs ls hP2 hS ?_
    rw [show pr_ad (pr_EC l (D, T, az ad [(q2, 14), (q3, 14), (q4, 5), (q5, 5), (q6, 48), (q7, 48), (q8, 48), (q9, 48), (q10, 48)], [], B, [14, 14, 5, 5, 48, 48, 48, 48, 48], sc)) 0 = ad 0 from a0]
    exact hl
  rw [← h1]
  intro H locs ls hP hD hS hl
  exact main H locs ls hP hS hl
