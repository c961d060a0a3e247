/-! ===== from a made block to the flat memory ===== -/
theorem vc_q {cA : ClassId} {g1 g2 : Nat → Option Nat} (h : ∀ j, j < 5 → g1 j = g2 j) : vp_cell cA (5, .inr (.inr (.inr (.inr g1)))) = vp_cell cA (5, .inr (.inr (.inr (.inr g2)))) := by
  show arrV cA 5 (fun j => va_rf (g1 j)) = arrV cA 5 (fun j => va_rf (g2 j))
  unfold arrV
  congr 1
  congr 1
  funext j
  show va_rf (g1 j.val) = va_rf (g2 j.val)
  rw [h j.val j.isLt]
theorem ce_of {D : va_G} {T : pr_T} {ad : Nat → Nat} {k : Nat × Nat} {c a : Nat} {H : Heap} (h12 : 12 ≤ k.1 → k.2 = 5) (h : va_at D pr_CL (a, pr_cg T ad k c) H) : va_at D pr_CL (a, pr_ce T ad pr_f0 k c) H := by
  unfold pr_cg at h
  unfold pr_ce
  by_cases e1 : k.1 < 10
  · rw [if_pos e1] at h ⊢; exact h
  · rw [if_neg e1] at h ⊢
    by_cases e2 : k.1 = 10
    · rw [if_pos e2] at h ⊢; exact h
    · rw [if_neg e2] at h ⊢
      by_cases e3 : k.1 = 11
      · rw [if_pos e3] at h ⊢; exact h
      · rw [if_neg e3] at h ⊢
        rw [h12 (by omega)] at h ⊢
        have e := vc_q (cA := T.2.2) (g1 := fun i => if i < 5 then some (ad (c + 3 + 9 * i)) else none) (g2 := fun i => some (ad (c + 3 + 9 * i))) (fun j hj => if_pos hj)
        show H[a]? = some (vp_cell T.2.2 (5, .inr (.inr (.inr (.inr (fun i => some (ad (c + 3 + 9 * i))))))))
        rw [← e]
        exact h
theorem me_len {T : pr_T} {L : List (Nat × Nat)} {ad : Nat → Nat} {f : pr_M} : (pr_me T L ad f).length = L.length := by
  unfold pr_me
  rw [List.length_map, List.length_range]
theorem gd_at {L : List (Nat × Nat)} {c : Nat} (h : c < L.length) : L[c]? = some (L.getD c (0, 0)) := by
  rw [List.getD_eq_getElem?_getD, List.getElem?_eq_getElem h]
  rfl
theorem P_of {D : va_G} {T : pr_T} {L : List (Nat × Nat)} {ad : Nat → Nat} {X : va_W} {H : Heap} (h12 : ∀ c, c < L.length → 12 ≤ (L.getD c (0, 0)).1 → (L.getD c (0, 0)).2 = 5) (hP : va_P D pr_CL (X ++ pr_mg T L ad) H) : va_P D pr_CL (pr_me T L ad pr_f0 ++ X) H := by
  intro k q hk
  by_cases hl : k < L.length
  · rw [pr_me_at (gd_at hl)] at hk
    cases hk
    have := hP (X.length + k) (ad k, pr_cg T ad (L.getD k (0, 0)) k) (by rw [List.getElem?_append_right (by omega), Nat.add_sub_cancel_left]; exact mg_at hl)
    exact ce_of (h12 k hl) this
  · rw [List.getElem?_append_right (by rw [me_len]; omega), me_len] at hk
    have hx : k - L.length < X.length := (List.getElem?_eq_some_iff.mp hk).1
    exact hP (k - L.length) q (by rw [List.getElem?_append_left hx]; exact hk)
theorem D_of {A : Nat → Prop} {T : pr_T} {L : List (Nat × Nat)} {ad : Nat → Nat} {X : va_W} (hD : va_D A (X ++ pr_mg T L ad)) (f : pr_M) : va_D A (pr_me T L ad f ++ X) := by
  have get : ∀ (i : Nat) (p : Nat × va_E), (pr_me T L ad f ++ X)[i]? = some p → ∃ p' : Nat × va_E, (X ++ pr_mg T L ad)[if i < L.length then X.length + i else i - L.length]? = some p' ∧ p'.1 = p.1 ∧ i < L.length + X.length := fun i p hp => by
    by_cases hl : i < L.length
    · rw [pr_me_at (gd_at hl)] at hp
      cases hp
      rw [if_pos hl]
      exact ⟨(ad i, pr_cg T ad (L.getD i (0, 0)) i), by rw [List.getElem?_append_right (by omega), Nat.add_sub_cancel_left]; exact mg_at hl, rfl, by omega⟩
    · rw [List.getElem?_append_right (by rw [me_len]; omega), me_len] at hp
      have hx : i - L.length < X.length := (List.getElem?_eq_some_iff.mp hp).1
      rw [if_neg hl]
      exact ⟨p, by rw [List.getElem?_append_left hx]; exact hp, rfl, by omega⟩
  refine ⟨fun i j p q hi hj hpq => ?_, fun k q hk => ?_⟩
  · obtain ⟨p', g1, g2, g3⟩ := get i p hi
    obtain ⟨q', z1, z2, z3⟩ := get j q hj
    have := hD.1 _ _ p' q' g1 z1 (by rw [g2, z2]; exact hpq)
    by_cases ci : i < L.length
    · rw [if_pos ci] at this
      by_cases cj : j < L.length
      · rw [if_pos cj] at this; omega
      · rw [if_neg cj] at this; omega
    · rw [if_neg ci] at this
      by_cases cj : j < L.length
      · rw [if_pos cj] at this; omega
      · rw [if_neg cj] at this; omega
  · obtain ⟨q', g1, g2, -⟩ := get k q hk
    rw [← g2]
    exact hD.2 _ q' g1
/-- what the two big constructors leave -/
def pr_HQ (D : va_G) (T : pr_T) (B : Nat) (X : va_W) (o : Nat) (L : List (Nat × Nat)) (Fb : pr_M → Option (Unit × pr_M)) : Array Value → State → Outcome → State → Prop := fun _ st oc t =>
  oc = .returned none ∧ (∃ (ad : Nat → Nat) (g : pr_M), ad 0 = o ∧ Fb pr_f0 = some ((), g) ∧ va_P D pr_CL (pr_me T L ad g ++ X) t.heap ∧ ∀ f, va_D (fun q => B ≤ q) (pr_me T L ad f ++ X)) ∧ va_F (fun q => B ≤ q) st t
def pr_HM (l : Launch) (D : va_G) (T : pr_T) (B : Nat) (sc : pr_SC) (y : MethodName) (cc : ByteArray) (nL : Nat) (rm : Room) (X : va_W) (o K : Nat) (L : List (Nat × Nat)) (Fb : pr_M → Option (Unit × pr_M)) (mc ms : Nat) : Prop :=
  va_D (fun q => B ≤ q) (X ++ [(o, .inr (K, pr_df K))]) → Met l y (.code y cc nL none :: pr_AL) rm (pr_GP l D T B sc (X ++ [(o, .inr (K, pr_df K))]) o) (pr_HQ D T B X o L Fb) mc ms (fun q => B ≤ q)
theorem pr_henter {l : Launch} {D : va_G} {T : pr_T} {B : Nat} {sc : pr_SC} {y : MethodName} {cc : ByteArray} {nL : Nat} {rm : Room} {X : va_W} {o K mc ms : Nat} {L : List (Nat × Nat)} {Fb : pr_M → Option (Unit × pr_M)} (hy : plainName y.cls = true) (hy2 : y.name = "<init>") (hn : 1 ≤ nL)
    (body : ∀ Y : pr_Y, pr_C (pr_EG l D T B sc) Y rm cc y.cls nL (.code y cc nL none) → va_AO "PrintRegister$Unit" (pr_ys Y) → (pr_yh Y).sig.returnType = none → (pr_yh Y).name = "<init>" → pr_yQ Y = MQ (pr_yb Y) (pr_HQ D T B X o L Fb) (pr_ya Y) (pr_ys Y) mc ms (fun q => B ≤ q) → pr_G (pr_EG l D T B sc) Y rm nL (X ++ [(o, .inr (K, pr_df K))]) 0 0 0 [(0, .ref o)] []) : pr_HM l D T B sc y cc nL rm X o K L Fb mc ms := by
  intro hD
  refine Met.ofW (cc := cc) (maxL := nL) (ret := none) hy rfl ?_
  intro p e s m args below meth c s₁ Bo hml hv
  obtain ⟨rfl, hB, hP, hK, hSt, hN, hO⟩ := hv
  have hl := lv_entry ([.ref o]) (n := nL) hn
  rw [lg_entry_eq]
  refine body (p, e, s, m, [Value.ref o].toArray, below, meth, c, 0, 0, MQ below (pr_HQ D T B X o L Fb) [Value.ref o].toArray s mc ms (fun q => B ≤ q))
    ⟨Bo.exec, Bo.bytes, hml, findClass_of_methodNamed Bo.named, atoms_spec (ws := .code y cc nL none :: pr_AL) Bo.pre, Bo.notSynchronized, hK, fun f => ⟨fun i j p q hp => ?_, fun k q hp => ?_⟩, hSt, hN, hB, Nat.zero_le _, Nat.zero_le _⟩ hO
    Bo.returns (by rw [← hy2]; exact (name_of_methodNamed Bo.named Bo.method).1) rfl s.heap [] _ hP hD va_S.rf hl
  · cases i <;> cases hp
  · cases k <;> cases hp
/-- the frame that goes on, with what it made -/
abbrev pr_Yk (Y : pr_Y) (k n : Nat) : pr_Y := (pr_yp Y, pr_ye Y, pr_ys Y, pr_ym Y, pr_ya Y, pr_yb Y, pr_yh Y, pr_yc Y, k, n, pr_yQ Y)
theorem pr_Ck {l : Launch} {D : va_G} {T : pr_T} {B : Nat} {sc : pr_SC} {Y : pr_Y} {Rm : Room} {cc : ByteArray} {own : String} {nL k n : Nat} {c0 : Cond} {L : List (Nat × Nat)} {ad : Nat → Nat} {X : va_W} (C : pr_C (pr_EG l D T B sc) Y Rm cc own nL c0) (hD : ∀ f, va_D (fun q => B ≤ q) (pr_me T L ad f ++ X)) (hk : k ≤ Rm.cells) (hn : n ≤ Rm.slots) : pr_C (l, D, T, L, ad, X, B, sc) (pr_Yk Y k n) Rm cc own nL c0 :=
  ⟨C.1, C.2.1, C.2.2.1, C.2.2.2.1, C.2.2.2.2.1, C.2.2.2.2.2.1, C.2.2.2.2.2.2.1, hD, C.2.2.2.2.2.2.2.2.1, C.2.2.2.2.2.2.2.2.2.1, C.2.2.2.2.2.2.2.2.2.2.1, hk, hn⟩
theorem h_ret {l : Launch} {D : va_G} {T : pr_T} {B : Nat} {sc : pr_SC} {Y : pr_Y} {Rm : Room} {cc : ByteArray} {own : String} {nL k n pc o : Nat} {c0 : Cond} {L : List (Nat × Nat)} {ad : Nat → Nat} {X : va_W} {g : pr_M} {Fb : pr_M → Option (Unit × pr_M)} {lv : List (Nat × Value)} (C : pr_C (l, D, T, L, ad, X, B, sc) (pr_Yk Y k n) Rm cc own nL c0) (Z1 : (pr_yh Y).sig.returnType = none) (ZQ : pr_yQ Y = MQ (pr_yb Y) (pr_HQ D T B X o L Fb) (pr_ya Y) (pr_ys Y) k n (fun q => B ≤ q)) (h0 : ad 0 = o) (hb : Fb pr_f0 = some ((), g)) (hD : ∀ f, va_D (fun q => B ≤ q) (pr_me T L ad f ++ X)) (hd : decode cc pc = .ok (.return_, 1)) : pr_W (l, D, T, L, ad, X, B, sc) (pr_Yk Y k n) Rm nL g pc lv [] := fun H locs ls hP hS hl => by
  show W (pr_yp Y) l (pr_ye Y) Rm (pr_ys Y) (pr_ym Y) (pr_ya Y) (pr_yb Y) (pr_yh Y) (pr_yc Y) H locs k n (pr_yQ Y) (F0 (pr_ym Y) pc ls [])
  rw [ZQ]
  exact W.vret C.1 C.2.1 Z1 (fun t ht hW => ⟨rfl, ⟨ad, g, h0, hb, by rw [ht]; exact hP, hD⟩, hS.F ht⟩) hS.2.2 hd C.2.2.2.2.2.1
