/-! ===== a press is made ===== -/
theorem mg_conk {T : pr_T} {L : List (Nat × Nat)} {ad : Nat → Nat} {q : Nat} {kk : Nat × Nat} : (q, pr_cg T (pr_gl 1 (fun _ => q) ad) kk 0) :: pr_mg T L ad = pr_mg T (kk :: L) (pr_gl 1 (fun _ => q) ad) := by
  apply List.ext_getElem?
  intro i
  cases i with
  | zero =>
    rw [mg_at (by rw [List.length_cons]; omega), gl_1 (by decide)]
    rfl
  | succ i =>
    rw [List.getElem?_cons_succ]
    by_cases hi : i < L.length
    · rw [mg_at hi, mg_at (by rw [List.length_cons]; omega)]
      have e : (kk :: L).getD (i + 1) (0, 0) = L.getD i (0, 0) := rfl
      rw [e, Nat.add_comm i 1, gl_2, cg_g (T := T) (ad := ad) (ad' := pr_gl 1 (fun _ => q) ad) (c := i) (c' := 1 + i) (fun d hd h0 => by rw [Nat.add_assoc, gl_2]) (fun h12 z hz => by rw [show 1 + i + 3 + 9 * z = 1 + (i + 3 + 9 * z) by omega, gl_2])]
    · rw [List.getElem?_eq_none (by rw [mg_len]; omega), List.getElem?_eq_none (by rw [mg_len, List.length_cons]; omega)]
section GL
variable {E : pr_E} {Y : pr_Y} {Rm : Room} {cc : ByteArray} {own : String} {nL : Nat} {c0 : Cond} {ws : va_W} {k n pc : Nat} {lv lv' : List (Nat × Value)} {st : List Value}
theorem g_iload_n (C : pr_C E Y Rm cc own nL c0) {j : Fin 4} {i : Nat} {x : Int32} (hd : decode cc pc = .ok (.iload_n j, 1)) (hi : (j : Nat) = i) (q : Nat) (hl : lv[q]? = some (i, .int x)) (kk : pr_G E Y Rm nL ws k n (pc + 1) lv (.int x :: st)) : pr_G E Y Rm nL ws k n pc lv st := fun H locs ls hP hD hS h => lv_iload_n C.1 C.2.1 hd hi (lv_at h q hl) (kk H locs ls hP hD hS h)
theorem g_aload_n (C : pr_C E Y Rm cc own nL c0) {j : Fin 4} {i x : Nat} (hd : decode cc pc = .ok (.aload_n j, 1)) (hi : (j : Nat) = i) (q : Nat) (hl : lv[q]? = some (i, .ref x)) (kk : pr_G E Y Rm nL ws k n (pc + 1) lv (.ref x :: st)) : pr_G E Y Rm nL ws k n pc lv st := fun H locs ls hP hD hS h => lv_aload_n C.1 C.2.1 hd hi (lv_at h q hl) (kk H locs ls hP hD hS h)
theorem g_istore_n (C : pr_C E Y Rm cc own nL c0) {j : Fin 4} {i : Nat} {x : Int32} (hd : decode cc pc = .ok (.istore_n j, 1)) (hi : (j : Nat) = i) (hn : i < nL) (hl : (i, Value.int x) :: lv.filter (fun q => !(q.1 == i) && !(q.1 + 1 == i && q.2.category == 2)) = lv') (kk : pr_G E Y Rm nL ws k n (pc + 1) lv' st) : pr_G E Y Rm nL ws k n pc lv (.int x :: st) := fun H locs ls hP hD hS h => lv_istore_n C.1 C.2.1 hd hi h hn hl (fun ls h => kk H locs ls hP hD hS h)
theorem g_iinc (C : pr_C E Y Rm cc own nL c0) {i : Nat} {z : Int} {x v : Int32} (hd : decode cc pc = .ok (.iinc i z, 3)) (q : Nat) (hq : lv[q]? = some (i, .int x)) (hv : x + Int32.ofInt z = v) (hn : i < nL) (hl : (i, Value.int v) :: lv.filter (fun q => !(q.1 == i) && !(q.1 + 1 == i && q.2.category == 2)) = lv') (kk : pr_G E Y Rm nL ws k n (pc + 3) lv' st) : pr_G E Y Rm nL ws k n pc lv st := fun H locs ls hP hD hS h => lv_iinc C.1 C.2.1 hd h hq hv hn hl (fun ls h => kk H locs ls hP hD hS h)
theorem g_goto (C : pr_C E Y Rm cc own nL c0) {off : Int} {tgt : Nat} (hd : decode cc pc = .ok (.goto off, 3)) (ht : (pc : Int) + off = (tgt : Int)) (kk : pr_G E Y Rm nL ws k n tgt lv st) : pr_G E Y Rm nL ws k n pc lv st := fun H locs ls hP hD hS hl => lv_goto C.1 C.2.1 hd ht (kk H locs ls hP hD hS hl)
theorem g_icmp_ge (C : pr_C E Y Rm cc own nL c0) {x y : Int32} {off : Int} {tgt : Nat} (hd : decode cc pc = .ok (.if_icmp .ge off, 3)) (ht : (pc : Int) + off = (tgt : Int)) (kt : y ≤ x → pr_G E Y Rm nL ws k n tgt lv st) (kf : ¬ y ≤ x → pr_G E Y Rm nL ws k n (pc + 3) lv st) : pr_G E Y Rm nL ws k n pc lv (.int y :: .int x :: st) := fun H locs ls hP hD hS hl => lv_icmp_ge C.1 C.2.1 hd ht (fun c => kt c H locs ls hP hD hS hl) (fun c => kf c H locs ls hP hD hS hl)
theorem g_getF (C : pr_C E Y Rm cc own nL c0) {X R : va_W} {o K N idx j : Nat} {fs : List Value} {T : u_T} {v : Value} (hcl : pr_CL[K]? = some (own, T, N)) (hin : ∀ w ∈ u_ws own T N, w ∈ pr_AL) (hj : j < N) (w1 : Cond.fieldLink own idx own (T j).2.1 (T j).2.2.1 ∈ pr_AL) (h0 : (T j).1 = own) (hv : fs[j]? = some v) (hd : decode cc pc = .ok (.getfield idx, 3))
    (kk : pr_G E Y Rm nL (X ++ (o, .inr (K, fs)) :: R) k n (pc + 3) lv (v :: st)) : pr_G E Y Rm nL (X ++ (o, .inr (K, fs)) :: R) k n pc lv (.ref o :: st) := fun H locs ls hP hD hS hl =>
  va_get C.1 C.2.1 (Ts := pr_AL) (fun w h => pr_hts C h) hin C.2.2.2.1 (pr_K C) hP X.length ls_at hcl j hj (pr_hts C w1) (fun x hx => by rw [h0] at hx; exact hx) hv hd (kk H locs ls hP hD hS hl)
theorem g_newq (C : pr_C E Y Rm cc own nL c0) (hO : va_AO "PrintRegister$Unit" (pr_ys Y)) {v : Int32} {N idx : Nat} (w1 : Cond.classLink own idx "PrintRegister$Unit" ∈ pr_AL) (hn : ¬ v < 0) (hN : v.toNatClampNeg = N) (hb : N * 4 ≤ 536870912) (hk : k + 1 ≤ Rm.cells) (hs : n + N ≤ Rm.slots) (hd : decode cc pc = .ok (.anewarray idx, 3)) (kk : ∀ q, pr_G E Y Rm nL (ws ++ [(q, .inl ((pr_t E).2.2, N, .inr (.inr (.inr (.inr (fun _ => none))))))]) (k + 1) (n + N) (pc + 3) lv (.ref q :: st)) : pr_G E Y Rm nL ws k n pc lv (.int v :: st) := fun H locs ls hP hD hS hl =>
  va_newq C.1 C.2.1 C.2.2.2.1 (pr_hts C w1) hO (pr_K C) hP hD hS (hA_of C) hn hN hb hk hs hd (fun q cA H1 hK1 hP1 hD1 hS1 => by
    obtain ⟨-, -, -, -, -, e1⟩ := (hK1.2 3 (cA, .object "PrintRegister$Unit") rfl).2
    obtain ⟨-, -, -, -, -, e2⟩ := ((pr_K C).2 2 ((pr_t E).2.2, .object "PrintRegister$Unit") rfl).2
    have e : cA = (pr_t E).2.2 := Option.some.inj (e1.symm.trans e2)
    subst e
    exact kk q H1 locs ls hP1 hD1 hS1 hl)
theorem g_astq (C : pr_C E Y Rm cc own nL c0) {q0 qk a v : Nat} {vs : List Value} {f : Nat → Option Nat} (ha : ws[q0]? = some (a, .inl ((pr_t E).2.2, 5, .inr (.inr (.inr (.inr f)))))) (hv : ws[qk]? = some (v, .inr (7, vs))) {i : Int32} (hin : vp_in i 5) (hd : decode cc pc = .ok (.aastore, 1))
    (kk : pr_G E Y Rm nL (ws.set q0 (a, .inl ((pr_t E).2.2, 5, .inr (.inr (.inr (.inr (va_up f i.toNatClampNeg (some v)))))))) k n (pc + 1) lv st) : pr_G E Y Rm nL ws k n pc lv (.ref v :: .int i :: .ref a :: st) := fun H locs ls hP hD hS hl =>
  va_astq (r := (RX7, TX7, 4)) C.1 C.2.1 (pr_K C) hP hD hS q0 2 qk 7 ha (rfl : (pr_ty (pr_t E))[2]? = some ((pr_t E).2.2, .object "PrintRegister$Unit")) hv (rfl : pr_CL[7]? = some (RX7, TX7, 4)) hin hd (fun H1 locs1 hP1 hD1 hS1 => kk H1 locs1 ls hP1 hD1 hS1 hl)
end GL
