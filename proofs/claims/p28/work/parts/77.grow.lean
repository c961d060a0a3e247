/-! ===== growing worlds: what a constructor makes ===== -/
abbrev pr_f0 : pr_M := fun _ _ => 0
def pr_cg (T : pr_T) (ad : Nat → Nat) (k : Nat × Nat) (c : Nat) : va_E :=
  if k.1 < 10 then .inr (k.1, pr_fs ad pr_f0 c 0 (pr_sh k.1))
  else if k.1 = 10 then .inl (T.1, k.2, .inl (fun _ => 0))
  else if k.1 = 11 then .inl (T.2.1, k.2, .inl (fun _ => 0))
  else .inl (T.2.2, k.2, .inr (.inr (.inr (.inr (fun i => if i < 5 then some (ad (c + 3 + 9 * i)) else none)))))
def pr_mg (T : pr_T) (L : List (Nat × Nat)) (ad : Nat → Nat) : va_W := (List.range L.length).map (fun c => (ad c, pr_cg T ad (L.getD c (0, 0)) c))
/-- no reference leaves the block -/
def pr_cl (L : List (Nat × Nat)) : Prop := ∀ c, c < L.length → (∀ d, d ∈ pr_sh (L.getD c (0, 0)).1 → d ≠ 0 → c + d < L.length) ∧ (12 ≤ (L.getD c (0, 0)).1 → c + 40 ≤ L.length)
def pr_gl (n : Nat) (a1 a2 : Nat → Nat) : Nat → Nat := fun c => if c < n then a1 c else a2 (c - n)
theorem gl_1 {n c : Nat} {a1 a2 : Nat → Nat} (h : c < n) : pr_gl n a1 a2 c = a1 c := if_pos h
theorem gl_2 {n c : Nat} {a1 a2 : Nat → Nat} : pr_gl n a1 a2 (n + c) = a2 c := by
  unfold pr_gl
  rw [if_neg (by omega), Nat.add_sub_cancel_left]
theorem fs_g {ad ad' : Nat → Nat} {c c' : Nat} : ∀ (ds : List Nat) (j : Nat), (∀ d, d ∈ ds → d ≠ 0 → ad (c + d) = ad' (c' + d)) → pr_fs ad pr_f0 c j ds = pr_fs ad' pr_f0 c' j ds
  | [], _, _ => rfl
  | d :: ds, j, h => by
    rw [pr_fs, pr_fs, fs_g ds (j + 1) (fun x hx => h x (List.mem_cons_of_mem _ hx))]
    congr 1
    unfold pr_fv
    by_cases e : d = 0
    · rw [if_pos e, if_pos e]
    · rw [if_neg e, if_neg e, h d (List.mem_cons_self ..) e]
theorem cg_g {T : pr_T} {ad ad' : Nat → Nat} {k : Nat × Nat} {c c' : Nat} (h1 : ∀ d, d ∈ pr_sh k.1 → d ≠ 0 → ad (c + d) = ad' (c' + d)) (h2 : 12 ≤ k.1 → ∀ i, i < 5 → ad (c + 3 + 9 * i) = ad' (c' + 3 + 9 * i)) : pr_cg T ad k c = pr_cg T ad' k c' := by
  unfold pr_cg
  by_cases e1 : k.1 < 10
  · rw [if_pos e1, if_pos e1, fs_g _ _ h1]
  · rw [if_neg e1, if_neg e1]
    by_cases e2 : k.1 = 10
    · rw [if_pos e2, if_pos e2]
    · rw [if_neg e2, if_neg e2]
      by_cases e3 : k.1 = 11
      · rw [if_pos e3, if_pos e3]
      · rw [if_neg e3, if_neg e3]
        have : (fun i => if i < 5 then some (ad (c + 3 + 9 * i)) else none) = (fun i => if i < 5 then some (ad' (c' + 3 + 9 * i)) else none) := by
          funext i
          by_cases e : i < 5
          · rw [if_pos e, if_pos e, h2 (by omega) i e]
          · rw [if_neg e, if_neg e]
        rw [this]
theorem mg_len {T : pr_T} {L : List (Nat × Nat)} {ad : Nat → Nat} : (pr_mg T L ad).length = L.length := by
  unfold pr_mg
  rw [List.length_map, List.length_range]
theorem mg_at {T : pr_T} {L : List (Nat × Nat)} {ad : Nat → Nat} {c : Nat} (h : c < L.length) : (pr_mg T L ad)[c]? = some (ad c, pr_cg T ad (L.getD c (0, 0)) c) := by
  unfold pr_mg
  rw [List.getElem?_map, List.getElem?_range h]
  rfl
theorem mg_app {T : pr_T} {L1 L2 : List (Nat × Nat)} {a1 a2 : Nat → Nat} (h : pr_cl L1) : pr_mg T L1 a1 ++ pr_mg T L2 a2 = pr_mg T (L1 ++ L2) (pr_gl L1.length a1 a2) := by
  apply List.ext_getElem?
  intro i
  by_cases hi : i < L1.length
  · rw [List.getElem?_append_left (by rw [mg_len]; exact hi), mg_at hi, mg_at (by rw [List.length_append]; omega), gl_1 hi]
    have e : (L1 ++ L2).getD i (0, 0) = L1.getD i (0, 0) := by
      rw [List.getD_eq_getElem?_getD, List.getD_eq_getElem?_getD, List.getElem?_append_left hi]
    rw [e]
    obtain ⟨h1, h2⟩ := h i hi
    rw [cg_g (T := T) (ad := a1) (ad' := pr_gl L1.length a1 a2) (c := i) (c' := i) (fun d hd h0 => (gl_1 (h1 d hd h0)).symm) (fun h12 j hj => (gl_1 (by have := h2 h12; omega)).symm)]
  · by_cases hi2 : i < L1.length + L2.length
    · obtain ⟨j, rfl⟩ : ∃ j, i = L1.length + j := ⟨i - L1.length, by omega⟩
      have hj : j < L2.length := by omega
      rw [List.getElem?_append_right (by rw [mg_len]; omega), mg_len, Nat.add_sub_cancel_left, mg_at hj, mg_at (by rw [List.length_append]; omega), gl_2]
      have e : (L1 ++ L2).getD (L1.length + j) (0, 0) = L2.getD j (0, 0) := by
        rw [List.getD_eq_getElem?_getD, List.getD_eq_getElem?_getD, List.getElem?_append_right (by omega), Nat.add_sub_cancel_left]
      rw [e, cg_g (T := T) (ad := a2) (ad' := pr_gl L1.length a1 a2) (c := j) (c' := L1.length + j) (fun d hd h0 => by rw [Nat.add_assoc, gl_2]) (fun h12 q hq => by rw [show L1.length + j + 3 + 9 * q = L1.length + (j + 3 + 9 * q) by omega, gl_2])]
    · rw [List.getElem?_eq_none (by rw [List.length_append, mg_len, mg_len]; omega), List.getElem?_eq_none (by rw [mg_len, List.length_append]; omega)]
/-- an object and the block of its parts -/
theorem mg_cons {T : pr_T} {L : List (Nat × Nat)} {ad : Nat → Nat} {o K z : Nat} {fs : List Value} (hK : K < 10) (hf : fs = pr_fs (pr_gl 1 (fun _ => o) ad) pr_f0 0 0 (pr_sh K)) : (o, .inr (K, fs)) :: pr_mg T L ad = pr_mg T ((K, z) :: L) (pr_gl 1 (fun _ => o) ad) := by
  apply List.ext_getElem?
  intro i
  cases i with
  | zero =>
    rw [mg_at (by rw [List.length_cons]; omega), gl_1 (by decide)]
    show some _ = some _
    congr 2
    show _ = pr_cg T _ (K, z) 0
    unfold pr_cg
    rw [if_pos hK, hf]
  | succ i =>
    rw [List.getElem?_cons_succ]
    by_cases hi : i < L.length
    · rw [mg_at hi, mg_at (by rw [List.length_cons]; omega)]
      have e : ((K, z) :: L).getD (i + 1) (0, 0) = L.getD i (0, 0) := rfl
      rw [e, Nat.add_comm i 1, gl_2, cg_g (T := T) (ad := ad) (ad' := pr_gl 1 (fun _ => o) ad) (c := i) (c' := 1 + i) (fun d hd h0 => by rw [Nat.add_assoc, gl_2]) (fun h12 q hq => by rw [show 1 + i + 3 + 9 * q = 1 + (i + 3 + 9 * q) by omega, gl_2])]
    · rw [List.getElem?_eq_none (by rw [mg_len]; omega), List.getElem?_eq_none (by rw [mg_len, List.length_cons]; omega)]
/-- a fresh object's values -/
def pr_df (K : Nat) : List Value := (pr_sh K).map fun d => if d = 0 then .int 0 else .null
abbrev pr_EG (l : Launch) (D : va_G) (T : pr_T) (B : Nat) (sc : pr_SC) : pr_E := (l, D, T, [], fun _ => 0, [], B, sc)
def pr_G (E : pr_E) (Y : pr_Y) (Rm : Room) (nL : Nat) (ws : va_W) (k n : Nat) (pc : Nat) (lv : List (Nat × Value)) (st : List Value) : Prop :=
  ∀ (H : Heap) (locs : List Loc) (ls : Array Slot), va_P (pr_D E) pr_CL ws H → va_D (pr_A E) ws → va_S (pr_A E) (pr_ys Y).heap H locs → lv_has ls nL lv →
    W (pr_yp Y) (pr_l E) (pr_ye Y) Rm (pr_ys Y) (pr_ym Y) (pr_ya Y) (pr_yb Y) (pr_yh Y) (pr_yc Y) H locs k n (pr_yQ Y) (F0 (pr_ym Y) pc ls st)
def pr_GP (l : Launch) (D : va_G) (T : pr_T) (B : Nat) (sc : pr_SC) (ws : va_W) (o : Nat) : Array Value → State → Prop := va_Pc [.ref o] (fun U => B ≤ U.heap.size ∧ va_P D pr_CL ws U.heap ∧ va_K D pr_CL (pr_ty T) U ∧ pr_S sc (fun q => B ≤ q) U U.heap ∧ pr_N U ∧ va_AO "PrintRegister$Unit" U)
def pr_GQ (D : va_G) (T : pr_T) (B : Nat) (X : va_W) (o : Nat) (L : List (Nat × Nat)) : Array Value → State → Outcome → State → Prop := fun _ st oc t =>
  oc = .returned none ∧ (∃ ad : Nat → Nat, ad 0 = o ∧ va_P D pr_CL (X ++ pr_mg T L ad) t.heap ∧ va_D (fun q => B ≤ q) (X ++ pr_mg T L ad)) ∧ va_F (fun q => B ≤ q) st t
/-- a constructor's contract: behind the world X stands the fresh object; it leaves X and the block -/
def pr_GM (l : Launch) (D : va_G) (T : pr_T) (B : Nat) (sc : pr_SC) (y : MethodName) (cc : ByteArray) (nL : Nat) (rm : Room) (X : va_W) (o K : Nat) (L : List (Nat × Nat)) (mc ms : Nat) : Prop :=
  va_D (fun q => B ≤ q) (X ++ [(o, .inr (K, pr_df K))]) → Met l y (.code y cc nL none :: pr_AL) rm (pr_GP l D T B sc (X ++ [(o, .inr (K, pr_df K))]) o) (pr_GQ D T B X o L) mc ms (fun q => B ≤ q)
theorem pr_genter {l : Launch} {D : va_G} {T : pr_T} {B : Nat} {sc : pr_SC} {y : MethodName} {cc : ByteArray} {nL : Nat} {rm : Room} {X : va_W} {o K mc ms : Nat} {L : List (Nat × Nat)} (hy : plainName y.cls = true) (hy2 : y.name = "<init>") (hn : 1 ≤ nL)
    (body : ∀ Y : pr_Y, pr_C (pr_EG l D T B sc) Y rm cc y.cls nL (.code y cc nL none) → va_AO "PrintRegister$Unit" (pr_ys Y) → (pr_yh Y).sig.returnType = none → (pr_yh Y).name = "<init>" → pr_yQ Y = MQ (pr_yb Y) (pr_GQ D T B X o L) (pr_ya Y) (pr_ys Y) mc ms (fun q => B ≤ q) → pr_G (pr_EG l D T B sc) Y rm nL (X ++ [(o, .inr (K, pr_df K))]) 0 0 0 [(0, .ref o)] []) : pr_GM l D T B sc y cc nL rm X o K L mc ms := by
  intro hD
  refine Met.ofW (cc := cc) (maxL := nL) (ret := none) hy rfl ?_
  intro p e s m args below meth c s₁ Bo hml hv
  obtain ⟨rfl, hB, hP, hK, hSt, hN, hO⟩ := hv
  have hl := lv_entry ([.ref o]) (n := nL) hn
  rw [lg_entry_eq]
  refine body (p, e, s, m, [Value.ref o].toArray, below, meth, c, 0, 0, MQ below (pr_GQ D T B X o L) [Value.ref o].toArray s mc ms (fun q => B ≤ q))
    ⟨Bo.exec, Bo.bytes, hml, findClass_of_methodNamed Bo.named, atoms_spec (ws := .code y cc nL none :: pr_AL) Bo.pre, Bo.notSynchronized, hK, fun f => ⟨fun i j p q hp => ?_, fun k q hp => ?_⟩, hSt, hN, hB, Nat.zero_le _, Nat.zero_le _⟩ hO
    Bo.returns (by rw [← hy2]; exact (name_of_methodNamed Bo.named Bo.method).1) rfl s.heap [] _ hP hD va_S.rf hl
  · cases i <;> cases hp
  · cases k <;> cases hp
section GR
variable {E : pr_E} {Y : pr_Y} {Rm : Room} {cc : ByteArray} {own : String} {nL : Nat} {c0 : Cond} {ws : va_W} {k n pc : Nat} {lv lv' : List (Nat × Value)} {st : List Value}
theorem g_aload0 (C : pr_C E Y Rm cc own nL c0) {o : Nat} (hd : decode cc pc = .ok (.aload_n 0, 1)) (h0 : lv[0]? = some (0, .ref o)) (kk : pr_G E Y Rm nL ws k n (pc + 1) lv (.ref o :: st)) : pr_G E Y Rm nL ws k n pc lv st := fun H locs ls hP hD hS hl => lv_aload_n C.1 C.2.1 hd rfl (lv_at hl 0 h0) (kk H locs ls hP hD hS hl)
theorem g_iconst (C : pr_C E Y Rm cc own nL c0) {z : Int} {v : Int32} (hd : decode cc pc = .ok (.iconst z, 1)) (hv : Int32.ofInt z = v) (kk : pr_G E Y Rm nL ws k n (pc + 1) lv (.int v :: st)) : pr_G E Y Rm nL ws k n pc lv st := fun H locs ls hP hD hS hl => lv_iconst C.1 C.2.1 hd hv (kk H locs ls hP hD hS hl)
theorem g_bipush (C : pr_C E Y Rm cc own nL c0) {z : Int} {v : Int32} (hd : decode cc pc = .ok (.bipush z, 2)) (hv : (Int8.ofInt z).toInt32 = v) (kk : pr_G E Y Rm nL ws k n (pc + 2) lv (.int v :: st)) : pr_G E Y Rm nL ws k n pc lv st := fun H locs ls hP hD hS hl => lv_bipush C.1 C.2.1 hd hv (kk H locs ls hP hD hS hl)
theorem g_sipush (C : pr_C E Y Rm cc own nL c0) {z : Int} {v : Int32} (hd : decode cc pc = .ok (.sipush z, 3)) (hv : (Int16.ofInt z).toInt32 = v) (kk : pr_G E Y Rm nL ws k n (pc + 3) lv (.int v :: st)) : pr_G E Y Rm nL ws k n pc lv st := fun H locs ls hP hD hS hl => lv_sipush C.1 C.2.1 hd hv (kk H locs ls hP hD hS hl)
theorem g_dup (C : pr_C E Y Rm cc own nL c0) {v : Value} (hd : decode cc pc = .ok (.dup, 1)) (hv : v.category = 1) (kk : pr_G E Y Rm nL ws k n (pc + 1) lv (v :: v :: st)) : pr_G E Y Rm nL ws k n pc lv (v :: st) := fun H locs ls hP hD hS hl => lv_dup C.1 C.2.1 hd hv (kk H locs ls hP hD hS hl)
theorem g_obj (C : pr_C E Y Rm cc own nL c0) {o idx : Nat} (w1 : Cond.methodLink own idx objectInit ∈ pr_AL) (hd : decode cc pc = .ok (.invokespecial idx, 3)) (hf : 1 ≤ Rm.frames) (hlo : (st.map fun v => v.category).sum + 12 ≤ Rm.locals) (kk : pr_G E Y Rm nL ws k n (pc + 3) lv st) : pr_G E Y Rm nL ws k n pc lv (.ref o :: st) := fun H locs ls hP hD hS hl =>
  W.objInit C.1 C.2.1 C.2.2.2.1 (pr_hts C w1) (pr_hts C pr_w2) (pr_hts C pr_w3) rfl (by rw [C.2.2.1]; exact hl.1) rfl hd hf (by show 2 * 0 + _ + 12 ≤ _; omega) (W.eq (g2 := F0 (pr_ym Y) (pc + 3) ls st) rfl (kk H locs ls hP hD hS hl))
theorem g_newai (C : pr_C E Y Rm cc own nL c0) {v : Int32} {N : Nat} (hn : ¬ v < 0) (hN : v.toNatClampNeg = N) (hb : N * 4 ≤ 536870912) (hk : k + 1 ≤ Rm.cells) (hs : n + N ≤ Rm.slots) (hd : decode cc pc = .ok (.newarray .int, 2)) (kk : ∀ q, pr_G E Y Rm nL (ws ++ [(q, .inl ((pr_t E).1, N, .inl (fun _ => 0)))]) (k + 1) (n + N) (pc + 2) lv (.ref q :: st)) : pr_G E Y Rm nL ws k n pc lv (.int v :: st) := fun H locs ls hP hD hS hl =>
  va_newa (atype := .int) (a0 := (N, .inl (fun _ => 0))) C.1 C.2.1 (pr_hts C pr_w20) rfl (pr_K C) hP hD hS (fun q h => Nat.le_trans C.2.2.2.2.2.2.2.2.2.2.1 h) (fun cA => rfl) hn hN hb hk hs hd (fun q cA H1 hK1 hP1 hD1 hS1 => by
    have e1 := (hK1.2 3 (cA, .int) rfl).2
    have e2 := ((pr_K C).2 0 ((pr_t E).1, .int) rfl).2
    have e : cA = (pr_t E).1 := Option.some.inj (e1.symm.trans e2)
    subst e
    exact kk q H1 locs ls hP1 hD1 hS1 hl)
end GR
