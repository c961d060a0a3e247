/-! ===== a constructor's steps ===== -/
theorem hA_of {E : pr_E} {Y : pr_Y} {Rm : Room} {cc : ByteArray} {own : String} {nL : Nat} {c0 : Cond} (C : pr_C E Y Rm cc own nL c0) : ∀ q, (pr_ys Y).heap.size ≤ q → pr_A E q := fun q h => Nat.le_trans C.2.2.2.2.2.2.2.2.2.2.1 h
theorem ls_set {α : Type} {X R : List α} {a b : α} : (X ++ a :: R).set X.length b = X ++ b :: R := by
  rw [List.set_append_right _ _ (Nat.le_refl _), Nat.sub_self]
  rfl
theorem ls_at {α : Type} {X R : List α} {a : α} : (X ++ a :: R)[X.length]? = some a := by
  rw [List.getElem?_append_right (Nat.le_refl _), Nat.sub_self]
  rfl
section GM
variable {E : pr_E} {Y : pr_Y} {Rm : Room} {cc : ByteArray} {own : String} {nL : Nat} {c0 : Cond} {ws : va_W} {k n pc : Nat} {lv lv' : List (Nat × Value)} {st : List Value}
theorem g_new (C : pr_C E Y Rm cc own nL c0) {K N idx : Nat} {Cn : String} {T : u_T} {ty : Nat → FieldType} (hcl : pr_CL[K]? = some (Cn, T, N)) (hin : ∀ w ∈ u_ws Cn T N, w ∈ pr_AL) (hty : ∀ j, j < N → parseFieldDescriptor (T j).2.2.1 = some (ty j)) (hfs : ∀ j, j < N → defaultValue (ty j) = vp_V (pr_df K) j)
    (w1 : Cond.classLink own idx Cn ∈ pr_AL) (w2 : Cond.instantiable Cn N ∈ pr_AL) (w3 : Cond.initialized Cn ∈ pr_AL) (hk : k + 1 ≤ Rm.cells) (hs : n + N ≤ Rm.slots) (hd : decode cc pc = .ok (.new idx, 3)) (kk : ∀ q, pr_G E Y Rm nL (ws ++ [(q, .inr (K, pr_df K))]) (k + 1) (n + N) (pc + 3) lv (.ref q :: st)) : pr_G E Y Rm nL ws k n pc lv st := fun H locs ls hP hD hS hl =>
  va_new C.1 C.2.1 (Ts := pr_AL) (fun w h => pr_hts C h) hin ty hty C.2.2.2.1 (pr_hts C w1) (pr_hts C w2) (pr_hts C w3) (pr_K C) hP hD hS (hA_of C) hcl hfs hk hs hd (fun q H1 hP1 hD1 hS1 => kk q H1 locs ls hP1 hD1 hS1 hl)
theorem g_putF (C : pr_C E Y Rm cc own nL c0) {X R : va_W} {o q K N idx j : Nat} {fs : List Value} {T : u_T} {tyf : Nat → FieldType} {ty : FieldType} (hcl : pr_CL[K]? = some (own, T, N)) (hin : ∀ w ∈ u_ws own T N, w ∈ pr_AL) (hty : ∀ j, j < N → parseFieldDescriptor (T j).2.2.1 = some (tyf j)) (hnm : ∀ a, a < N → ∀ b, b < N → a ≠ b → (T a).2.1 ≠ (T b).2.1) (hj : j < N) (w1 : Cond.fieldLink own idx own (T j).2.1 (T j).2.2.1 ∈ pr_AL)
    (h0 : (T j).1 = own) (hfin : (T j).2.2.2 = true) (hnam : (pr_yh Y).name = "<init>") (hp : parseFieldDescriptor (T j).2.2.1 = some ty) (hn : narrow ty (.ref q) = .ref q) (hf : fits ty (.ref q) = true) (hl : j < fs.length) (hd : decode cc pc = .ok (.putfield idx, 3))
    (kk : pr_G E Y Rm nL (X ++ (o, .inr (K, fs.set j (.ref q))) :: R) k n (pc + 3) lv st) : pr_G E Y Rm nL (X ++ (o, .inr (K, fs)) :: R) k n pc lv (.ref q :: .ref o :: st) := fun H locs ls hP hD hS hl' =>
  va_putF C.1 C.2.1 (Ts := pr_AL) (fun w h => pr_hts C h) hin tyf hty hnm C.2.2.2.1 (pr_K C) hP hD hS X.length ls_at hcl j hj (pr_hts C w1) (fun x hx => by rw [h0] at hx; exact hx) hfin hnam h0 hp hn hf hl hd (fun H1 locs1 hP1 hD1 hS1 => by
    rw [ls_set] at hP1 hD1
    exact kk H1 locs1 ls hP1 hD1 hS1 hl')
end GM
theorem g_blind {l : Launch} {D : va_G} {T : pr_T} {B : Nat} {sc : pr_SC} {ws : va_W} {o : Nat} : FrameBlind (pr_GP l D T B sc ws o) := fun a U g mk q => ⟨q.1, q.2.1, q.2.2.1, va_K.moved (u := U) (U := U.calling g mk a) (Vm.Alike.refl U.vm) q.2.2.2.1, q.2.2.2.2.1.moved (u := U) (U := U.calling g mk a) (Vm.Alike.refl U.vm), q.2.2.2.2.2.1.same (s := U) (U := U.calling g mk a) rfl, va_AO.moved (u := U) (U := U.calling g mk a) (Vm.Alike.refl U.vm) q.2.2.2.2.2.2⟩
section GC
variable {l : Launch} {D : va_G} {T : pr_T} {B : Nat} {sc : pr_SC} {Y : pr_Y} {Rm : Room} {cc : ByteArray} {own : String} {nL : Nat} {c0 : Cond} {ws : va_W} {k n pc : Nat} {lv lv' : List (Nat × Value)} {st : List Value}
theorem g_pre (C : pr_C (pr_EG l D T B sc) Y Rm cc own nL c0) (hO : va_AO "PrintRegister$Unit" (pr_ys Y)) {o : Nat} {H : Heap} {locs : List Loc} (hP : va_P D pr_CL ws H) (hS : va_S (fun q => B ≤ q) (pr_ys Y).heap H locs) : ∀ U : State, U.heap = H → (pr_ys Y).WarmedH U.vm → pr_GP l D T B sc ws o [Value.ref o].toArray U := fun U hU hW => by
  subst hU
  exact ⟨rfl, Nat.le_trans C.2.2.2.2.2.2.2.2.2.2.1 hS.1, hP, (pr_K C).moved hW.alike, (C.2.2.2.2.2.2.2.2.1.moved hW.alike).kept (fun a h1 h2 => hS.2.1 a h1 h2), C.2.2.2.2.2.2.2.2.2.1.warm hW, hO.moved hW.alike⟩
theorem g_after {X : va_W} {o mc ms : Nat} {L : List (Nat × Nat)} {H : Heap} {locs : List Loc} {rest stk : List Value} {ls : Array Slot}
    (hr : va_Run (pr_yp Y) l (pr_ye Y) Rm (pr_ys Y) (pr_ym Y) (pr_ya Y) (pr_yb Y) (pr_yh Y) (pr_yc Y) H locs k n mc ms (F0 (pr_ym Y) pc ls stk) rest (pr_GQ D T B X o L [Value.ref o].toArray) (fun q => B ≤ q))
    (hS : va_S (fun q => B ≤ q) (pr_ys Y).heap H locs) (hl : lv_has ls nL lv) (kk : ∀ ad : Nat → Nat, ad 0 = o → pr_G (pr_EG l D T B sc) Y Rm nL (X ++ pr_mg T L ad) (k + mc) (n + ms) (pc + 3) lv rest) :
    W (pr_yp Y) l (pr_ye Y) Rm (pr_ys Y) (pr_ym Y) (pr_ya Y) (pr_yb Y) (pr_yh Y) (pr_yc Y) H locs k n (pr_yQ Y) (F0 (pr_ym Y) pc ls stk) := by
  intro T0 hT X0
  obtain ⟨v, st₀, t, T', L', h0, X', hL, e1, e2, ⟨hv, ⟨ad, ha, hP1, hD1⟩, hz, hk⟩, go⟩ := hr T0 hT X0
  cases hv
  rw [h0] at hz hk
  obtain ⟨t2, a1, b1⟩ := kk ad ha T'.heap (locs ++ L') ls (by rw [e1]; exact hP1) hD1
    ⟨Nat.le_trans hS.1 (by rw [e1]; exact hz), fun q h1 h2 => by rw [e1, hk q (Nat.lt_of_lt_of_le h1 hS.1) h2]; exact hS.2.1 q h1 h2, fun q hq => by
      rcases List.mem_append.mp hq with h | h
      · exact hS.2.2 q h
      · exact hL q h⟩ hl T' rfl X'
  exact ⟨t2, go t2 a1, b1⟩
theorem g_call (C : pr_C (pr_EG l D T B sc) Y Rm cc own nL c0) (hO : va_AO "PrintRegister$Unit" (pr_ys Y)) {y : MethodName} {bytes : ByteArray} {maxL idx o K mc ms : Nat} {rm : Room} {X : va_W} {L : List (Nat × Nat)} (hM : pr_GM l D T B sc y bytes maxL rm X o K L mc ms)
    (w1 : Cond.methodLink own idx y ∈ pr_AL) (w2 : Cond.instanceMethod y ∈ pr_AL) (w4 : Cond.initialized y.cls ∈ pr_AL) (w5 : Cond.code y bytes maxL none ∈ pr_AL) (hrc : rm.cells = mc) (hrs : rm.slots = ms) (hy1 : y.name = "<init>")
    (hy : y.cls ≠ "java/lang/invoke/MethodHandle" ∧ y.cls ≠ "java/lang/invoke/VarHandle" ∧ (parseMethodDescriptor y.desc).map (fun d => d.parameters.length) = some 0) (hR : rm.frames + 1 ≤ Rm.frames ∧ 8 + (maxL + 11) + rm.locals ≤ Rm.locals)
    (hk : k + mc ≤ Rm.cells) (hn : n + ms ≤ Rm.slots) (hcat : (st.map fun v => v.category).sum ≤ 8) (hdg : decode cc pc = .ok (.invokespecial idx, 3)) (kk : ∀ ad : Nat → Nat, ad 0 = o → pr_G (pr_EG l D T B sc) Y Rm nL (X ++ pr_mg T L ad) (k + mc) (n + ms) (pc + 3) lv st) : pr_G (pr_EG l D T B sc) Y Rm nL (X ++ [(o, .inr (K, pr_df K))]) k n pc lv (.ref o :: st) := fun H locs ls hP hD hS hl =>
  g_after (va_runI (As := []) (rest := st) (g := F0 (pr_ym Y) pc ls (.ref o :: st)) ⟨C.1, C.2.1, C.2.2.1, C.2.2.2.1, C.2.2.2.2.1⟩ (hM hD) (cwI 0 C.2.2.2.2.1 (pr_goodIn w5) rfl hrc hrs (pr_hts C w4) (pr_hts C w1) (pr_hts C w2) hy1 hy hR) ⟨g_blind, g_pre C hO hP hS⟩ rfl rfl hl.1 rfl (lv_room hcat) hdg ⟨hk, hn⟩) hS hl kk
theorem g_callN (C : pr_C (pr_EG l D T B sc) Y Rm cc own nL c0) (hO : va_AO "PrintRegister$Unit" (pr_ys Y)) {y : MethodName} {bytes : ByteArray} {maxL idx o K mc ms : Nat} {rm : Room} {X : va_W} {L : List (Nat × Nat)} (hM : pr_GM l D T B sc y bytes maxL rm X o K L mc ms)
    (w1 : Cond.methodLinkNest own idx y "PrintRegister" ∈ pr_NW) (w2 : Cond.instanceMethod y ∈ pr_AL) (w4 : Cond.initialized y.cls ∈ pr_AL) (w5 : Cond.code y bytes maxL none ∈ pr_AL) (hrc : rm.cells = mc) (hrs : rm.slots = ms) (hy1 : y.name = "<init>")
    (hy : y.cls ≠ "java/lang/invoke/MethodHandle" ∧ y.cls ≠ "java/lang/invoke/VarHandle" ∧ (parseMethodDescriptor y.desc).map (fun d => d.parameters.length) = some 0) (hR : rm.frames + 1 ≤ Rm.frames ∧ 8 + (maxL + 11) + rm.locals ≤ Rm.locals)
    (hk : k + mc ≤ Rm.cells) (hn : n + ms ≤ Rm.slots) (hcat : (st.map fun v => v.category).sum ≤ 8) (hdg : decode cc pc = .ok (.invokespecial idx, 3)) (kk : ∀ ad : Nat → Nat, ad 0 = o → pr_G (pr_EG l D T B sc) Y Rm nL (X ++ pr_mg T L ad) (k + mc) (n + ms) (pc + 3) lv st) : pr_G (pr_EG l D T B sc) Y Rm nL (X ++ [(o, .inr (K, pr_df K))]) k n pc lv (.ref o :: st) := fun H locs ls hP hD hS hl =>
  g_after (va_runIN (As := []) (rest := st) (g := F0 (pr_ym Y) pc ls (.ref o :: st)) ⟨C.1, C.2.1, C.2.2.1, C.2.2.2.1, C.2.2.2.2.1⟩ (hM hD) ⟨va_cnB 0 C.2.2.2.2.1 (pr_goodIn w5) rfl hrc hrs (pr_nts C w1) (pr_hts C w4) hy hR, hy1, pr_hts C w2⟩ ⟨g_blind, g_pre C hO hP hS⟩ rfl rfl hl.1 rfl (lv_room hcat) hdg ⟨hk, hn⟩) hS hl kk
theorem g_ret (C : pr_C (pr_EG l D T B sc) Y Rm cc own nL c0) {X : va_W} {o : Nat} {L : List (Nat × Nat)} {ad : Nat → Nat} (Z1 : (pr_yh Y).sig.returnType = none) (ZQ : pr_yQ Y = MQ (pr_yb Y) (pr_GQ D T B X o L) (pr_ya Y) (pr_ys Y) k n (fun q => B ≤ q)) (h0 : ad 0 = o) (hd : decode cc pc = .ok (.return_, 1)) : pr_G (pr_EG l D T B sc) Y Rm nL (X ++ pr_mg T L ad) k n pc lv [] := fun H locs ls hP hD hS hl => by
  rw [ZQ]
  exact W.vret C.1 C.2.1 Z1 (fun t ht hW => ⟨rfl, ⟨ad, h0, by rw [ht]; exact hP, hD⟩, hS.F ht⟩) hS.2.2 hd C.2.2.2.2.2.1
end GC
