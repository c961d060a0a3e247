/-! ===== the first state; the two big constructors are called ===== -/
theorem rr_first {g1 g2 : pr_M} (h1 : F_X3_begin 1 3 pr_f0 = some ((), g1)) (h2 : F_X9_layAll 0 3 pr_f0 = some ((), g2)) : rr g1 g2 := by
  obtain ⟨a', b', e1, e2, r, A, B⟩ := op_begin (n := 3) (p := 1) (by decide) (by decide) pr_f0 pr_f0
  have ha : a' = g1 := by
    have := e1.symm.trans (show F_X3_begin 1 (nI 3) pr_f0 = some ((), g1) from h1)
    cases this
    rfl
  have hb : b' = g2 := by
    have := e2.symm.trans (show F_X9_layAll 0 (nI 3) pr_f0 = some ((), g2) from h2)
    cases this
    rfl
  subst ha
  subst hb
  have A' : ∀ c s, 50 ≤ c → a' c s = 0 := fun c s hc => A c s (by omega)
  have B' : ∀ c k, c ≠ 1 → b' c k = 0 := fun c k hc => B c k hc
  refine ⟨⟨0, Nat.zero_le _, r⟩, ⟨?_, Or.inl (B' _ _ (by decide)), fun e => ?_⟩, ⟨?_, Or.inl (B' _ _ (by decide)), fun e => ?_⟩, 0, Nat.zero_le _, A' _ _ (by decide), B' _ _ (by decide), fun i hi => absurd hi (Nat.not_lt_zero i)⟩
  · rw [A' _ _ (by decide), B' _ _ (by decide)]
  · rw [B' _ _ (by decide)] at e; exact absurd e (by decide)
  · rw [A' _ _ (by decide), B' _ _ (by decide)]
  · rw [B' _ _ (by decide)] at e; exact absurd e (by decide)
section HC
variable {l : Launch} {D : va_G} {T : pr_T} {B : Nat} {Y : pr_Y} {Rm : Room} {cc : ByteArray} {own : String} {nL : Nat} {c0 : Cond} {ws : va_W} {k n pc : Nat} {lv lv' : List (Nat × Value)} {st : List Value}
theorem h_after {X : va_W} {o mc ms : Nat} {L : List (Nat × Nat)} {Fb : pr_M → Option (Unit × pr_M)} {H : Heap} {locs : List Loc} {rest stk : List Value} {ls : Array Slot}
    (hr : va_Run (pr_yp Y) l (pr_ye Y) Rm (pr_ys Y) (pr_ym Y) (pr_ya Y) (pr_yb Y) (pr_yh Y) (pr_yc Y) H locs k n mc ms (F0 (pr_ym Y) pc ls stk) rest (pr_HQ D T B X o L Fb [Value.ref o].toArray) (fun q => B ≤ q))
    (hS : va_S (fun q => B ≤ q) (pr_ys Y).heap H locs) (hl : lv_has ls nL lv) (kk : ∀ (ad : Nat → Nat) (g : pr_M), ad 0 = o → Fb pr_f0 = some ((), g) → (∀ f, va_D (fun q => B ≤ q) (pr_me T L ad f ++ X)) → pr_G (pr_EG l D T B) Y Rm nL (pr_me T L ad g ++ X) (k + mc) (n + ms) (pc + 3) lv rest) :
    W (pr_yp Y) l (pr_ye Y) Rm (pr_ys Y) (pr_ym Y) (pr_ya Y) (pr_yb Y) (pr_yh Y) (pr_yc Y) H locs k n (pr_yQ Y) (F0 (pr_ym Y) pc ls stk) := by
  intro T0 hT X0
  obtain ⟨v, st₀, t, T', L', h0, X', hL, e1, e2, ⟨hv, ⟨ad, g, ha, hg, hP1, hD1⟩, hz, hk⟩, go⟩ := hr T0 hT X0
  cases hv
  rw [h0] at hz hk
  obtain ⟨t2, a1, b1⟩ := kk ad g ha hg hD1 T'.heap (locs ++ L') ls (by rw [e1]; exact hP1) (hD1 g)
    ⟨Nat.le_trans hS.1 (by rw [e1]; exact hz), fun q h1 h2 => by rw [e1, hk q (Nat.lt_of_lt_of_le h1 hS.1) h2]; exact hS.2.1 q h1 h2, fun q hq => by
      rcases List.mem_append.mp hq with h | h
      · exact hS.2.2 q h
      · exact hL q h⟩ hl T' rfl X'
  exact ⟨t2, go t2 a1, b1⟩
theorem h_call (C : pr_C (pr_EG l D T B) Y Rm cc own nL c0) (hO : va_AO "PrintRegister$Unit" (pr_ys Y)) {y : MethodName} {bytes : ByteArray} {maxL idx o K mc ms : Nat} {rm : Room} {X : va_W} {L : List (Nat × Nat)} {Fb : pr_M → Option (Unit × pr_M)} (hM : pr_HM l D T B y bytes maxL rm X o K L Fb mc ms)
    (w1 : Cond.methodLink own idx y ∈ pr_AL) (w2 : Cond.instanceMethod y ∈ pr_AL) (w4 : Cond.initialized y.cls ∈ pr_AL) (w5 : Cond.code y bytes maxL none ∈ pr_AL) (hrc : rm.cells = mc) (hrs : rm.slots = ms) (hy1 : y.name = "<init>")
    (hy : y.cls ≠ "java/lang/invoke/MethodHandle" ∧ y.cls ≠ "java/lang/invoke/VarHandle" ∧ (parseMethodDescriptor y.desc).map (fun d => d.parameters.length) = some 0) (hR : rm.frames + 1 ≤ Rm.frames ∧ 8 + (maxL + 11) + rm.locals ≤ Rm.locals)
    (hk : k + mc ≤ Rm.cells) (hn : n + ms ≤ Rm.slots) (hcat : (st.map fun v => v.category).sum ≤ 8) (hdg : decode cc pc = .ok (.invokespecial idx, 3)) (kk : ∀ (ad : Nat → Nat) (g : pr_M), ad 0 = o → Fb pr_f0 = some ((), g) → (∀ f, va_D (fun q => B ≤ q) (pr_me T L ad f ++ X)) → pr_G (pr_EG l D T B) Y Rm nL (pr_me T L ad g ++ X) (k + mc) (n + ms) (pc + 3) lv st) : pr_G (pr_EG l D T B) Y Rm nL (X ++ [(o, .inr (K, pr_df K))]) k n pc lv (.ref o :: st) := fun H locs ls hP hD hS hl =>
  h_after (va_runI (As := []) (rest := st) (g := F0 (pr_ym Y) pc ls (.ref o :: st)) ⟨C.1, C.2.1, C.2.2.1, C.2.2.2.1, C.2.2.2.2.1⟩ (hM hD) (cwI 0 C.2.2.2.2.1 (pr_goodIn w5) rfl hrc hrs (pr_hts C w4) (pr_hts C w1) (pr_hts C w2) hy1 hy hR) ⟨g_blind, g_pre C hO hP hS⟩ rfl rfl hl.1 rfl (lv_room hcat) hdg ⟨hk, hn⟩) hS hl kk
theorem g_astore_n {E : pr_E} {lv lv' : List (Nat × Value)} (C : pr_C E Y Rm cc own nL c0) {j : Fin 4} {i x : Nat} (hd : decode cc pc = .ok (.astore_n j, 1)) (hi : (j : Nat) = i) (hn : i < nL) (hl : (i, Value.ref x) :: lv.filter (fun q => !(q.1 == i) && !(q.1 + 1 == i && q.2.category == 2)) = lv') (kk : pr_G E Y Rm nL ws k n (pc + 1) lv' st) : pr_G E Y Rm nL ws k n pc lv (.ref x :: st) := fun H locs ls hP hD hS h => lv_astore_n C.1 C.2.1 hd hi h hn hl (fun ls h => kk H locs ls hP hD hS h)
end HC
