/-! ===== one flat memory for a fixed set of cells: places, pictures, judgement ===== -/
abbrev pr_M : Type := Nat → Nat → Int32
/-- one number of one cell -/
def pr_up (f : pr_M) (c j : Nat) (v : Int32) : pr_M := fun a b => if a = c ∧ b = j then v else f a b
/-- a whole row of one cell -/
def pr_rw (f : pr_M) (c : Nat) (g : Nat → Int32) : pr_M := fun a b => if a = c then g b else f a b
theorem pr_up_ne {f : pr_M} {c j a : Nat} {v : Int32} (h : a ≠ c) : pr_up f c j v a = f a := by
  funext b; simp [pr_up, h]
theorem pr_rw_ne {f : pr_M} {c a : Nat} {g : Nat → Int32} (h : a ≠ c) : pr_rw f c g a = f a := by
  funext b; simp [pr_rw, h]
theorem pr_rw_eq {f : pr_M} {c : Nat} {g : Nat → Int32} : pr_rw f c g c = g := by
  funext b; simp [pr_rw]
theorem pr_up_eq {f : pr_M} {c j : Nat} {v : Int32} : pr_up f c j v c = upd (f c) j v := by
  funext b; by_cases h : b = j <;> simp [pr_up, upd, h]
abbrev pr_CL : List vw_C := [(RX0, TX0, 9), (RX1, TX1, 2), (RX2, TX2, 10), (RX3, TX3, 10), (RX4, TX4, 8), (RX5, TX5, 10), (RX6, TX6, 2), (RX7, TX7, 4), (RX8, TX8, 5)]
/-- what a class's slots hold: 0 a number, d a reference to the cell d places on -/
def pr_sh : Nat → List Nat
  | 0 => [0, 0, 0, 0, 0, 0, 0, 0, 0]
  | 1 => [1, 0]
  | 2 => [1, 0, 0, 0, 0, 0, 0, 0, 0, 0]
  | 3 => [1, 2, 3, 0, 0, 0, 0, 0, 0, 0]
  | 4 => [1, 2, 0, 0, 0, 0, 0, 0]
  | 5 => [1, 0, 0, 0, 0, 0, 0, 0, 0, 0]
  | 6 => [1, 0]
  | 7 => [1, 2, 5, 6]
  | 8 => [1, 50, 99, 149, 199]
  | _ => []
def pr_fv (ad : Nat → Nat) (f : pr_M) (c j d : Nat) : Value := if d = 0 then .int (f c j) else .ref (ad (c + d))
def pr_fs (ad : Nat → Nat) (f : pr_M) (c : Nat) : Nat → List Nat → List Value
  | _, [] => []
  | j, d :: ds => pr_fv ad f c j d :: pr_fs ad f c (j + 1) ds
theorem pr_fs_len (ad : Nat → Nat) (f : pr_M) (c : Nat) : ∀ (ds : List Nat) (j : Nat), (pr_fs ad f c j ds).length = ds.length
  | [], _ => rfl
  | _ :: ds, j => by simp [pr_fs, pr_fs_len ad f c ds (j + 1)]
theorem pr_fs_get (ad : Nat → Nat) (f : pr_M) (c : Nat) : ∀ (ds : List Nat) (j k d : Nat), ds[k]? = some d → (pr_fs ad f c j ds)[k]? = some (pr_fv ad f c (j + k) d)
  | [], _, _, _, h => by simp at h
  | d0 :: ds, j, 0, d, h => by
    simp at h
    subst h
    simp [pr_fs]
  | d0 :: ds, j, k + 1, d, h => by
    have h1 := pr_fs_get ad f c ds (j + 1) k d (by simpa using h)
    simp only [pr_fs, List.getElem?_cons_succ, h1]
    rw [show j + 1 + k = j + (k + 1) by omega]
theorem pr_fs_same (ad : Nat → Nat) (f g : pr_M) (c : Nat) : ∀ (ds : List Nat) (j : Nat), (∀ k, j ≤ k → g c k = f c k) → pr_fs ad g c j ds = pr_fs ad f c j ds
  | [], _, _ => rfl
  | d :: ds, j, h => by
    have h1 := pr_fs_same ad f g c ds (j + 1) (fun k hk => h k (by omega))
    simp only [pr_fs, pr_fv, h j (Nat.le_refl j), h1]
theorem pr_fs_set (ad : Nat → Nat) (f : pr_M) (c : Nat) (v : Int32) : ∀ (ds : List Nat) (j k : Nat), ds[k]? = some 0 → (pr_fs ad f c j ds).set k (.int v) = pr_fs ad (pr_up f c (j + k) v) c j ds
  | [], _, _, h => by simp at h
  | d0 :: ds, j, 0, h => by
    simp at h
    subst h
    have h1 := pr_fs_same ad f (pr_up f c (j + 0) v) c ds (j + 1) (fun k hk => by simp [pr_up]; omega)
    simp only [pr_fs, List.set_cons_zero, h1]
    simp [pr_fv, pr_up]
  | d0 :: ds, j, k + 1, h => by
    have h1 := pr_fs_set ad f c v ds (j + 1) k (by simpa using h)
    rw [show j + 1 + k = j + (k + 1) by omega] at h1
    simp only [pr_fs, List.set_cons_succ, h1]
    congr 1
    have hne : ¬ j = j + (k + 1) := by omega
    simp only [pr_fv, pr_up, hne, and_false, if_false]
/-- the classes of the three kinds of arrays -/
abbrev pr_T : Type := ClassId × ClassId × ClassId
def pr_ce (T : pr_T) (ad : Nat → Nat) (f : pr_M) (k : Nat × Nat) (c : Nat) : va_E :=
  if k.1 < 10 then .inr (k.1, pr_fs ad f c 0 (pr_sh k.1))
  else if k.1 = 10 then .inl (T.1, k.2, .inl (f c))
  else if k.1 = 11 then .inl (T.2.1, k.2, .inl (f c))
  else .inl (T.2.2, k.2, .inr (.inr (.inr (.inr (fun i => some (ad (c + 3 + 9 * i)))))))
theorem pr_ce_same (T : pr_T) (ad : Nat → Nat) {f g : pr_M} (k : Nat × Nat) {c : Nat} (h : g c = f c) : pr_ce T ad g k c = pr_ce T ad f k c := by
  have h1 := pr_fs_same ad f g c (pr_sh k.1) 0 (fun k _ => by rw [h])
  simp only [pr_ce, h, h1]
def pr_me (T : pr_T) (L : List (Nat × Nat)) (ad : Nat → Nat) (f : pr_M) : va_W := (List.range L.length).map (fun c => (ad c, pr_ce T ad f (L.getD c (0, 0)) c))
theorem pr_me_at {T : pr_T} {L : List (Nat × Nat)} {ad : Nat → Nat} {f : pr_M} {R : va_W} {c : Nat} {k : Nat × Nat} (h : L[c]? = some k) : (pr_me T L ad f ++ R)[c]? = some (ad c, pr_ce T ad f k c) := by
  have hl : c < L.length := (List.getElem?_eq_some_iff.mp h).1
  rw [List.getElem?_append_left (by simpa [pr_me] using hl)]
  simp [pr_me, List.getElem?_range hl, List.getD_eq_getElem?_getD, h]
theorem pr_me_set {T : pr_T} {L : List (Nat × Nat)} {ad : Nat → Nat} {f g : pr_M} {R : va_W} {c : Nat} {k : Nat × Nat} (h : L[c]? = some k) (hg : ∀ a, a ≠ c → g a = f a) : (pr_me T L ad f ++ R).set c (ad c, pr_ce T ad g k c) = pr_me T L ad g ++ R := by
  have hl : c < L.length := (List.getElem?_eq_some_iff.mp h).1
  have hlen : c < (pr_me T L ad f ++ R).length := by simp [pr_me]; omega
  apply List.ext_getElem?
  intro i
  by_cases hi : i = c
  · subst hi
    rw [List.getElem?_set_self hlen, pr_me_at h]
  · rw [List.getElem?_set_ne (Ne.symm hi)]
    by_cases hil : i < L.length
    · rw [List.getElem?_append_left (by simpa [pr_me] using hil), List.getElem?_append_left (by simpa [pr_me] using hil)]
      simp [pr_me, List.getElem?_range hil, pr_ce_same T ad _ (hg i hi)]
    · rw [List.getElem?_append_right (by simp [pr_me]; omega), List.getElem?_append_right (by simp [pr_me]; omega)]
      simp [pr_me]
/-- the script: where it lies, how long it is, its ints -/
abbrev pr_SC : Type := Nat × Nat × (Nat → Int32)
/-- what stays through a walk: launch, classes, layout, addresses, the other cells, the border of the old heap, the script -/
abbrev pr_E : Type := Launch × va_G × pr_T × List (Nat × Nat) × (Nat → Nat) × va_W × Nat × pr_SC
abbrev pr_l (E : pr_E) : Launch := E.1
abbrev pr_D (E : pr_E) : va_G := E.2.1
abbrev pr_t (E : pr_E) : pr_T := E.2.2.1
abbrev pr_L (E : pr_E) : List (Nat × Nat) := E.2.2.2.1
abbrev pr_ad (E : pr_E) : Nat → Nat := E.2.2.2.2.1
abbrev pr_R (E : pr_E) : va_W := E.2.2.2.2.2.1
abbrev pr_B (E : pr_E) : Nat := E.2.2.2.2.2.2.1
abbrev pr_sc (E : pr_E) : pr_SC := E.2.2.2.2.2.2.2
abbrev pr_A (E : pr_E) : Nat → Prop := fun q => pr_B E ≤ q
abbrev pr_m (E : pr_E) (f : pr_M) : va_W := pr_me (pr_t E) (pr_L E) (pr_ad E) f ++ pr_R E
/-- the frame that is walked -/
abbrev pr_Y : Type := Program × Env × State × MethodId × Array Value × List Frame × Method × Code × Nat × Nat × (State → Prop)
abbrev pr_yp (Y : pr_Y) : Program := Y.1
abbrev pr_ye (Y : pr_Y) : Env := Y.2.1
abbrev pr_ys (Y : pr_Y) : State := Y.2.2.1
abbrev pr_ym (Y : pr_Y) : MethodId := Y.2.2.2.1
abbrev pr_ya (Y : pr_Y) : Array Value := Y.2.2.2.2.1
abbrev pr_yb (Y : pr_Y) : List Frame := Y.2.2.2.2.2.1
abbrev pr_yh (Y : pr_Y) : Method := Y.2.2.2.2.2.2.1
abbrev pr_yc (Y : pr_Y) : Code := Y.2.2.2.2.2.2.2.1
abbrev pr_yk (Y : pr_Y) : Nat := Y.2.2.2.2.2.2.2.2.1
abbrev pr_yn (Y : pr_Y) : Nat := Y.2.2.2.2.2.2.2.2.2.1
abbrev pr_yQ (Y : pr_Y) : State → Prop := Y.2.2.2.2.2.2.2.2.2.2
abbrev pr_ty (T : pr_T) : List (ClassId × FieldType) := [(T.1, .int), (T.1, .int), (T.2.2, .object "PrintRegister$Unit")]
/-- the tables of the class that nobody writes -/
def pr_x0 : List Int32 := [1, 1, 5, 1, 0, 0, 0, 1, 0, 0, -500]
def pr_x1 : List Int32 := [20, 10, 2000, 20, 256, 256, 500, 2000, 256, 30, 500]
def pr_x2 : List Int32 := [5, 3, 200, 4, 128, 16, 5, 300, 64, 8, 0]
def pr_x3 : List Int32 := [5000, 3000, 2000]
def pr_ST : List (String × Nat × List Int32) := [("LEAST_SETTINGS", 11, pr_x0), ("GREATEST_SETTINGS", 11, pr_x1), ("FIRST_SETTINGS", 11, pr_x2), ("MOST_BY_HAND", 3, pr_x3)]
def pr_S (sc : pr_SC) (A : Nat → Prop) (U : State) (H : Heap) : Prop := (∀ q ∈ pr_ST, ∃ t : Nat, va_Z "PrintRegister" q.1 "[I" (.ref t) A U H ∧ va_T .int t q.2.1 (fun j => .int (q.2.2.getD j 0)) A U H) ∧ va_T .int sc.1 sc.2.1 (fun j => .int (sc.2.2 j)) A U H
theorem pr_S.moved {sc : pr_SC} {A : Nat → Prop} {u U : State} {H : Heap} (hvm : u.vm.Alike U.vm) (h : pr_S sc A u H) : pr_S sc A U H := ⟨fun q hq => by
  obtain ⟨t, h1, h2⟩ := h.1 q hq
  exact ⟨t, h1.moved hvm, h2.moved hvm⟩, h.2.moved hvm⟩
theorem pr_S.kept {sc : pr_SC} {A : Nat → Prop} {U : State} {H H1 : Heap} (h : pr_S sc A U H) (hq : ∀ a : Nat, a < H.size → ¬ A a → H1[a]? = H[a]?) : pr_S sc A U H1 := ⟨fun q hm => by
  obtain ⟨t, h1, h2⟩ := h.1 q hm
  exact ⟨t, h1.kept hq, h2.kept hq⟩, h.2.kept hq⟩
def pr_N (U : State) : Prop := ∀ w ∈ pr_NW, va_Nw w U
theorem pr_N.warm {s U : State} (hW : s.WarmedH U.vm) (h : pr_N s) : pr_N U := by
  intro w hw
  have h1 := h w hw
  rcases List.mem_append.mp hw with a | a
  · obtain ⟨q, -, rfl⟩ := List.mem_map.mp a
    exact va_Nw.warmF hW h1
  · obtain ⟨q, -, rfl⟩ := List.mem_map.mp a
    exact va_Nw.warmM hW h1
theorem pr_N.same {s U : State} (hvm : s.vm = U.vm) (h : pr_N s) : pr_N U := by
  intro w hw
  have h1 := h w hw
  rcases List.mem_append.mp hw with a | a
  · obtain ⟨q, -, rfl⟩ := List.mem_map.mp a
    exact va_Nw.same rfl hvm h1
  · obtain ⟨q, -, rfl⟩ := List.mem_map.mp a
    exact va_Nw.same rfl hvm h1
theorem pr_AL_good : pr_AL.all goodWord = true := by decide +kernel
theorem pr_goodIn {c0 w : Cond} (h : w ∈ pr_AL) : GoodIn (c0 :: pr_AL) (w :: pr_AL) := fun x hx => by
  have hm : x ∈ pr_AL := by
    rcases List.mem_cons.mp hx with e | e
    · rw [e]; exact h
    · exact e
  exact ⟨List.mem_cons_of_mem _ hm, good_of_word (List.all_eq_true.mp pr_AL_good x hm)⟩
/-- what holds of a frame throughout -/
def pr_C (E : pr_E) (Y : pr_Y) (Rm : Room) (cc : ByteArray) (own : String) (nL : Nat) (c0 : Cond) : Prop :=
  (pr_yp Y).tables.exec = Jvm.exec ∧ (pr_yc Y).code = cc ∧ (pr_yc Y).maxLocals = nL ∧ (pr_ys Y).vm.findClass own = some (pr_ym Y).cls ∧ (∀ w ∈ c0 :: pr_AL, w.before (pr_ya Y) (pr_ys Y) = true) ∧
  (pr_yh Y).locks = false ∧ va_K (pr_D E) pr_CL (pr_ty (pr_t E)) (pr_ys Y) ∧ (∀ f, va_D (pr_A E) (pr_m E f)) ∧ pr_S (pr_sc E) (pr_A E) (pr_ys Y) (pr_ys Y).heap ∧ pr_N (pr_ys Y) ∧ pr_B E ≤ (pr_ys Y).heap.size ∧ pr_yk Y ≤ Rm.cells ∧ pr_yn Y ≤ Rm.slots
def pr_W (E : pr_E) (Y : pr_Y) (Rm : Room) (nL : Nat) (f : pr_M) (pc : Nat) (lv : List (Nat × Value)) (st : List Value) : Prop :=
  ∀ (H : Heap) (locs : List Loc) (ls : Array Slot), va_P (pr_D E) pr_CL (pr_m E f) H → va_S (pr_A E) (pr_ys Y).heap H locs → lv_has ls nL lv →
    W (pr_yp Y) (pr_l E) (pr_ye Y) Rm (pr_ys Y) (pr_ym Y) (pr_ya Y) (pr_yb Y) (pr_yh Y) (pr_yc Y) H locs (pr_yk Y) (pr_yn Y) (pr_yQ Y) (F0 (pr_ym Y) pc ls st)
def pr_Po (E : pr_E) (r : Option Value) (f : pr_M) : Array Value → State → Outcome → State → Prop := fun _ st o t => o = .returned r ∧ va_P (pr_D E) pr_CL (pr_m E f) t.heap ∧ va_F (pr_A E) st t
def pr_Pr (E : pr_E) (av : List Value) (f : pr_M) : Array Value → State → Prop := va_Pc av (fun U => pr_B E ≤ U.heap.size ∧ va_P (pr_D E) pr_CL (pr_m E f) U.heap ∧ va_K (pr_D E) pr_CL (pr_ty (pr_t E)) U ∧ pr_S (pr_sc E) (pr_A E) U U.heap ∧ pr_N U)
/-- a method's contract: from memory f it returns r and leaves memory g -/
def pr_Met (E : pr_E) (y : MethodName) (cc : ByteArray) (nL : Nat) (ret : Option FieldType) (rm : Room) (av : List Value) (f : pr_M) (r : Option Value) (g : pr_M) : Prop :=
  (∀ f, va_D (pr_A E) (pr_m E f)) → Met (pr_l E) y (.code y cc nL ret :: pr_AL) rm (pr_Pr E av f) (pr_Po E r g) 0 0 (pr_A E)
def pr_Z (E : pr_E) (Y : pr_Y) (ret : Option FieldType) (r : Option Value) (f : pr_M) : Prop :=
  (pr_yh Y).sig.returnType = ret ∧ pr_yQ Y = MQ (pr_yb Y) (pr_Po E r f) (pr_ya Y) (pr_ys Y) (pr_yk Y) (pr_yn Y) (pr_A E)
/-- a method's walk, from its entry -/
theorem pr_enter {E : pr_E} {y : MethodName} {cc : ByteArray} {nL : Nat} {ret : Option FieldType} {rm : Room} {av : List Value} {f : pr_M} {r : Option Value} {g : pr_M}
    (hy : plainName y.cls = true) (hn : (lg_sl av).length ≤ nL)
    (body : ∀ Y : pr_Y, pr_C E Y rm cc y.cls nL (.code y cc nL ret) → pr_Z E Y ret r g → pr_W E Y rm nL f 0 (lv_args 0 av) []) : pr_Met E y cc nL ret rm av f r g := by
  intro hD
  refine Met.ofW (cc := cc) (maxL := nL) (ret := ret) hy rfl ?_
  intro p e s m args below meth c s₁ B hml hv
  obtain ⟨rfl, hB, hP, hK, hSt, hN⟩ := hv
  have hl := lv_entry av hn
  rw [lg_entry_eq]
  exact body (p, e, s, m, av.toArray, below, meth, c, 0, 0, MQ below (pr_Po E r g) av.toArray s 0 0 (pr_A E))
    ⟨B.exec, B.bytes, hml, findClass_of_methodNamed B.named, atoms_spec (ws := .code y cc nL ret :: pr_AL) B.pre, B.notSynchronized, hK, hD, hSt, hN, hB, Nat.zero_le _, Nat.zero_le _⟩
    ⟨B.returns, rfl⟩ s.heap [] _ hP va_S.rf hl
