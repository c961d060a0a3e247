/-! ===== what holds at the law's entry ===== -/
set_option maxRecDepth 20000 in
theorem tn_in : ∀ w ∈ pr_NW, w ∈ lw_tbl := tb_in [47, 49, 54, 55, 81, 82, 84, 85, 87, 88, 90, 91, 93, 94, 96, 97, 99, 100, 102, 104, 144, 146, 147, 149, 151, 152, 154, 158, 159, 160, 162, 163, 165, 166, 190, 191, 193, 194, 196, 197, 210, 212, 214, 216, 263, 293, 34, 40, 76, 126, 132, 244, 258, 472, 499, 502] (by decide +kernel)
set_option maxRecDepth 20000 in
theorem tn_on : pr_NW.all (fun w => w.onTables) = true := by decide +kernel
theorem n_start {args : Array Value} {s : State} (hts : ∀ w ∈ lw_tbl, w.before args s = true) : pr_N s := fun w hw => va_Nw.of (List.all_eq_true.mp tn_on w hw) (hts w (tn_in w hw))
set_option maxRecDepth 20000 in
theorem s_start {args : Array Value} {s : State} {b L : Nat} {xs : Nat → Int32} (hX : va_X b L xs s s.heap) (hbl : b < s.heap.size) (hts : ∀ w ∈ lw_tbl, w.before args s = true) (hgv : (Jvm.Cond.and given_1 narrow_1).before args s = true) : pr_S (b, L, xs) (fun q => s.heap.size ≤ q) s s.heap := by
  have hs := flat_of_before _ hgv
  have hA : ∀ a : Nat, a < s.heap.size → ¬ (fun q => s.heap.size ≤ q) a := fun a h => Nat.not_le.mpr h
  have one : ∀ (n : String) (N : Nat) (xs : List Int32), N < 2 ^ 31 → Cond.laysStatic "PrintRegister" n "[I" ∈ lw_tbl → Cond.arrayOf (.static "PrintRegister" n "[I") .int ∈ flatC (Jvm.Cond.and given_1 narrow_1) → Cond.eq (.length (.static "PrintRegister" n "[I")) (.int (Int32.ofNat N)) ∈ flatC (Jvm.Cond.and given_1 narrow_1) → (∀ j, j < N → Cond.eq (.elem (.static "PrintRegister" n "[I") (.int (Int32.ofNat j))) (.int (xs.getD j 0)) ∈ flatC (Jvm.Cond.and given_1 narrow_1)) → ∃ t : Nat, va_Z "PrintRegister" n "[I" (.ref t) (fun q => s.heap.size ≤ q) s s.heap ∧ va_T .int t N (fun j => .int (xs.getD j 0)) (fun q => s.heap.size ≤ q) s s.heap := by
    intro n N xs hN h1 h2 h3 h4
    obtain ⟨t, e, hT⟩ := va_Tof (A := fun q => s.heap.size ≤ q) (f := fun j => .int (xs.getD j 0)) hN (hs _ h2) (va_eqt (hs _ h3)) (fun j hj => va_eqt (hs _ (h4 j hj))) hA
    exact ⟨t, va_Zof (hts _ h1) (hts (.initialized RX8) (tb_all _ pr_w17)) e hA, hT⟩
  refine ⟨?_, ?_⟩
  rotate_left
  · obtain ⟨scr, x1, x2, x3, x4, x5⟩ := hX
    exact ⟨scr, x1, x2, x3, Nat.le_of_eq x4.symm, by rw [x4], x5, hA b hbl⟩
  intro q hq
  rcases List.mem_cons.mp hq with rfl | hq
  · exact one "LEAST_SETTINGS" 11 pr_x0 (by decide) (List.mem_of_getElem? (i := 603) (by decide +kernel)) (by decide +kernel) (by decide +kernel) (by decide +kernel)
  rcases List.mem_cons.mp hq with rfl | hq
  · exact one "GREATEST_SETTINGS" 11 pr_x1 (by decide) (List.mem_of_getElem? (i := 605) (by decide +kernel)) (by decide +kernel) (by decide +kernel) (by decide +kernel)
  rcases List.mem_cons.mp hq with rfl | hq
  · exact one "FIRST_SETTINGS" 11 pr_x2 (by decide) (List.mem_of_getElem? (i := 294) (by decide +kernel)) (by decide +kernel) (by decide +kernel) (by decide +kernel)
  rcases List.mem_cons.mp hq with rfl | hq
  · exact one "MOST_BY_HAND" 3 pr_x3 (by decide) (List.mem_of_getElem? (i := 618) (by decide +kernel)) (by decide +kernel) (by decide +kernel) (by decide +kernel)
  cases hq
theorem k_start {args : Array Value} {s : State} (hts : ∀ w ∈ lw_tbl, w.before args s = true) (hO : (Cond.arrayOver (.object "PrintRegister$Unit")).before args s = true) : ∃ (D : va_G) (T : pr_T), va_K D pr_CL (pr_ty T) s := by
  obtain ⟨c0, i0, k0⟩ := u_known (C := RX0) (T := TX0) (N := 9) (n := 9) hts tb_11 (hts (.instantiable RX0 9) (tb_all _ pr_w67))
  obtain ⟨c1, i1, k1⟩ := u_known (C := RX1) (T := TX1) (N := 2) (n := 2) hts tb_12 (hts (.instantiable RX1 2) (tb_all _ pr_w57))
  obtain ⟨c2, i2, k2⟩ := u_known (C := RX2) (T := TX2) (N := 10) (n := 10) hts tb_13 (hts (.instantiable RX2 10) (tb_all _ pr_w263))
  obtain ⟨c3, i3, k3⟩ := u_known (C := RX3) (T := TX3) (N := 10) (n := 10) hts tb_14 (hts (.instantiable RX3 10) (tb_all _ pr_w247))
  obtain ⟨c4, i4, k4⟩ := u_known (C := RX4) (T := TX4) (N := 8) (n := 8) hts tb_15 (hts (.instantiable RX4 8) (tb_all _ pr_w63))
  obtain ⟨c5, i5, k5⟩ := u_known (C := RX5) (T := TX5) (N := 10) (n := 10) hts tb_16 (hts (.instantiable RX5 10) (tb_all _ pr_w71))
  obtain ⟨c6, i6, k6⟩ := u_known (C := RX6) (T := TX6) (N := 2) (n := 2) hts tb_17 (hts (.instantiable RX6 2) (tb_all _ pr_w258))
  obtain ⟨c7, i7, k7⟩ := u_known (C := RX7) (T := TX7) (N := 4) (n := 4) hts tb_18 (hts (.instantiable RX7 4) (tb_all _ pr_w83))
  obtain ⟨c8, i8, k8⟩ := u_known (C := RX8) (T := TX8) (N := 5) (n := 5) hts tb_19 (hts (.instantiable RX8 5) (tb_all _ pr_w388))
  obtain ⟨a0, x0, y0, f0, g0, h0⟩ := Cond.arrayClass_spec (hts (.arrayClass .int) (tb_all _ pr_w20))
  obtain ⟨y2, a2, x2, e2, -, g2, h2, f2⟩ := Cond.arrayOver_spec hO
  refine ⟨(fun k => match k with | 0 => c0 | 1 => c1 | 2 => c2 | 3 => c3 | 4 => c4 | 5 => c5 | 6 => c6 | 7 => c7 | _ => c8, fun k => match k with | 0 => i0 | 1 => i1 | 2 => i2 | 3 => i3 | 4 => i4 | 5 => i5 | 6 => i6 | 7 => i7 | _ => i8), (a0, a0, a2), fun k q hq => ?_, fun k q hq => ?_⟩
  · match k, hq with
    | 0, hq => cases hq; exact k0
    | 1, hq => cases hq; exact k1
    | 2, hq => cases hq; exact k2
    | 3, hq => cases hq; exact k3
    | 4, hq => cases hq; exact k4
    | 5, hq => cases hq; exact k5
    | 6, hq => cases hq; exact k6
    | 7, hq => cases hq; exact k7
    | 8, hq => cases hq; exact k8
    | k + 9, hq => simp [pr_CL] at hq
  · match k, hq with
    | 0, hq => cases hq; exact ⟨fun n z => ⟨(fun k h => by cases h), x0, g0, y0, h0⟩, f0⟩
    | 1, hq => cases hq; exact ⟨fun n z => ⟨(fun k h => by cases h), x0, g0, y0, h0⟩, f0⟩
    | 2, hq => cases hq; exact ⟨fun n z => ⟨(fun k h => by cases h), x2, g2, y2, h2⟩, x2, y2, g2, h2, e2, f2⟩
    | k + 3, hq => simp [pr_ty] at hq
