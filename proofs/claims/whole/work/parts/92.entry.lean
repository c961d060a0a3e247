/-! ===== what holds at the law's entry ===== -/
set_option maxRecDepth 20000 in
theorem tn_in : ∀ w ∈ pr_NW, w ∈ lw_tbl := tb_in [92, 94, 99, 100, 126, 127, 129, 130, 132, 133, 135, 136, 138, 139, 141, 142, 144, 145, 147, 149, 189, 191, 192, 194, 196, 197, 199, 200, 202, 205, 206, 207, 209, 210, 212, 213, 237, 238, 240, 241, 243, 244, 257, 259, 261, 263, 298, 299, 313, 315, 317, 319, 321, 323, 325, 327, 329, 359, 79, 85, 121, 171, 177, 291, 307, 575, 602, 605] (by decide +kernel)
set_option maxRecDepth 20000 in
theorem tn_on : pr_NW.all (fun w => w.onTables) = true := by decide +kernel
theorem n_start {args : Array Value} {s : State} (hts : ∀ w ∈ lw_tbl, w.before args s = true) : pr_N s := fun w hw => va_Nw.of (List.all_eq_true.mp tn_on w hw) (hts w (tn_in w hw))
set_option maxRecDepth 20000 in
theorem s_start {args : Array Value} {s : State} (hts : ∀ w ∈ lw_tbl, w.before args s = true) (hgv : (Jvm.Cond.and given_1 narrow_1).before args s = true) : pr_S (fun q => s.heap.size ≤ q) s s.heap := by
  have hs := flat_of_before _ hgv
  have hA : ∀ a : Nat, a < s.heap.size → ¬ (fun q => s.heap.size ≤ q) a := fun a h => Nat.not_le.mpr h
  have one : ∀ (n : String) (N : Nat) (xs : List Int32), N < 2 ^ 31 → Cond.laysStatic "PrintRegister" n "[I" ∈ lw_tbl → Cond.arrayOf (.static "PrintRegister" n "[I") .int ∈ flatC (Jvm.Cond.and given_1 narrow_1) → Cond.eq (.length (.static "PrintRegister" n "[I")) (.int (Int32.ofNat N)) ∈ flatC (Jvm.Cond.and given_1 narrow_1) → (∀ j, j < N → Cond.eq (.elem (.static "PrintRegister" n "[I") (.int (Int32.ofNat j))) (.int (xs.getD j 0)) ∈ flatC (Jvm.Cond.and given_1 narrow_1)) → ∃ t : Nat, va_Z "PrintRegister" n "[I" (.ref t) (fun q => s.heap.size ≤ q) s s.heap ∧ va_T .int t N (fun j => .int (xs.getD j 0)) (fun q => s.heap.size ≤ q) s s.heap := by
    intro n N xs hN h1 h2 h3 h4
    obtain ⟨t, e, hT⟩ := va_Tof (A := fun q => s.heap.size ≤ q) (f := fun j => .int (xs.getD j 0)) hN (hs _ h2) (va_eqt (hs _ h3)) (fun j hj => va_eqt (hs _ (h4 j hj))) hA
    exact ⟨t, va_Zof (hts _ h1) (hts (.initialized RX8) (tb_all _ pr_w18)) e hA, hT⟩
  intro q hq
  rcases List.mem_cons.mp hq with rfl | hq
  · exact one "LEAST_SETTINGS" 11 pr_x0 (by decide) (List.mem_of_getElem? (i := 418) (by decide +kernel)) (by decide +kernel) (by decide +kernel) (by decide +kernel)
  rcases List.mem_cons.mp hq with rfl | hq
  · exact one "GREATEST_SETTINGS" 11 pr_x1 (by decide) (List.mem_of_getElem? (i := 420) (by decide +kernel)) (by decide +kernel) (by decide +kernel) (by decide +kernel)
  rcases List.mem_cons.mp hq with rfl | hq
  · exact one "FIRST_SETTINGS" 11 pr_x2 (by decide) (List.mem_of_getElem? (i := 360) (by decide +kernel)) (by decide +kernel) (by decide +kernel) (by decide +kernel)
  rcases List.mem_cons.mp hq with rfl | hq
  · exact one "MOST_BY_HAND" 3 pr_x3 (by decide) (List.mem_of_getElem? (i := 442) (by decide +kernel)) (by decide +kernel) (by decide +kernel) (by decide +kernel)
  cases hq
theorem k_start {args : Array Value} {s : State} (hts : ∀ w ∈ lw_tbl, w.before args s = true) (hO : (Cond.arrayOver (.object "PrintRegister$Unit")).before args s = true) : ∃ (D : va_G) (T : pr_T), va_K D pr_CL (pr_ty T) s := by
  obtain ⟨c0, i0, k0⟩ := u_known (C := RX0) (T := TX0) (N := 9) (n := 9) hts tb_22 (hts (.instantiable RX0 9) (tb_all _ pr_w122))
  obtain ⟨c1, i1, k1⟩ := u_known (C := RX1) (T := TX1) (N := 2) (n := 2) hts tb_23 (hts (.instantiable RX1 2) (tb_all _ pr_w112))
  obtain ⟨c2, i2, k2⟩ := u_known (C := RX2) (T := TX2) (N := 10) (n := 10) hts tb_24 (hts (.instantiable RX2 10) (tb_all _ pr_w352))
  obtain ⟨c3, i3, k3⟩ := u_known (C := RX3) (T := TX3) (N := 10) (n := 10) hts tb_25 (hts (.instantiable RX3 10) (tb_all _ pr_w337))
  obtain ⟨c4, i4, k4⟩ := u_known (C := RX4) (T := TX4) (N := 8) (n := 8) hts tb_26 (hts (.instantiable RX4 8) (tb_all _ pr_w118))
  obtain ⟨c5, i5, k5⟩ := u_known (C := RX5) (T := TX5) (N := 10) (n := 10) hts tb_27 (hts (.instantiable RX5 10) (tb_all _ pr_w126))
  obtain ⟨c6, i6, k6⟩ := u_known (C := RX6) (T := TX6) (N := 2) (n := 2) hts tb_28 (hts (.instantiable RX6 2) (tb_all _ pr_w347))
  obtain ⟨c7, i7, k7⟩ := u_known (C := RX7) (T := TX7) (N := 4) (n := 4) hts tb_29 (hts (.instantiable RX7 4) (tb_all _ pr_w138))
  obtain ⟨c8, i8, k8⟩ := u_known (C := RX8) (T := TX8) (N := 5) (n := 5) hts tb_30 (hts (.instantiable RX8 5) (tb_all _ pr_w688))
  obtain ⟨c9, i9, k9⟩ := u_known (C := RX9) (T := TX9) (N := 10) (n := 10) hts tb_31 (hts (.instantiable RX9 10) (tb_all _ pr_w690))
  obtain ⟨a0, x0, y0, f0, g0, h0⟩ := Cond.arrayClass_spec (hts (.arrayClass .int) (tb_all _ pr_w21))
  obtain ⟨a1, x1, y1, f1, g1, h1⟩ := Cond.arrayClass_spec (hts (.arrayClass .boolean) (tb_all _ pr_w489))
  obtain ⟨y2, a2, x2, e2, -, g2, h2, f2⟩ := Cond.arrayOver_spec hO
  refine ⟨(fun k => match k with | 0 => c0 | 1 => c1 | 2 => c2 | 3 => c3 | 4 => c4 | 5 => c5 | 6 => c6 | 7 => c7 | 8 => c8 | _ => c9, fun k => match k with | 0 => i0 | 1 => i1 | 2 => i2 | 3 => i3 | 4 => i4 | 5 => i5 | 6 => i6 | 7 => i7 | 8 => i8 | _ => i9), (a0, a1, a2), fun k q hq => ?_, fun k q hq => ?_⟩
  · match k, hq with
    | 0, hq => cases hq; exact k0
    | 1, hq => cases hq; exact k1
    | 2, hq => cases hq; exact k2
    | 3, hq => cases hq; exact k3
    | 4, hq => cases hq; exact k4
    | 5, hq => cases hq; exact k5
    | 6, hq => cases hq; exact k6
    | 7, hq => cases hq; exact k7
    | 8, hq => cases hq; exact k8
    | 9, hq => cases hq; exact k9
    | k + 10, hq => simp [pr_CL] at hq
  · match k, hq with
    | 0, hq => cases hq; exact ⟨fun n z => ⟨(fun k h => by cases h), x0, g0, y0, h0⟩, f0⟩
    | 1, hq => cases hq; exact ⟨fun n z => ⟨(fun k h => by cases h), x1, g1, y1, h1⟩, f1⟩
    | 2, hq => cases hq; exact ⟨fun n z => ⟨(fun k h => by cases h), x2, g2, y2, h2⟩, x2, y2, g2, h2, e2, f2⟩
    | k + 3, hq => simp [pr_ty] at hq
