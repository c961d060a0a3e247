def L_X9_print_175 (q0 : Nat) (x1 : Int32) : Nat → Int32 → pr_M → Option ((Unit) × pr_M)
  | 0, _, _ => none
  | n + 1, x6, f =>
    if 6 < x6 then (
      some ((), f)
    ) else (
      pr_bd (F_X9_lay q0 x1 (29 + x6) (-1000000006) f) fun u176003 f176004 =>
      L_X9_print_175 q0 x1 n (x6 + 1) f176004
    )
set_option maxHeartbeats 4000000 in
set_option maxRecDepth 100000 in
theorem l_X9_print_175 {l : Launch} {e : pr_E0} {Y : pr_Y} {c0 : Cond} {q0 : Nat} {x1 : Int32} {z : Unit} {g : pr_M} (C : pr_C (pr_EM l e) Y { frames := 2, cells := 0, slots := 0, locals := 44 } cX9_print RX9 7 c0) (hq0 : pr_LM[q0]? = some (9, 0)) : ∀ (n : Nat) (x6 : Int32) (f : pr_M), L_X9_print_175 q0 x1 n x6 f = some (z, g) → pr_W (pr_EM l e) Y { frames := 2, cells := 0, slots := 0, locals := 44 } 7 g 200 [] [] → pr_W (pr_EM l e) Y { frames := 2, cells := 0, slots := 0, locals := 44 } 7 f 175 [(0, .ref (pr_ad (pr_EM l e) q0)), (1, .int x1), (6, .int x6)] [] := by
  intro n
  induction n with
  | zero =>
    intro x6 f h
    exact absurd h (by simp [L_X9_print_175])
  | succ n ih =>
    intro x6 f h K
    rw [L_X9_print_175] at h
    refine pr_iload C dX9_print_175 2 rfl ?_
    refine pr_bipush (v := 6) C dX9_print_177 (by decide) ?_
    refine pr_icmp_gt (tgt := 200) C dX9_print_179 (by decide) (fun c176001 => ?_) (fun c176001 => ?_)
    · have h := pr_ifT h c176001
      obtain ⟨rfl, rfl⟩ := pr_inj h
      exact pr_pick [] rfl K
    · have h := pr_ifF h c176001
      refine pr_aload_n C dX9_print_182 rfl 0 rfl ?_
      refine pr_iload_n C dX9_print_183 rfl 1 rfl ?_
      refine pr_bipush (v := 29) C dX9_print_184 (by decide) ?_
      refine pr_iload C dX9_print_186 2 rfl ?_
      refine pr_iadd C dX9_print_188 ?_
      refine pr_ldc (v := (-1000000006)) C dX9_print_189 pr_w546 ?_
      obtain ⟨u176003, f176004, hc176002, h⟩ := pr_bd_some h
      refine k_X9_lay C pr_w483 hq0 hc176002 (Nat.le_of_ble_eq_true rfl) (Nat.le_of_ble_eq_true rfl) (Nat.le_of_ble_eq_true rfl) dX9_print_191 ?_
      refine pr_iinc (v := (x6 + 1)) (lv' := [(6, .int (x6 + 1)), (0, .ref (pr_ad (pr_EM l e) q0)), (1, .int x1)]) C dX9_print_194 2 rfl rfl (by decide) rfl ?_
      refine pr_goto (tgt := 175) C dX9_print_197 (by decide) ?_
      exact pr_pick [1, 2, 0] rfl (ih _ _ h K)
def F_X9_print (c : Nat) (p1 : Int32) (f : pr_M) : Option (Unit × pr_M) :=
  pr_gd (¬ ((1778 + ((f (c + 1) (Int32.toNatClampNeg 1765)) - (f (c + 1) (Int32.toNatClampNeg 1765)) / 128 * 128)) < 0 ∨ 1906 ≤ Int32.toNatClampNeg (1778 + ((f (c + 1) (Int32.toNatClampNeg 1765)) - (f (c + 1) (Int32.toNatClampNeg 1765)) / 128 * 128)))) <|
  pr_b1 (F_X9_of c p1 23 f) fun r4 =>
  pr_b1 (α := Int32) (
    if r4 ≤ 0 then (
      some 0
    ) else (
      pr_b1 (F_X9_of c p1 21 f) fun r8 =>
      pr_b1 (F_X9_of c p1 23 f) fun r10 =>
      pr_b1 (F_X9_of c p1 22 f) fun r12 =>
      pr_gd (¬ r12 = 0) <|
      some ((r8 * r10) / r12)
    )
  ) fun v5 =>
  pr_b1 (F_X9_of c p1 11 f) fun r15 =>
  pr_b1 (F_X9_of c p1 10 f) fun r17 =>
  pr_b1 (F_X9_of c p1 14 f) fun r19 =>
  pr_b1 (F_X9_of c p1 13 f) fun r21 =>
  pr_b1 (F_X9_of c p1 12 f) fun r23 =>
  pr_bd (F_X9_lay c p1 (97 + ((f (c + 1) (Int32.toNatClampNeg 1765)) - (f (c + 1) (Int32.toNatClampNeg 1765)) / 128 * 128)) ((r15 + v5) + (((r17 - r19) * (f (c + 1) (Int32.toNatClampNeg (1778 + ((f (c + 1) (Int32.toNatClampNeg 1765)) - (f (c + 1) (Int32.toNatClampNeg 1765)) / 128 * 128))))) / 100)) f) fun u25 f26 =>
  pr_bd (F_X9_lay c p1 (225 + ((f26 (c + 1) (Int32.toNatClampNeg 1765)) - (f26 (c + 1) (Int32.toNatClampNeg 1765)) / 128 * 128)) (r21 + r23) f26) fun u28 f29 =>
  pr_bd (F_X9_lay c p1 29 ((r15 + v5) + (((r17 - r19) * (f (c + 1) (Int32.toNatClampNeg (1778 + ((f (c + 1) (Int32.toNatClampNeg 1765)) - (f (c + 1) (Int32.toNatClampNeg 1765)) / 128 * 128))))) / 100)) f29) fun u31 f32 =>
  pr_bd (F_X9_lay c p1 30 (r21 + r23) f32) fun u34 f35 =>
  pr_bd (L_X9_print_175 c p1 pr_fuel 2 f35) fun v36 f37 =>
  some ((), f37)
set_option maxHeartbeats 4000000 in
set_option maxRecDepth 100000 in
theorem m_X9_print {l : Launch} {e : pr_E0} {c : Nat} {p1 : Int32} {f : pr_M} {r : Unit} {g : pr_M} (hk0 : pr_LM[c]? = some (9, 0)) (h : F_X9_print c p1 f = some (r, g)) : pr_Met (pr_EM l e) yX9_print cX9_print 7 none { frames := 2, cells := 0, slots := 0, locals := 44 } [.ref (pr_ad (pr_EM l e) c), .int p1] f none g := by
  rw [F_X9_print] at h
  refine pr_enter (by decide +kernel) (Nat.le_of_ble_eq_true rfl) (fun Y C Z => ?_)
  replace C : pr_C (pr_EM l e) Y { frames := 2, cells := 0, slots := 0, locals := 44 } cX9_print RX9 7 _ := C
  show pr_W (pr_EM l e) Y _ 7 f 0 [(0, .ref (pr_ad (pr_EM l e) c)), (1, .int p1)] []
  refine pr_aload_n C dX9_print_0 rfl 0 rfl ?_
  refine pr_g_9_0 C hk0 pr_w476 dX9_print_1 ?_
  have hk1 := pr_kM_9_0 hk0
  refine pr_sipush (v := 1778) C dX9_print_4 (by decide) ?_
  refine pr_aload_n C dX9_print_7 rfl 0 rfl ?_
  refine pr_g_9_0 C hk0 pr_w476 dX9_print_8 ?_
  refine pr_sipush (v := 1765) C dX9_print_11 (by decide) ?_
  refine pr_iaload C hk1 (pr_inlit (by decide +kernel)) dX9_print_14 ?_
  refine pr_sipush (v := 128) C dX9_print_15 (by decide) ?_
  refine pr_irem C dX9_print_18 (by decide) ?_
  refine pr_iadd C dX9_print_19 ?_
  obtain ⟨hg2, h⟩ := pr_gd_some h
  refine pr_iaload C hk1 hg2 dX9_print_20 ?_
  refine pr_istore_n (lv' := [(2, .int (f (c + 1) (Int32.toNatClampNeg (1778 + ((f (c + 1) (Int32.toNatClampNeg 1765)) - (f (c + 1) (Int32.toNatClampNeg 1765)) / 128 * 128))))), (0, .ref (pr_ad (pr_EM l e) c)), (1, .int p1)]) C dX9_print_21 rfl (by decide) rfl ?_
  refine pr_aload_n C dX9_print_22 rfl 1 rfl ?_
  refine pr_iload_n C dX9_print_23 rfl 2 rfl ?_
  refine pr_bipush (v := 23) C dX9_print_24 (by decide) ?_
  obtain ⟨r4, hc3, h⟩ := pr_b1_some h
  refine k_X9_of C pr_w507 hk0 hc3 (Nat.le_of_ble_eq_true rfl) (Nat.le_of_ble_eq_true rfl) (Nat.le_of_ble_eq_true rfl) dX9_print_26 ?_
  obtain ⟨v5, hv, h⟩ := pr_b1_some h
  have K : pr_W (pr_EM l e) Y { frames := 2, cells := 0, slots := 0, locals := 44 } 7 f 59 [(0, .ref (pr_ad (pr_EM l e) c)), (1, .int p1), (2, .int (f (c + 1) (Int32.toNatClampNeg (1778 + ((f (c + 1) (Int32.toNatClampNeg 1765)) - (f (c + 1) (Int32.toNatClampNeg 1765)) / 128 * 128)))))] [.int v5] := by
    refine pr_istore_n (lv' := [(3, .int v5), (0, .ref (pr_ad (pr_EM l e) c)), (1, .int p1), (2, .int (f (c + 1) (Int32.toNatClampNeg (1778 + ((f (c + 1) (Int32.toNatClampNeg 1765)) - (f (c + 1) (Int32.toNatClampNeg 1765)) / 128 * 128)))))]) C dX9_print_59 rfl (by decide) rfl ?_
    refine pr_aload_n C dX9_print_60 rfl 1 rfl ?_
    refine pr_iload_n C dX9_print_61 rfl 2 rfl ?_
    refine pr_bipush (v := 11) C dX9_print_62 (by decide) ?_
    obtain ⟨r15, hc14, h⟩ := pr_b1_some h
    refine k_X9_of C pr_w507 hk0 hc14 (Nat.le_of_ble_eq_true rfl) (Nat.le_of_ble_eq_true rfl) (Nat.le_of_ble_eq_true rfl) dX9_print_64 ?_
    refine pr_iload_n C dX9_print_67 rfl 0 rfl ?_
    refine pr_iadd C dX9_print_68 ?_
    refine pr_aload_n C dX9_print_69 rfl 1 rfl ?_
    refine pr_iload_n C dX9_print_70 rfl 2 rfl ?_
    refine pr_bipush (v := 10) C dX9_print_71 (by decide) ?_
    obtain ⟨r17, hc16, h⟩ := pr_b1_some h
    refine k_X9_of C pr_w507 hk0 hc16 (Nat.le_of_ble_eq_true rfl) (Nat.le_of_ble_eq_true rfl) (Nat.le_of_ble_eq_true rfl) dX9_print_73 ?_
    refine pr_aload_n C dX9_print_76 rfl 1 rfl ?_
    refine pr_iload_n C dX9_print_77 rfl 2 rfl ?_
    refine pr_bipush (v := 14) C dX9_print_78 (by decide) ?_
    obtain ⟨r19, hc18, h⟩ := pr_b1_some h
    refine k_X9_of C pr_w507 hk0 hc18 (Nat.le_of_ble_eq_true rfl) (Nat.le_of_ble_eq_true rfl) (Nat.le_of_ble_eq_true rfl) dX9_print_80 ?_
    refine pr_isub C dX9_print_83 ?_
    refine pr_iload_n C dX9_print_84 rfl 3 rfl ?_
    refine pr_imul C dX9_print_85 ?_
    refine pr_bipush (v := 100) C dX9_print_86 (by decide) ?_
    refine pr_idiv C dX9_print_88 (by decide) ?_
    refine pr_iadd C dX9_print_89 ?_
    refine pr_istore (lv' := [(4, .int ((r15 + v5) + (((r17 - r19) * (f (c + 1) (Int32.toNatClampNeg (1778 + ((f (c + 1) (Int32.toNatClampNeg 1765)) - (f (c + 1) (Int32.toNatClampNeg 1765)) / 128 * 128))))) / 100))), (3, .int v5), (0, .ref (pr_ad (pr_EM l e) c)), (1, .int p1), (2, .int (f (c + 1) (Int32.toNatClampNeg (1778 + ((f (c + 1) (Int32.toNatClampNeg 1765)) - (f (c + 1) (Int32.toNatClampNeg 1765)) / 128 * 128)))))]) C dX9_print_90 (by decide) rfl ?_
    refine pr_aload_n C dX9_print_92 rfl 2 rfl ?_
    refine pr_iload_n C dX9_print_93 rfl 3 rfl ?_
    refine pr_bipush (v := 13) C dX9_print_94 (by decide) ?_
    obtain ⟨r21, hc20, h⟩ := pr_b1_some h
    refine k_X9_of C pr_w507 hk0 hc20 (Nat.le_of_ble_eq_true rfl) (Nat.le_of_ble_eq_true rfl) (Nat.le_of_ble_eq_true rfl) dX9_print_96 ?_
    refine pr_aload_n C dX9_print_99 rfl 2 rfl ?_
    refine pr_iload_n C dX9_print_100 rfl 3 rfl ?_
    refine pr_bipush (v := 12) C dX9_print_101 (by decide) ?_
    obtain ⟨r23, hc22, h⟩ := pr_b1_some h
    refine k_X9_of C pr_w507 hk0 hc22 (Nat.le_of_ble_eq_true rfl) (Nat.le_of_ble_eq_true rfl) (Nat.le_of_ble_eq_true rfl) dX9_print_103 ?_
    refine pr_iadd C dX9_print_106 ?_
    refine pr_istore (lv' := [(5, .int (r21 + r23)), (4, .int ((r15 + v5) + (((r17 - r19) * (f (c + 1) (Int32.toNatClampNeg (1778 + ((f (c + 1) (Int32.toNatClampNeg 1765)) - (f (c + 1) (Int32.toNatClampNeg 1765)) / 128 * 128))))) / 100))), (3, .int v5), (0, .ref (pr_ad (pr_EM l e) c)), (1, .int p1), (2, .int (f (c + 1) (Int32.toNatClampNeg (1778 + ((f (c + 1) (Int32.toNatClampNeg 1765)) - (f (c + 1) (Int32.toNatClampNeg 1765)) / 128 * 128)))))]) C dX9_print_107 (by decide) rfl ?_
    refine pr_aload_n C dX9_print_109 rfl 3 rfl ?_
    refine pr_iload_n C dX9_print_110 rfl 4 rfl ?_
    refine pr_bipush (v := 97) C dX9_print_111 (by decide) ?_
    refine pr_aload_n C dX9_print_113 rfl 3 rfl ?_
    refine pr_g_9_0 C hk0 pr_w476 dX9_print_114 ?_
    refine pr_sipush (v := 1765) C dX9_print_117 (by decide) ?_
    refine pr_iaload C hk1 (pr_inlit (by decide +kernel)) dX9_print_120 ?_
    refine pr_sipush (v := 128) C dX9_print_121 (by decide) ?_
    refine pr_irem C dX9_print_124 (by decide) ?_
    refine pr_iadd C dX9_print_125 ?_
    refine pr_iload C dX9_print_126 1 rfl ?_
    obtain ⟨u25, f26, hc24, h⟩ := pr_bd_some h
    refine k_X9_lay C pr_w483 hk0 hc24 (Nat.le_of_ble_eq_true rfl) (Nat.le_of_ble_eq_true rfl) (Nat.le_of_ble_eq_true rfl) dX9_print_128 ?_
    refine pr_aload_n C dX9_print_131 rfl 3 rfl ?_
    refine pr_iload_n C dX9_print_132 rfl 4 rfl ?_
    refine pr_sipush (v := 225) C dX9_print_133 (by decide) ?_
    refine pr_aload_n C dX9_print_136 rfl 3 rfl ?_
    refine pr_g_9_0 C hk0 pr_w476 dX9_print_137 ?_
    refine pr_sipush (v := 1765) C dX9_print_140 (by decide) ?_
    refine pr_iaload C hk1 (pr_inlit (by decide +kernel)) dX9_print_143 ?_
    refine pr_sipush (v := 128) C dX9_print_144 (by decide) ?_
    refine pr_irem C dX9_print_147 (by decide) ?_
    refine pr_iadd C dX9_print_148 ?_
    refine pr_iload C dX9_print_149 0 rfl ?_
    obtain ⟨u28, f29, hc27, h⟩ := pr_bd_some h
    refine k_X9_lay C pr_w483 hk0 hc27 (Nat.le_of_ble_eq_true rfl) (Nat.le_of_ble_eq_true rfl) (Nat.le_of_ble_eq_true rfl) dX9_print_151 ?_
    refine pr_aload_n C dX9_print_154 rfl 3 rfl ?_
    refine pr_iload_n C dX9_print_155 rfl 4 rfl ?_
    refine pr_bipush (v := 29) C dX9_print_156 (by decide) ?_
    refine pr_iload C dX9_print_158 1 rfl ?_
    obtain ⟨u31, f32, hc30, h⟩ := pr_bd_some h
    refine k_X9_lay C pr_w483 hk0 hc30 (Nat.le_of_ble_eq_true rfl) (Nat.le_of_ble_eq_true rfl) (Nat.le_of_ble_eq_true rfl) dX9_print_160 ?_
    refine pr_aload_n C dX9_print_163 rfl 3 rfl ?_
    refine pr_iload_n C dX9_print_164 rfl 4 rfl ?_
    refine pr_bipush (v := 30) C dX9_print_165 (by decide) ?_
    refine pr_iload C dX9_print_167 0 rfl ?_
    obtain ⟨u34, f35, hc33, h⟩ := pr_bd_some h
    refine k_X9_lay C pr_w483 hk0 hc33 (Nat.le_of_ble_eq_true rfl) (Nat.le_of_ble_eq_true rfl) (Nat.le_of_ble_eq_true rfl) dX9_print_169 ?_
    refine pr_iconst (v := 2) C dX9_print_172 (by decide) ?_
    refine pr_istore (lv' := [(6, .int 2), (5, .int (r21 + r23)), (4, .int ((r15 + v5) + (((r17 - r19) * (f (c + 1) (Int32.toNatClampNeg (1778 + ((f (c + 1) (Int32.toNatClampNeg 1765)) - (f (c + 1) (Int32.toNatClampNeg 1765)) / 128 * 128))))) / 100))), (3, .int v5), (0, .ref (pr_ad (pr_EM l e) c)), (1, .int p1), (2, .int (f (c + 1) (Int32.toNatClampNeg (1778 + ((f (c + 1) (Int32.toNatClampNeg 1765)) - (f (c + 1) (Int32.toNatClampNeg 1765)) / 128 * 128)))))]) C dX9_print_173 (by decide) rfl ?_
    obtain ⟨v36, f37, hv, h⟩ := pr_bd_some h
    refine pr_pick [4, 5, 0] rfl (l_X9_print_175 C hk0 pr_fuel _ _ hv ?_)
    clear hv
    obtain ⟨rfl, rfl⟩ := pr_inj h
    exact pr_vret C Z dX9_print_200
  clear h
  have h := hv
  clear hv
  refine pr_if_le (tgt := 58) C dX9_print_29 (by decide) (fun c6 => ?_) (fun c6 => ?_)
  · have h := pr_ifT h c6
    refine pr_iconst (v := 0) C dX9_print_58 (by decide) ?_
    obtain rfl := pr_in1 h
    exact pr_pick [1, 2, 0] rfl K
  · have h := pr_ifF h c6
    refine pr_aload_n C dX9_print_32 rfl 1 rfl ?_
    refine pr_iload_n C dX9_print_33 rfl 2 rfl ?_
    refine pr_bipush (v := 21) C dX9_print_34 (by decide) ?_
    obtain ⟨r8, hc7, h⟩ := pr_b1_some h
    refine k_X9_of C pr_w507 hk0 hc7 (Nat.le_of_ble_eq_true rfl) (Nat.le_of_ble_eq_true rfl) (Nat.le_of_ble_eq_true rfl) dX9_print_36 ?_
    refine pr_aload_n C dX9_print_39 rfl 1 rfl ?_
    refine pr_iload_n C dX9_print_40 rfl 2 rfl ?_
    refine pr_bipush (v := 23) C dX9_print_41 (by decide) ?_
    obtain ⟨r10, hc9, h⟩ := pr_b1_some h
    refine k_X9_of C pr_w507 hk0 hc9 (Nat.le_of_ble_eq_true rfl) (Nat.le_of_ble_eq_true rfl) (Nat.le_of_ble_eq_true rfl) dX9_print_43 ?_
    refine pr_imul C dX9_print_46 ?_
    refine pr_aload_n C dX9_print_47 rfl 1 rfl ?_
    refine pr_iload_n C dX9_print_48 rfl 2 rfl ?_
    refine pr_bipush (v := 22) C dX9_print_49 (by decide) ?_
    obtain ⟨r12, hc11, h⟩ := pr_b1_some h
    refine k_X9_of C pr_w507 hk0 hc11 (Nat.le_of_ble_eq_true rfl) (Nat.le_of_ble_eq_true rfl) (Nat.le_of_ble_eq_true rfl) dX9_print_51 ?_
    obtain ⟨hg13, h⟩ := pr_gd_some h
    refine pr_idiv C dX9_print_54 hg13 ?_
    refine pr_goto (tgt := 59) C dX9_print_55 (by decide) ?_
    obtain rfl := pr_in1 h
    exact pr_pick [1, 2, 0] rfl K
theorem k_X9_print {l : Launch} {e : pr_E0} {Y : pr_Y} {Rm : Room} {cc : ByteArray} {own : String} {nL : Nat} {c0 : Cond} {pc idx : Nat} {lv : List (Nat × Value)} {st : List Value} {c : Nat} {p1 : Int32} {f : pr_M} {r : Unit} {g : pr_M} (C : pr_C (pr_EM l e) Y Rm cc own nL c0) (w1 : Cond.methodLink own idx yX9_print ∈ pr_AL) (hk0 : pr_LM[c]? = some (9, 0)) (h : F_X9_print c p1 f = some (r, g)) (hr1 : 3 ≤ Rm.frames) (hr2 : 70 ≤ Rm.locals) (hcat : (st.map fun v => v.category).sum ≤ 8) (hdg : decode cc pc = .ok (.invokevirtual idx, 3)) (k : pr_W (pr_EM l e) Y Rm nL g (pc + 3) lv (st)) : pr_W (pr_EM l e) Y Rm nL f pc lv (.int p1 :: .ref (pr_ad (pr_EM l e) c) :: st) :=
  pr_callV (As := [.int p1]) (n := 1) C (m_X9_print hk0 h) hk0 (by decide) rfl w1 pr_w581 pr_w582 pr_w479 pr_w545 rfl rfl ⟨rfl, by decide +kernel, by decide +kernel, by decide +kernel⟩ rfl ⟨hr1, hr2⟩ rfl hcat hdg k

def F_X9_isSeen (c : Nat) (p1 : Int32) (f : pr_M) : Option (Int32) :=
  if p1 ≤ 0 then (
    some 0
  ) else (
    pr_b1 (F_X9_of c p1 1 f) fun r4 =>
    pr_b1 (F_X9_way c p1 f) fun r6 =>
    if (f (c + 1) (Int32.toNatClampNeg 1765)) < (r4 + r6) then (
      some 0
    ) else (
      some 1
    )
  )
set_option maxHeartbeats 4000000 in
set_option maxRecDepth 100000 in
theorem m_X9_isSeen {l : Launch} {e : pr_E0} {c : Nat} {p1 : Int32} {f : pr_M} {r : Int32} (hk0 : pr_LM[c]? = some (9, 0)) (h : F_X9_isSeen c p1 f = some r) : pr_Met (pr_EM l e) yX9_isSeen cX9_isSeen 2 (some .boolean) { frames := 3, cells := 0, slots := 0, locals := 66 } [.ref (pr_ad (pr_EM l e) c), .int p1] f (some (.int r)) f := by
  rw [F_X9_isSeen] at h
  refine pr_enter (by decide +kernel) (Nat.le_of_ble_eq_true rfl) (fun Y C Z => ?_)
  replace C : pr_C (pr_EM l e) Y { frames := 3, cells := 0, slots := 0, locals := 66 } cX9_isSeen RX9 2 _ := C
  show pr_W (pr_EM l e) Y _ 2 f 0 [(0, .ref (pr_ad (pr_EM l e) c)), (1, .int p1)] []
  refine pr_iload_n C dX9_isSeen_0 rfl 1 rfl ?_
  refine pr_if_le (tgt := 31) C dX9_isSeen_1 (by decide) (fun c1 => ?_) (fun c1 => ?_)
  · have h := pr_ifT h c1
    refine pr_iconst (v := 0) C dX9_isSeen_31 (by decide) ?_
    obtain rfl := pr_in1 h
    exact pr_zret C (by decide) Z dX9_isSeen_32
  · have h := pr_ifF h c1
    refine pr_aload_n C dX9_isSeen_4 rfl 0 rfl ?_
    refine pr_g_9_0 C hk0 pr_w476 dX9_isSeen_5 ?_
    have hk2 := pr_kM_9_0 hk0
    refine pr_sipush (v := 1765) C dX9_isSeen_8 (by decide) ?_
    refine pr_iaload C hk2 (pr_inlit (by decide +kernel)) dX9_isSeen_11 ?_
    refine pr_aload_n C dX9_isSeen_12 rfl 0 rfl ?_
    refine pr_iload_n C dX9_isSeen_13 rfl 1 rfl ?_
    refine pr_iconst (v := 1) C dX9_isSeen_14 (by decide) ?_
    obtain ⟨r4, hc3, h⟩ := pr_b1_some h
    refine k_X9_of C pr_w507 hk0 hc3 (Nat.le_of_ble_eq_true rfl) (Nat.le_of_ble_eq_true rfl) (Nat.le_of_ble_eq_true rfl) dX9_isSeen_15 ?_
    refine pr_aload_n C dX9_isSeen_18 rfl 0 rfl ?_
    refine pr_iload_n C dX9_isSeen_19 rfl 1 rfl ?_
    obtain ⟨r6, hc5, h⟩ := pr_b1_some h
    refine k_X9_way C pr_w536 hk0 hc5 (Nat.le_of_ble_eq_true rfl) (Nat.le_of_ble_eq_true rfl) (Nat.le_of_ble_eq_true rfl) dX9_isSeen_20 ?_
    refine pr_iadd C dX9_isSeen_23 ?_
    refine pr_icmp_lt (tgt := 31) C dX9_isSeen_24 (by decide) (fun c7 => ?_) (fun c7 => ?_)
    · have h := pr_ifT h c7
      refine pr_iconst (v := 0) C dX9_isSeen_31 (by decide) ?_
      obtain rfl := pr_in1 h
      exact pr_zret C (by decide) Z dX9_isSeen_32
    · have h := pr_ifF h c7
      refine pr_iconst (v := 1) C dX9_isSeen_27 (by decide) ?_
      refine pr_goto (tgt := 32) C dX9_isSeen_28 (by decide) ?_
      obtain rfl := pr_in1 h
      exact pr_zret C (by decide) Z dX9_isSeen_32
theorem k_X9_isSeen {l : Launch} {e : pr_E0} {Y : pr_Y} {Rm : Room} {cc : ByteArray} {own : String} {nL : Nat} {c0 : Cond} {pc idx : Nat} {lv : List (Nat × Value)} {st : List Value} {c : Nat} {p1 : Int32} {f : pr_M} {r : Int32} (C : pr_C (pr_EM l e) Y Rm cc own nL c0) (w1 : Cond.methodLink own idx yX9_isSeen ∈ pr_AL) (hk0 : pr_LM[c]? = some (9, 0)) (h : F_X9_isSeen c p1 f = some r) (hr1 : 4 ≤ Rm.frames) (hr2 : 87 ≤ Rm.locals) (hcat : (st.map fun v => v.category).sum ≤ 8) (hdg : decode cc pc = .ok (.invokevirtual idx, 3)) (k : pr_W (pr_EM l e) Y Rm nL f (pc + 3) lv (.int r :: st)) : pr_W (pr_EM l e) Y Rm nL f pc lv (.int p1 :: .ref (pr_ad (pr_EM l e) c) :: st) :=
  pr_callV (As := [.int p1]) (n := 1) C (m_X9_isSeen hk0 h) hk0 (by decide) rfl w1 pr_w565 pr_w566 pr_w479 pr_w547 rfl rfl ⟨rfl, by decide +kernel, by decide +kernel, by decide +kernel⟩ rfl ⟨hr1, hr2⟩ rfl hcat hdg k

def F_X9_keepError (c : Nat) (p1 : Int32) (p2 : Int32) (f : pr_M) : Option (Unit × pr_M) :=
  pr_b1 (F_X9_of c p1 36 f) fun r2 =>
  pr_bd (F_X9_lay c p1 (37 + (r2 - r2 / 60 * 60)) p2 f) fun u4 f5 =>
  pr_b1 (F_X9_of c p1 36 f5) fun r7 =>
  pr_bd (F_X9_lay c p1 36 (r7 + 1) f5) fun u9 f10 =>
  some ((), f10)
set_option maxHeartbeats 4000000 in
set_option maxRecDepth 100000 in
theorem m_X9_keepError {l : Launch} {e : pr_E0} {c : Nat} {p1 : Int32} {p2 : Int32} {f : pr_M} {r : Unit} {g : pr_M} (hk0 : pr_LM[c]? = some (9, 0)) (h : F_X9_keepError c p1 p2 f = some (r, g)) : pr_Met (pr_EM l e) yX9_keepError cX9_keepError 3 none { frames := 2, cells := 0, slots := 0, locals := 44 } [.ref (pr_ad (pr_EM l e) c), .int p1, .int p2] f none g := by
  rw [F_X9_keepError] at h
  refine pr_enter (by decide +kernel) (Nat.le_of_ble_eq_true rfl) (fun Y C Z => ?_)
  replace C : pr_C (pr_EM l e) Y { frames := 2, cells := 0, slots := 0, locals := 44 } cX9_keepError RX9 3 _ := C
  show pr_W (pr_EM l e) Y _ 3 f 0 [(0, .ref (pr_ad (pr_EM l e) c)), (1, .int p1), (2, .int p2)] []
  refine pr_aload_n C dX9_keepError_0 rfl 0 rfl ?_
  refine pr_iload_n C dX9_keepError_1 rfl 1 rfl ?_
  refine pr_bipush (v := 37) C dX9_keepError_2 (by decide) ?_
  refine pr_aload_n C dX9_keepError_4 rfl 0 rfl ?_
  refine pr_iload_n C dX9_keepError_5 rfl 1 rfl ?_
  refine pr_bipush (v := 36) C dX9_keepError_6 (by decide) ?_
  obtain ⟨r2, hc1, h⟩ := pr_b1_some h
  refine k_X9_of C pr_w507 hk0 hc1 (Nat.le_of_ble_eq_true rfl) (Nat.le_of_ble_eq_true rfl) (Nat.le_of_ble_eq_true rfl) dX9_keepError_8 ?_
  refine pr_bipush (v := 60) C dX9_keepError_11 (by decide) ?_
  refine pr_irem C dX9_keepError_13 (by decide) ?_
  refine pr_iadd C dX9_keepError_14 ?_
  refine pr_iload_n C dX9_keepError_15 rfl 2 rfl ?_
  obtain ⟨u4, f5, hc3, h⟩ := pr_bd_some h
  refine k_X9_lay C pr_w483 hk0 hc3 (Nat.le_of_ble_eq_true rfl) (Nat.le_of_ble_eq_true rfl) (Nat.le_of_ble_eq_true rfl) dX9_keepError_16 ?_
  refine pr_aload_n C dX9_keepError_19 rfl 0 rfl ?_
  refine pr_iload_n C dX9_keepError_20 rfl 1 rfl ?_
  refine pr_bipush (v := 36) C dX9_keepError_21 (by decide) ?_
  refine pr_aload_n C dX9_keepError_23 rfl 0 rfl ?_
  refine pr_iload_n C dX9_keepError_24 rfl 1 rfl ?_
  refine pr_bipush (v := 36) C dX9_keepError_25 (by decide) ?_
  obtain ⟨r7, hc6, h⟩ := pr_b1_some h
  refine k_X9_of C pr_w507 hk0 hc6 (Nat.le_of_ble_eq_true rfl) (Nat.le_of_ble_eq_true rfl) (Nat.le_of_ble_eq_true rfl) dX9_keepError_27 ?_
  refine pr_iconst (v := 1) C dX9_keepError_30 (by decide) ?_
  refine pr_iadd C dX9_keepError_31 ?_
  obtain ⟨u9, f10, hc8, h⟩ := pr_bd_some h
  refine k_X9_lay C pr_w483 hk0 hc8 (Nat.le_of_ble_eq_true rfl) (Nat.le_of_ble_eq_true rfl) (Nat.le_of_ble_eq_true rfl) dX9_keepError_32 ?_
  obtain ⟨rfl, rfl⟩ := pr_inj h
  exact pr_vret C Z dX9_keepError_35
theorem k_X9_keepError {l : Launch} {e : pr_E0} {Y : pr_Y} {Rm : Room} {cc : ByteArray} {own : String} {nL : Nat} {c0 : Cond} {pc idx : Nat} {lv : List (Nat × Value)} {st : List Value} {c : Nat} {p1 : Int32} {p2 : Int32} {f : pr_M} {r : Unit} {g : pr_M} (C : pr_C (pr_EM l e) Y Rm cc own nL c0) (w1 : Cond.methodLink own idx yX9_keepError ∈ pr_AL) (hk0 : pr_LM[c]? = some (9, 0)) (h : F_X9_keepError c p1 p2 f = some (r, g)) (hr1 : 3 ≤ Rm.frames) (hr2 : 66 ≤ Rm.locals) (hcat : (st.map fun v => v.category).sum ≤ 8) (hdg : decode cc pc = .ok (.invokevirtual idx, 3)) (k : pr_W (pr_EM l e) Y Rm nL g (pc + 3) lv (st)) : pr_W (pr_EM l e) Y Rm nL f pc lv (.int p2 :: .int p1 :: .ref (pr_ad (pr_EM l e) c) :: st) :=
  pr_callV (As := [.int p1, .int p2]) (n := 2) C (m_X9_keepError hk0 h) hk0 (by decide) rfl w1 pr_w551 pr_w552 pr_w479 pr_w548 rfl rfl ⟨rfl, by decide +kernel, by decide +kernel, by decide +kernel⟩ rfl ⟨hr1, hr2⟩ rfl hcat hdg k

def F_X9_see (c : Nat) (p1 : Int32) (f : pr_M) : Option (Unit × pr_M) :=
  pr_b1 (F_X9_of c p1 1 f) fun r3 =>
  pr_b1 (F_X9_of c p1 (97 + (((f (c + 1) (Int32.toNatClampNeg 1765)) - r3) - ((f (c + 1) (Int32.toNatClampNeg 1765)) - r3) / 128 * 128)) f) fun r5 =>
  pr_b1 (F_X9_place 0 97 f) fun r7 =>
  pr_b1 (F_X9_way c p1 f) fun r9 =>
  pr_gd (¬ ((r7 + ((((f (c + 1) (Int32.toNatClampNeg 1765)) - r3) - r9) - (((f (c + 1) (Int32.toNatClampNeg 1765)) - r3) - r9) / 128 * 128)) < 0 ∨ 1906 ≤ Int32.toNatClampNeg (r7 + ((((f (c + 1) (Int32.toNatClampNeg 1765)) - r3) - r9) - (((f (c + 1) (Int32.toNatClampNeg 1765)) - r3) - r9) / 128 * 128)))) <|
  pr_bd (F_X9_lay c p1 31 (r5 - (f (c + 1) (Int32.toNatClampNeg (r7 + ((((f (c + 1) (Int32.toNatClampNeg 1765)) - r3) - r9) - (((f (c + 1) (Int32.toNatClampNeg 1765)) - r3) - r9) / 128 * 128))))) f) fun u12 f13 =>
  pr_b1 (F_X9_of c p1 (225 + (((f (c + 1) (Int32.toNatClampNeg 1765)) - r3) - ((f (c + 1) (Int32.toNatClampNeg 1765)) - r3) / 128 * 128)) f13) fun r15 =>
  pr_bd (F_X9_lay c p1 32 r15 f13) fun u17 f18 =>
  pr_bd (F_X9_keepError c p1 (r5 - (f (c + 1) (Int32.toNatClampNeg (r7 + ((((f (c + 1) (Int32.toNatClampNeg 1765)) - r3) - r9) - (((f (c + 1) (Int32.toNatClampNeg 1765)) - r3) - r9) / 128 * 128))))) f18) fun u20 f21 =>
  some ((), f21)
set_option maxHeartbeats 4000000 in
set_option maxRecDepth 100000 in
theorem m_X9_see {l : Launch} {e : pr_E0} {c : Nat} {p1 : Int32} {f : pr_M} {r : Unit} {g : pr_M} (hk0 : pr_LM[c]? = some (9, 0)) (h : F_X9_see c p1 f = some (r, g)) : pr_Met (pr_EM l e) yX9_see cX9_see 4 none { frames := 3, cells := 0, slots := 0, locals := 66 } [.ref (pr_ad (pr_EM l e) c), .int p1] f none g := by
  rw [F_X9_see] at h
  refine pr_enter (by decide +kernel) (Nat.le_of_ble_eq_true rfl) (fun Y C Z => ?_)
  replace C : pr_C (pr_EM l e) Y { frames := 3, cells := 0, slots := 0, locals := 66 } cX9_see RX9 4 _ := C
  show pr_W (pr_EM l e) Y _ 4 f 0 [(0, .ref (pr_ad (pr_EM l e) c)), (1, .int p1)] []
  refine pr_aload_n C dX9_see_0 rfl 0 rfl ?_
  refine pr_g_9_0 C hk0 pr_w476 dX9_see_1 ?_
  have hk1 := pr_kM_9_0 hk0
  refine pr_sipush (v := 1765) C dX9_see_4 (by decide) ?_
  refine pr_iaload C hk1 (pr_inlit (by decide +kernel)) dX9_see_7 ?_
  refine pr_aload_n C dX9_see_8 rfl 0 rfl ?_
  refine pr_iload_n C dX9_see_9 rfl 1 rfl ?_
  refine pr_iconst (v := 1) C dX9_see_10 (by decide) ?_
  obtain ⟨r3, hc2, h⟩ := pr_b1_some h
  refine k_X9_of C pr_w507 hk0 hc2 (Nat.le_of_ble_eq_true rfl) (Nat.le_of_ble_eq_true rfl) (Nat.le_of_ble_eq_true rfl) dX9_see_11 ?_
  refine pr_isub C dX9_see_14 ?_
  refine pr_istore_n (lv' := [(2, .int ((f (c + 1) (Int32.toNatClampNeg 1765)) - r3)), (0, .ref (pr_ad (pr_EM l e) c)), (1, .int p1)]) C dX9_see_15 rfl (by decide) rfl ?_
  refine pr_aload_n C dX9_see_16 rfl 1 rfl ?_
  refine pr_iload_n C dX9_see_17 rfl 2 rfl ?_
  refine pr_bipush (v := 97) C dX9_see_18 (by decide) ?_
  refine pr_iload_n C dX9_see_20 rfl 0 rfl ?_
  refine pr_sipush (v := 128) C dX9_see_21 (by decide) ?_
  refine pr_irem C dX9_see_24 (by decide) ?_
  refine pr_iadd C dX9_see_25 ?_
  obtain ⟨r5, hc4, h⟩ := pr_b1_some h
  refine k_X9_of C pr_w507 hk0 hc4 (Nat.le_of_ble_eq_true rfl) (Nat.le_of_ble_eq_true rfl) (Nat.le_of_ble_eq_true rfl) dX9_see_26 ?_
  refine pr_aload_n C dX9_see_29 rfl 1 rfl ?_
  refine pr_g_9_0 C hk0 pr_w476 dX9_see_30 ?_
  refine pr_iconst (v := 0) C dX9_see_33 (by decide) ?_
  refine pr_bipush (v := 97) C dX9_see_34 (by decide) ?_
  obtain ⟨r7, hc6, h⟩ := pr_b1_some h
  refine k_X9_place C pr_w477  hc6 (Nat.le_of_ble_eq_true rfl) (Nat.le_of_ble_eq_true rfl) (Nat.le_of_ble_eq_true rfl) dX9_see_36 ?_
  refine pr_iload_n C dX9_see_39 rfl 0 rfl ?_
  refine pr_aload_n C dX9_see_40 rfl 1 rfl ?_
  refine pr_iload_n C dX9_see_41 rfl 2 rfl ?_
  obtain ⟨r9, hc8, h⟩ := pr_b1_some h
  refine k_X9_way C pr_w536 hk0 hc8 (Nat.le_of_ble_eq_true rfl) (Nat.le_of_ble_eq_true rfl) (Nat.le_of_ble_eq_true rfl) dX9_see_42 ?_
  refine pr_isub C dX9_see_45 ?_
  refine pr_sipush (v := 128) C dX9_see_46 (by decide) ?_
  refine pr_irem C dX9_see_49 (by decide) ?_
  refine pr_iadd C dX9_see_50 ?_
  obtain ⟨hg10, h⟩ := pr_gd_some h
  refine pr_iaload C hk1 hg10 dX9_see_51 ?_
  refine pr_isub C dX9_see_52 ?_
  refine pr_istore_n (lv' := [(3, .int (r5 - (f (c + 1) (Int32.toNatClampNeg (r7 + ((((f (c + 1) (Int32.toNatClampNeg 1765)) - r3) - r9) - (((f (c + 1) (Int32.toNatClampNeg 1765)) - r3) - r9) / 128 * 128)))))), (2, .int ((f (c + 1) (Int32.toNatClampNeg 1765)) - r3)), (0, .ref (pr_ad (pr_EM l e) c)), (1, .int p1)]) C dX9_see_53 rfl (by decide) rfl ?_
  refine pr_aload_n C dX9_see_54 rfl 2 rfl ?_
  refine pr_iload_n C dX9_see_55 rfl 3 rfl ?_
  refine pr_bipush (v := 31) C dX9_see_56 (by decide) ?_
  refine pr_iload_n C dX9_see_58 rfl 0 rfl ?_
  obtain ⟨u12, f13, hc11, h⟩ := pr_bd_some h
  refine k_X9_lay C pr_w483 hk0 hc11 (Nat.le_of_ble_eq_true rfl) (Nat.le_of_ble_eq_true rfl) (Nat.le_of_ble_eq_true rfl) dX9_see_59 ?_
  refine pr_aload_n C dX9_see_62 rfl 2 rfl ?_
  refine pr_iload_n C dX9_see_63 rfl 3 rfl ?_
  refine pr_bipush (v := 32) C dX9_see_64 (by decide) ?_
  refine pr_aload_n C dX9_see_66 rfl 2 rfl ?_
  refine pr_iload_n C dX9_see_67 rfl 3 rfl ?_
  refine pr_sipush (v := 225) C dX9_see_68 (by decide) ?_
  refine pr_iload_n C dX9_see_71 rfl 1 rfl ?_
  refine pr_sipush (v := 128) C dX9_see_72 (by decide) ?_
  refine pr_irem C dX9_see_75 (by decide) ?_
  refine pr_iadd C dX9_see_76 ?_
  obtain ⟨r15, hc14, h⟩ := pr_b1_some h
  refine k_X9_of C pr_w507 hk0 hc14 (Nat.le_of_ble_eq_true rfl) (Nat.le_of_ble_eq_true rfl) (Nat.le_of_ble_eq_true rfl) dX9_see_77 ?_
  obtain ⟨u17, f18, hc16, h⟩ := pr_bd_some h
  refine k_X9_lay C pr_w483 hk0 hc16 (Nat.le_of_ble_eq_true rfl) (Nat.le_of_ble_eq_true rfl) (Nat.le_of_ble_eq_true rfl) dX9_see_80 ?_
  refine pr_aload_n C dX9_see_83 rfl 2 rfl ?_
  refine pr_iload_n C dX9_see_84 rfl 3 rfl ?_
  refine pr_iload_n C dX9_see_85 rfl 0 rfl ?_
  obtain ⟨u20, f21, hc19, h⟩ := pr_bd_some h
  refine k_X9_keepError C pr_w550 hk0 hc19 (Nat.le_of_ble_eq_true rfl) (Nat.le_of_ble_eq_true rfl) (Nat.le_of_ble_eq_true rfl) dX9_see_86 ?_
  obtain ⟨rfl, rfl⟩ := pr_inj h
  exact pr_vret C Z dX9_see_89
theorem k_X9_see {l : Launch} {e : pr_E0} {Y : pr_Y} {Rm : Room} {cc : ByteArray} {own : String} {nL : Nat} {c0 : Cond} {pc idx : Nat} {lv : List (Nat × Value)} {st : List Value} {c : Nat} {p1 : Int32} {f : pr_M} {r : Unit} {g : pr_M} (C : pr_C (pr_EM l e) Y Rm cc own nL c0) (w1 : Cond.methodLink own idx yX9_see ∈ pr_AL) (hk0 : pr_LM[c]? = some (9, 0)) (h : F_X9_see c p1 f = some (r, g)) (hr1 : 4 ≤ Rm.frames) (hr2 : 89 ≤ Rm.locals) (hcat : (st.map fun v => v.category).sum ≤ 8) (hdg : decode cc pc = .ok (.invokevirtual idx, 3)) (k : pr_W (pr_EM l e) Y Rm nL g (pc + 3) lv (st)) : pr_W (pr_EM l e) Y Rm nL f pc lv (.int p1 :: .ref (pr_ad (pr_EM l e) c) :: st) :=
  pr_callV (As := [.int p1]) (n := 1) C (m_X9_see hk0 h) hk0 (by decide) rfl w1 pr_w584 pr_w585 pr_w479 pr_w549 rfl rfl ⟨rfl, by decide +kernel, by decide +kernel, by decide +kernel⟩ rfl ⟨hr1, hr2⟩ rfl hcat hdg k

def F_X9_recognized (c : Nat) (p1 : Int32) (f : pr_M) : Option (Int32) :=
  pr_b1 (F_X9_of c p1 17 f) fun r2 =>
  pr_b1 (F_X9_of c p1 3 f) fun r4 =>
  pr_b1 (α := Int32) (
    if r4 ≤ r2 then (
      some 1
    ) else (
      pr_b1 (F_X9_of c p1 18 f) fun r8 =>
      if r8 ≤ 0 then (
        some 0
      ) else (
        some 1
      )
    )
  ) fun v5 =>
  pr_b1 (F_X9_of c p1 2 f) fun r11 =>
  pr_b1 (α := Int32) (
    if v5 = 0 then (
      some 1
    ) else (
      some 4
    )
  ) fun v12 =>
  pr_b1 (F_X9_of c p1 31 f) fun r15 =>
  pr_b1 (F_X9_of c p1 19 f) fun r17 =>
  pr_b1 (F_X9_size (r15 - r17) f) fun r19 =>
  pr_b1 (F_X9_of c p1 25 f) fun r21 =>
  pr_b1 (F_X9_of c p1 19 f) fun r23 =>
  pr_b1 (F_X9_size (r21 - r23) f) fun r25 =>
  pr_b1 (F_X9_of c p1 24 f) fun r27 =>
  pr_b1 (α := Int32) (
    if r27 = 0 then (
      if (r11 * v12) < r19 then (
        some 0
      ) else (
        some 1
      )
    ) else (
      some 0
    )
  ) fun v28 =>
  pr_b1 (F_X9_of c p1 26 f) fun r32 =>
  pr_b1 (α := Int32) (
    if r32 ≤ 0 then (
      some 0
    ) else (
      if (r11 * v12) < r25 then (
        some 0
      ) else (
        some 1
      )
    )
  ) fun v33 =>
  if v28 = 0 then (
    if v33 = 0 then (
      some 0
    ) else (
      some 2
    )
  ) else (
    if v33 = 0 then (
      some 1
    ) else (
      if r25 < r19 then (
        some 2
      ) else (
        some 1
      )
    )
  )
set_option maxHeartbeats 4000000 in
set_option maxRecDepth 100000 in
theorem m_X9_recognized {l : Launch} {e : pr_E0} {c : Nat} {p1 : Int32} {f : pr_M} {r : Int32} (hk0 : pr_LM[c]? = some (9, 0)) (h : F_X9_recognized c p1 f = some r) : pr_Met (pr_EM l e) yX9_recognized cX9_recognized 8 (some .int) { frames := 2, cells := 0, slots := 0, locals := 43 } [.ref (pr_ad (pr_EM l e) c), .int p1] f (some (.int r)) f := by
  rw [F_X9_recognized] at h
  refine pr_enter (by decide +kernel) (Nat.le_of_ble_eq_true rfl) (fun Y C Z => ?_)
  replace C : pr_C (pr_EM l e) Y { frames := 2, cells := 0, slots := 0, locals := 43 } cX9_recognized RX9 8 _ := C
  show pr_W (pr_EM l e) Y _ 8 f 0 [(0, .ref (pr_ad (pr_EM l e) c)), (1, .int p1)] []
  refine pr_aload_n C dX9_recognized_0 rfl 0 rfl ?_
  refine pr_iload_n C dX9_recognized_1 rfl 1 rfl ?_
  refine pr_bipush (v := 17) C dX9_recognized_2 (by decide) ?_
  obtain ⟨r2, hc1, h⟩ := pr_b1_some h
  refine k_X9_of C pr_w507 hk0 hc1 (Nat.le_of_ble_eq_true rfl) (Nat.le_of_ble_eq_true rfl) (Nat.le_of_ble_eq_true rfl) dX9_recognized_4 ?_
  refine pr_aload_n C dX9_recognized_7 rfl 0 rfl ?_
  refine pr_iload_n C dX9_recognized_8 rfl 1 rfl ?_
  refine pr_iconst (v := 3) C dX9_recognized_9 (by decide) ?_
  obtain ⟨r4, hc3, h⟩ := pr_b1_some h
  refine k_X9_of C pr_w507 hk0 hc3 (Nat.le_of_ble_eq_true rfl) (Nat.le_of_ble_eq_true rfl) (Nat.le_of_ble_eq_true rfl) dX9_recognized_10 ?_
  obtain ⟨v5, hv, h⟩ := pr_b1_some h
  have K : pr_W (pr_EM l e) Y { frames := 2, cells := 0, slots := 0, locals := 43 } 8 f 31 [(0, .ref (pr_ad (pr_EM l e) c)), (1, .int p1)] [.int v5] := by
    refine pr_istore_n (lv' := [(2, .int v5), (0, .ref (pr_ad (pr_EM l e) c)), (1, .int p1)]) C dX9_recognized_31 rfl (by decide) rfl ?_
    refine pr_aload_n C dX9_recognized_32 rfl 1 rfl ?_
    refine pr_iload_n C dX9_recognized_33 rfl 2 rfl ?_
    refine pr_iconst (v := 2) C dX9_recognized_34 (by decide) ?_
    obtain ⟨r11, hc10, h⟩ := pr_b1_some h
    refine k_X9_of C pr_w507 hk0 hc10 (Nat.le_of_ble_eq_true rfl) (Nat.le_of_ble_eq_true rfl) (Nat.le_of_ble_eq_true rfl) dX9_recognized_35 ?_
    refine pr_iload_n C dX9_recognized_38 rfl 0 rfl ?_
    obtain ⟨v12, hv, h⟩ := pr_b1_some h
    have K : pr_W (pr_EM l e) Y { frames := 2, cells := 0, slots := 0, locals := 43 } 8 f 47 [(0, .ref (pr_ad (pr_EM l e) c)), (1, .int p1)] [.int v12, .int r11] := by
      refine pr_imul C dX9_recognized_47 ?_
      refine pr_istore_n (lv' := [(3, .int (r11 * v12)), (0, .ref (pr_ad (pr_EM l e) c)), (1, .int p1)]) C dX9_recognized_48 rfl (by decide) rfl ?_
      refine pr_aload_n C dX9_recognized_49 rfl 1 rfl ?_
      refine pr_iload_n C dX9_recognized_50 rfl 2 rfl ?_
      refine pr_bipush (v := 31) C dX9_recognized_51 (by decide) ?_
      obtain ⟨r15, hc14, h⟩ := pr_b1_some h
      refine k_X9_of C pr_w507 hk0 hc14 (Nat.le_of_ble_eq_true rfl) (Nat.le_of_ble_eq_true rfl) (Nat.le_of_ble_eq_true rfl) dX9_recognized_53 ?_
      refine pr_aload_n C dX9_recognized_56 rfl 1 rfl ?_
      refine pr_iload_n C dX9_recognized_57 rfl 2 rfl ?_
      refine pr_bipush (v := 19) C dX9_recognized_58 (by decide) ?_
      obtain ⟨r17, hc16, h⟩ := pr_b1_some h
      refine k_X9_of C pr_w507 hk0 hc16 (Nat.le_of_ble_eq_true rfl) (Nat.le_of_ble_eq_true rfl) (Nat.le_of_ble_eq_true rfl) dX9_recognized_60 ?_
      refine pr_isub C dX9_recognized_63 ?_
      obtain ⟨r19, hc18, h⟩ := pr_b1_some h
      refine k_X9_size C pr_w554  hc18 (Nat.le_of_ble_eq_true rfl) (Nat.le_of_ble_eq_true rfl) (Nat.le_of_ble_eq_true rfl) dX9_recognized_64 ?_
      refine pr_istore (lv' := [(4, .int r19), (3, .int (r11 * v12)), (0, .ref (pr_ad (pr_EM l e) c)), (1, .int p1)]) C dX9_recognized_67 (by decide) rfl ?_
      refine pr_aload_n C dX9_recognized_69 rfl 2 rfl ?_
      refine pr_iload_n C dX9_recognized_70 rfl 3 rfl ?_
      refine pr_bipush (v := 25) C dX9_recognized_71 (by decide) ?_
      obtain ⟨r21, hc20, h⟩ := pr_b1_some h
      refine k_X9_of C pr_w507 hk0 hc20 (Nat.le_of_ble_eq_true rfl) (Nat.le_of_ble_eq_true rfl) (Nat.le_of_ble_eq_true rfl) dX9_recognized_73 ?_
      refine pr_aload_n C dX9_recognized_76 rfl 2 rfl ?_
      refine pr_iload_n C dX9_recognized_77 rfl 3 rfl ?_
      refine pr_bipush (v := 19) C dX9_recognized_78 (by decide) ?_
      obtain ⟨r23, hc22, h⟩ := pr_b1_some h
      refine k_X9_of C pr_w507 hk0 hc22 (Nat.le_of_ble_eq_true rfl) (Nat.le_of_ble_eq_true rfl) (Nat.le_of_ble_eq_true rfl) dX9_recognized_80 ?_
      refine pr_isub C dX9_recognized_83 ?_
      obtain ⟨r25, hc24, h⟩ := pr_b1_some h
      refine k_X9_size C pr_w554  hc24 (Nat.le_of_ble_eq_true rfl) (Nat.le_of_ble_eq_true rfl) (Nat.le_of_ble_eq_true rfl) dX9_recognized_84 ?_
      refine pr_istore (lv' := [(5, .int r25), (4, .int r19), (3, .int (r11 * v12)), (0, .ref (pr_ad (pr_EM l e) c)), (1, .int p1)]) C dX9_recognized_87 (by decide) rfl ?_
      refine pr_aload_n C dX9_recognized_89 rfl 3 rfl ?_
      refine pr_iload_n C dX9_recognized_90 rfl 4 rfl ?_
      refine pr_bipush (v := 24) C dX9_recognized_91 (by decide) ?_
      obtain ⟨r27, hc26, h⟩ := pr_b1_some h
      refine k_X9_of C pr_w507 hk0 hc26 (Nat.le_of_ble_eq_true rfl) (Nat.le_of_ble_eq_true rfl) (Nat.le_of_ble_eq_true rfl) dX9_recognized_93 ?_
      obtain ⟨v28, hv, h⟩ := pr_b1_some h
      have K : pr_W (pr_EM l e) Y { frames := 2, cells := 0, slots := 0, locals := 43 } 8 f 110 [(0, .ref (pr_ad (pr_EM l e) c)), (1, .int p1), (3, .int (r11 * v12)), (4, .int r19), (5, .int r25)] [.int v28] := by
        refine pr_istore (lv' := [(6, .int v28), (0, .ref (pr_ad (pr_EM l e) c)), (1, .int p1), (3, .int (r11 * v12)), (4, .int r19), (5, .int r25)]) C dX9_recognized_110 (by decide) rfl ?_
        refine pr_aload_n C dX9_recognized_112 rfl 1 rfl ?_
        refine pr_iload_n C dX9_recognized_113 rfl 2 rfl ?_
        refine pr_bipush (v := 26) C dX9_recognized_114 (by decide) ?_
        obtain ⟨r32, hc31, h⟩ := pr_b1_some h
        refine k_X9_of C pr_w507 hk0 hc31 (Nat.le_of_ble_eq_true rfl) (Nat.le_of_ble_eq_true rfl) (Nat.le_of_ble_eq_true rfl) dX9_recognized_116 ?_
        obtain ⟨v33, hv, h⟩ := pr_b1_some h
        have K : pr_W (pr_EM l e) Y { frames := 2, cells := 0, slots := 0, locals := 43 } 8 f 133 [(4, .int r19), (5, .int r25), (6, .int v28)] [.int v33] := by
          refine pr_istore (lv' := [(7, .int v33), (4, .int r19), (5, .int r25), (6, .int v28)]) C dX9_recognized_133 (by decide) rfl ?_
          refine pr_iload C dX9_recognized_135 3 rfl ?_
          refine pr_if_eq (tgt := 154) C dX9_recognized_137 (by decide) (fun c36 => ?_) (fun c36 => ?_)
          · have h := pr_ifT h c36
            refine pr_iload C dX9_recognized_154 0 rfl ?_
            refine pr_if_eq (tgt := 163) C dX9_recognized_156 (by decide) (fun c37 => ?_) (fun c37 => ?_)
            · have h := pr_ifT h c37
              refine pr_iconst (v := 0) C dX9_recognized_163 (by decide) ?_
              obtain rfl := pr_in1 h
              exact pr_iret C Z dX9_recognized_164
            · have h := pr_ifF h c37
              refine pr_iconst (v := 2) C dX9_recognized_159 (by decide) ?_
              refine pr_goto (tgt := 164) C dX9_recognized_160 (by decide) ?_
              obtain rfl := pr_in1 h
              exact pr_iret C Z dX9_recognized_164
          · have h := pr_ifF h c36
            refine pr_iload C dX9_recognized_140 0 rfl ?_
            refine pr_if_eq (tgt := 152) C dX9_recognized_142 (by decide) (fun c38 => ?_) (fun c38 => ?_)
            · have h := pr_ifT h c38
              refine pr_iconst (v := 1) C dX9_recognized_152 (by decide) ?_
              obtain rfl := pr_in1 h
              exact pr_iret C Z dX9_recognized_153
            · have h := pr_ifF h c38
              refine pr_iload C dX9_recognized_145 1 rfl ?_
              refine pr_iload C dX9_recognized_147 2 rfl ?_
              refine pr_icmp_gt (tgt := 154) C dX9_recognized_149 (by decide) (fun c39 => ?_) (fun c39 => ?_)
              · have h := pr_ifT h c39
                refine pr_iload C dX9_recognized_154 0 rfl ?_
                refine pr_if_eq (tgt := 163) C dX9_recognized_156 (by decide) (fun c40 => absurd c40 c38) (fun _ => ?_)
                refine pr_iconst (v := 2) C dX9_recognized_159 (by decide) ?_
                refine pr_goto (tgt := 164) C dX9_recognized_160 (by decide) ?_
                obtain rfl := pr_in1 h
                exact pr_iret C Z dX9_recognized_164
              · have h := pr_ifF h c39
                refine pr_iconst (v := 1) C dX9_recognized_152 (by decide) ?_
                obtain rfl := pr_in1 h
                exact pr_iret C Z dX9_recognized_153
        clear h
        have h := hv
        clear hv
        refine pr_if_le (tgt := 132) C dX9_recognized_119 (by decide) (fun c34 => ?_) (fun c34 => ?_)
        · have h := pr_ifT h c34
          refine pr_iconst (v := 0) C dX9_recognized_132 (by decide) ?_
          obtain rfl := pr_in1 h
          exact pr_pick [4, 5, 0] rfl K
        · have h := pr_ifF h c34
          refine pr_iload C dX9_recognized_122 5 rfl ?_
          refine pr_iload_n C dX9_recognized_124 rfl 3 rfl ?_
          refine pr_icmp_gt (tgt := 132) C dX9_recognized_125 (by decide) (fun c35 => ?_) (fun c35 => ?_)
          · have h := pr_ifT h c35
            refine pr_iconst (v := 0) C dX9_recognized_132 (by decide) ?_
            obtain rfl := pr_in1 h
            exact pr_pick [4, 5, 0] rfl K
          · have h := pr_ifF h c35
            refine pr_iconst (v := 1) C dX9_recognized_128 (by decide) ?_
            refine pr_goto (tgt := 133) C dX9_recognized_129 (by decide) ?_
            obtain rfl := pr_in1 h
            exact pr_pick [4, 5, 0] rfl K
      clear h
      have h := hv
      clear hv
      refine pr_if_ne (tgt := 109) C dX9_recognized_96 (by decide) (fun c29 => ?_) (fun c29 => ?_)
      · have h := pr_ifF h c29
        refine pr_iconst (v := 0) C dX9_recognized_109 (by decide) ?_
        obtain rfl := pr_in1 h
        exact pr_pick [3, 4, 2, 1, 0] rfl K
      · have h := pr_ifT h c29
        refine pr_iload C dX9_recognized_99 1 rfl ?_
        refine pr_iload_n C dX9_recognized_101 rfl 2 rfl ?_
        refine pr_icmp_gt (tgt := 109) C dX9_recognized_102 (by decide) (fun c30 => ?_) (fun c30 => ?_)
        · have h := pr_ifT h c30
          refine pr_iconst (v := 0) C dX9_recognized_109 (by decide) ?_
          obtain rfl := pr_in1 h
          exact pr_pick [3, 4, 2, 1, 0] rfl K
        · have h := pr_ifF h c30
          refine pr_iconst (v := 1) C dX9_recognized_105 (by decide) ?_
          refine pr_goto (tgt := 110) C dX9_recognized_106 (by decide) ?_
          obtain rfl := pr_in1 h
          exact pr_pick [3, 4, 2, 1, 0] rfl K
    clear h
    have h := hv
    clear hv
    refine pr_if_eq (tgt := 46) C dX9_recognized_39 (by decide) (fun c13 => ?_) (fun c13 => ?_)
    · have h := pr_ifT h c13
      refine pr_iconst (v := 1) C dX9_recognized_46 (by decide) ?_
      obtain rfl := pr_in1 h
      exact pr_pick [1, 2] rfl K
    · have h := pr_ifF h c13
      refine pr_iconst (v := 4) C dX9_recognized_42 (by decide) ?_
      refine pr_goto (tgt := 47) C dX9_recognized_43 (by decide) ?_
      obtain rfl := pr_in1 h
      exact pr_pick [1, 2] rfl K
  clear h
  have h := hv
  clear hv
  refine pr_icmp_ge (tgt := 26) C dX9_recognized_13 (by decide) (fun c6 => ?_) (fun c6 => ?_)
  · have h := pr_ifT h c6
    refine pr_iconst (v := 1) C dX9_recognized_26 (by decide) ?_
    refine pr_goto (tgt := 31) C dX9_recognized_27 (by decide) ?_
    obtain rfl := pr_in1 h
    exact pr_pick [0, 1] rfl K
  · have h := pr_ifF h c6
    refine pr_aload_n C dX9_recognized_16 rfl 0 rfl ?_
    refine pr_iload_n C dX9_recognized_17 rfl 1 rfl ?_
    refine pr_bipush (v := 18) C dX9_recognized_18 (by decide) ?_
    obtain ⟨r8, hc7, h⟩ := pr_b1_some h
    refine k_X9_of C pr_w507 hk0 hc7 (Nat.le_of_ble_eq_true rfl) (Nat.le_of_ble_eq_true rfl) (Nat.le_of_ble_eq_true rfl) dX9_recognized_20 ?_
    refine pr_if_le (tgt := 30) C dX9_recognized_23 (by decide) (fun c9 => ?_) (fun c9 => ?_)
    · have h := pr_ifT h c9
      refine pr_iconst (v := 0) C dX9_recognized_30 (by decide) ?_
      obtain rfl := pr_in1 h
      exact pr_pick [0, 1] rfl K
    · have h := pr_ifF h c9
      refine pr_iconst (v := 1) C dX9_recognized_26 (by decide) ?_
      refine pr_goto (tgt := 31) C dX9_recognized_27 (by decide) ?_
      obtain rfl := pr_in1 h
      exact pr_pick [0, 1] rfl K
theorem k_X9_recognized {l : Launch} {e : pr_E0} {Y : pr_Y} {Rm : Room} {cc : ByteArray} {own : String} {nL : Nat} {c0 : Cond} {pc idx : Nat} {lv : List (Nat × Value)} {st : List Value} {c : Nat} {p1 : Int32} {f : pr_M} {r : Int32} (C : pr_C (pr_EM l e) Y Rm cc own nL c0) (w1 : Cond.methodLink own idx yX9_recognized ∈ pr_AL) (hk0 : pr_LM[c]? = some (9, 0)) (h : F_X9_recognized c p1 f = some r) (hr1 : 3 ≤ Rm.frames) (hr2 : 70 ≤ Rm.locals) (hcat : (st.map fun v => v.category).sum ≤ 8) (hdg : decode cc pc = .ok (.invokevirtual idx, 3)) (k : pr_W (pr_EM l e) Y Rm nL f (pc + 3) lv (.int r :: st)) : pr_W (pr_EM l e) Y Rm nL f pc lv (.int p1 :: .ref (pr_ad (pr_EM l e) c) :: st) :=
  pr_callV (As := [.int p1]) (n := 1) C (m_X9_recognized hk0 h) hk0 (by decide) rfl w1 pr_w558 pr_w559 pr_w479 pr_w553 rfl rfl ⟨rfl, by decide +kernel, by decide +kernel, by decide +kernel⟩ rfl ⟨hr1, hr2⟩ rfl hcat hdg k

def F_X9_recognize (c : Nat) (p1 : Int32) (f : pr_M) : Option (Unit × pr_M) :=
  pr_b1 (F_X9_recognized c p1 f) fun r2 =>
  pr_bd (F_X9_lay c p1 33 r2 f) fun u4 f5 =>
  pr_b1 (α := Int32) (
    if r2 ≤ 0 then (
      some 0
    ) else (
      some 1
    )
  ) fun v6 =>
  pr_bd (F_X9_tally c 0 v6 f5) fun u9 f10 =>
  pr_b1 (α := Int32) (
    if r2 = 2 then (
      some 1
    ) else (
      some 0
    )
  ) fun v11 =>
  pr_bd (F_X9_tally c 1 v11 f10) fun u14 f15 =>
  pr_b1 (α := Int32) (
    if r2 = 0 then (
      some 1
    ) else (
      some 0
    )
  ) fun v16 =>
  pr_bd (F_X9_tally c 2 v16 f15) fun u19 f20 =>
  if r2 = 0 then (
    pr_b1 (F_X9_of c p1 17 f20) fun r44 =>
    pr_bd (F_X9_lay c p1 17 (r44 + 1) f20) fun u46 f47 =>
    some ((), f47)
  ) else (
    pr_bd (F_X9_lay c p1 17 0 f20) fun u23 f24 =>
    pr_b1 (α := Int32) (
      if r2 = 1 then (
        pr_b1 (F_X9_of c p1 31 f24) fun r30 =>
        some r30
      ) else (
        pr_b1 (F_X9_of c p1 25 f24) fun r28 =>
        some r28
      )
    ) fun v25 =>
    pr_bd (F_X9_lay c p1 34 v25 f24) fun u32 f33 =>
    pr_b1 (α := Int32) (
      if r2 = 1 then (
        pr_b1 (F_X9_of c p1 32 f33) fun r39 =>
        some r39
      ) else (
        pr_b1 (F_X9_of c p1 20 f33) fun r37 =>
        some r37
      )
    ) fun v34 =>
    pr_bd (F_X9_lay c p1 35 v34 f33) fun u41 f42 =>
    some ((), f42)
  )
set_option maxHeartbeats 4000000 in
set_option maxRecDepth 100000 in
theorem m_X9_recognize {l : Launch} {e : pr_E0} {c : Nat} {p1 : Int32} {f : pr_M} {r : Unit} {g : pr_M} (hk0 : pr_LM[c]? = some (9, 0)) (h : F_X9_recognize c p1 f = some (r, g)) : pr_Met (pr_EM l e) yX9_recognize cX9_recognize 3 none { frames := 3, cells := 0, slots := 0, locals := 70 } [.ref (pr_ad (pr_EM l e) c), .int p1] f none g := by
  rw [F_X9_recognize] at h
  refine pr_enter (by decide +kernel) (Nat.le_of_ble_eq_true rfl) (fun Y C Z => ?_)
  replace C : pr_C (pr_EM l e) Y { frames := 3, cells := 0, slots := 0, locals := 70 } cX9_recognize RX9 3 _ := C
  show pr_W (pr_EM l e) Y _ 3 f 0 [(0, .ref (pr_ad (pr_EM l e) c)), (1, .int p1)] []
  refine pr_aload_n C dX9_recognize_0 rfl 0 rfl ?_
  refine pr_iload_n C dX9_recognize_1 rfl 1 rfl ?_
  obtain ⟨r2, hc1, h⟩ := pr_b1_some h
  refine k_X9_recognized C pr_w557 hk0 hc1 (Nat.le_of_ble_eq_true rfl) (Nat.le_of_ble_eq_true rfl) (Nat.le_of_ble_eq_true rfl) dX9_recognize_2 ?_
  refine pr_istore_n (lv' := [(2, .int r2), (0, .ref (pr_ad (pr_EM l e) c)), (1, .int p1)]) C dX9_recognize_5 rfl (by decide) rfl ?_
  refine pr_aload_n C dX9_recognize_6 rfl 1 rfl ?_
  refine pr_iload_n C dX9_recognize_7 rfl 2 rfl ?_
  refine pr_bipush (v := 33) C dX9_recognize_8 (by decide) ?_
  refine pr_iload_n C dX9_recognize_10 rfl 0 rfl ?_
  obtain ⟨u4, f5, hc3, h⟩ := pr_bd_some h
  refine k_X9_lay C pr_w483 hk0 hc3 (Nat.le_of_ble_eq_true rfl) (Nat.le_of_ble_eq_true rfl) (Nat.le_of_ble_eq_true rfl) dX9_recognize_11 ?_
  refine pr_aload_n C dX9_recognize_14 rfl 1 rfl ?_
  refine pr_iconst (v := 0) C dX9_recognize_15 (by decide) ?_
  refine pr_iload_n C dX9_recognize_16 rfl 0 rfl ?_
  obtain ⟨v6, hv, h⟩ := pr_b1_some h
  have K : pr_W (pr_EM l e) Y { frames := 3, cells := 0, slots := 0, locals := 70 } 3 f5 25 [(0, .ref (pr_ad (pr_EM l e) c)), (1, .int p1), (2, .int r2)] [.int v6, .int 0, .ref (pr_ad (pr_EM l e) c)] := by
    obtain ⟨u9, f10, hc8, h⟩ := pr_bd_some h
    refine k_X9_tally C pr_w560 hk0 hc8 (Nat.le_of_ble_eq_true rfl) (Nat.le_of_ble_eq_true rfl) (Nat.le_of_ble_eq_true rfl) dX9_recognize_25 ?_
    refine pr_aload_n C dX9_recognize_28 rfl 0 rfl ?_
    refine pr_iconst (v := 1) C dX9_recognize_29 (by decide) ?_
    refine pr_iload_n C dX9_recognize_30 rfl 2 rfl ?_
    refine pr_iconst (v := 2) C dX9_recognize_31 (by decide) ?_
    obtain ⟨v11, hv, h⟩ := pr_b1_some h
    have K : pr_W (pr_EM l e) Y { frames := 3, cells := 0, slots := 0, locals := 70 } 3 f10 40 [(0, .ref (pr_ad (pr_EM l e) c)), (1, .int p1), (2, .int r2)] [.int v11, .int 1, .ref (pr_ad (pr_EM l e) c)] := by
      obtain ⟨u14, f15, hc13, h⟩ := pr_bd_some h
      refine k_X9_tally C pr_w560 hk0 hc13 (Nat.le_of_ble_eq_true rfl) (Nat.le_of_ble_eq_true rfl) (Nat.le_of_ble_eq_true rfl) dX9_recognize_40 ?_
      refine pr_aload_n C dX9_recognize_43 rfl 0 rfl ?_
      refine pr_iconst (v := 2) C dX9_recognize_44 (by decide) ?_
      refine pr_iload_n C dX9_recognize_45 rfl 2 rfl ?_
      obtain ⟨v16, hv, h⟩ := pr_b1_some h
      have K : pr_W (pr_EM l e) Y { frames := 3, cells := 0, slots := 0, locals := 70 } 3 f15 54 [(0, .ref (pr_ad (pr_EM l e) c)), (1, .int p1), (2, .int r2)] [.int v16, .int 2, .ref (pr_ad (pr_EM l e) c)] := by
        obtain ⟨u19, f20, hc18, h⟩ := pr_bd_some h
        refine k_X9_tally C pr_w560 hk0 hc18 (Nat.le_of_ble_eq_true rfl) (Nat.le_of_ble_eq_true rfl) (Nat.le_of_ble_eq_true rfl) dX9_recognize_54 ?_
        refine pr_iload_n C dX9_recognize_57 rfl 2 rfl ?_
        refine pr_if_ne (tgt := 78) C dX9_recognize_58 (by decide) (fun c21 => ?_) (fun c21 => ?_)
        · have h := pr_ifF h c21
          refine pr_aload_n C dX9_recognize_78 rfl 0 rfl ?_
          refine pr_iload_n C dX9_recognize_79 rfl 1 rfl ?_
          refine pr_bipush (v := 17) C dX9_recognize_80 (by decide) ?_
          refine pr_iconst (v := 0) C dX9_recognize_82 (by decide) ?_
          obtain ⟨u23, f24, hc22, h⟩ := pr_bd_some h
          refine k_X9_lay C pr_w483 hk0 hc22 (Nat.le_of_ble_eq_true rfl) (Nat.le_of_ble_eq_true rfl) (Nat.le_of_ble_eq_true rfl) dX9_recognize_83 ?_
          refine pr_aload_n C dX9_recognize_86 rfl 0 rfl ?_
          refine pr_iload_n C dX9_recognize_87 rfl 1 rfl ?_
          refine pr_bipush (v := 34) C dX9_recognize_88 (by decide) ?_
          refine pr_iload_n C dX9_recognize_90 rfl 2 rfl ?_
          refine pr_iconst (v := 1) C dX9_recognize_91 (by decide) ?_
          obtain ⟨v25, hv, h⟩ := pr_b1_some h
          have K : pr_W (pr_EM l e) Y { frames := 3, cells := 0, slots := 0, locals := 70 } 3 f24 112 [(0, .ref (pr_ad (pr_EM l e) c)), (1, .int p1), (2, .int r2)] [.int v25, .int 34, .int p1, .ref (pr_ad (pr_EM l e) c)] := by
            obtain ⟨u32, f33, hc31, h⟩ := pr_bd_some h
            refine k_X9_lay C pr_w483 hk0 hc31 (Nat.le_of_ble_eq_true rfl) (Nat.le_of_ble_eq_true rfl) (Nat.le_of_ble_eq_true rfl) dX9_recognize_112 ?_
            refine pr_aload_n C dX9_recognize_115 rfl 0 rfl ?_
            refine pr_iload_n C dX9_recognize_116 rfl 1 rfl ?_
            refine pr_bipush (v := 35) C dX9_recognize_117 (by decide) ?_
            refine pr_iload_n C dX9_recognize_119 rfl 2 rfl ?_
            refine pr_iconst (v := 1) C dX9_recognize_120 (by decide) ?_
            obtain ⟨v34, hv, h⟩ := pr_b1_some h
            have K : pr_W (pr_EM l e) Y { frames := 3, cells := 0, slots := 0, locals := 70 } 3 f33 141 [] [.int v34, .int 35, .int p1, .ref (pr_ad (pr_EM l e) c)] := by
              obtain ⟨u41, f42, hc40, h⟩ := pr_bd_some h
              refine k_X9_lay C pr_w483 hk0 hc40 (Nat.le_of_ble_eq_true rfl) (Nat.le_of_ble_eq_true rfl) (Nat.le_of_ble_eq_true rfl) dX9_recognize_141 ?_
              obtain ⟨rfl, rfl⟩ := pr_inj h
              exact pr_vret C Z dX9_recognize_144
            clear h
            have h := hv
            clear hv
            refine pr_icmp_ne (tgt := 134) C dX9_recognize_121 (by decide) (fun c35 => ?_) (fun c35 => ?_)
            · have h := pr_ifF h c35
              refine pr_aload_n C dX9_recognize_134 rfl 0 rfl ?_
              refine pr_iload_n C dX9_recognize_135 rfl 1 rfl ?_
              refine pr_bipush (v := 20) C dX9_recognize_136 (by decide) ?_
              obtain ⟨r37, hc36, h⟩ := pr_b1_some h
              refine k_X9_of C pr_w507 hk0 hc36 (Nat.le_of_ble_eq_true rfl) (Nat.le_of_ble_eq_true rfl) (Nat.le_of_ble_eq_true rfl) dX9_recognize_138 ?_
              obtain rfl := pr_in1 h
              exact pr_pick [] rfl K
            · have h := pr_ifT h c35
              refine pr_aload_n C dX9_recognize_124 rfl 0 rfl ?_
              refine pr_iload_n C dX9_recognize_125 rfl 1 rfl ?_
              refine pr_bipush (v := 32) C dX9_recognize_126 (by decide) ?_
              obtain ⟨r39, hc38, h⟩ := pr_b1_some h
              refine k_X9_of C pr_w507 hk0 hc38 (Nat.le_of_ble_eq_true rfl) (Nat.le_of_ble_eq_true rfl) (Nat.le_of_ble_eq_true rfl) dX9_recognize_128 ?_
              refine pr_goto (tgt := 141) C dX9_recognize_131 (by decide) ?_
              obtain rfl := pr_in1 h
              exact pr_pick [] rfl K
          clear h
          have h := hv
          clear hv
          refine pr_icmp_ne (tgt := 105) C dX9_recognize_92 (by decide) (fun c26 => ?_) (fun c26 => ?_)
          · have h := pr_ifF h c26
            refine pr_aload_n C dX9_recognize_105 rfl 0 rfl ?_
            refine pr_iload_n C dX9_recognize_106 rfl 1 rfl ?_
            refine pr_bipush (v := 25) C dX9_recognize_107 (by decide) ?_
            obtain ⟨r28, hc27, h⟩ := pr_b1_some h
            refine k_X9_of C pr_w507 hk0 hc27 (Nat.le_of_ble_eq_true rfl) (Nat.le_of_ble_eq_true rfl) (Nat.le_of_ble_eq_true rfl) dX9_recognize_109 ?_
            obtain rfl := pr_in1 h
            exact pr_pick [0, 1, 2] rfl K
          · have h := pr_ifT h c26
            refine pr_aload_n C dX9_recognize_95 rfl 0 rfl ?_
            refine pr_iload_n C dX9_recognize_96 rfl 1 rfl ?_
            refine pr_bipush (v := 31) C dX9_recognize_97 (by decide) ?_
            obtain ⟨r30, hc29, h⟩ := pr_b1_some h
            refine k_X9_of C pr_w507 hk0 hc29 (Nat.le_of_ble_eq_true rfl) (Nat.le_of_ble_eq_true rfl) (Nat.le_of_ble_eq_true rfl) dX9_recognize_99 ?_
            refine pr_goto (tgt := 112) C dX9_recognize_102 (by decide) ?_
            obtain rfl := pr_in1 h
            exact pr_pick [0, 1, 2] rfl K
        · have h := pr_ifT h c21
          refine pr_aload_n C dX9_recognize_61 rfl 0 rfl ?_
          refine pr_iload_n C dX9_recognize_62 rfl 1 rfl ?_
          refine pr_bipush (v := 17) C dX9_recognize_63 (by decide) ?_
          refine pr_aload_n C dX9_recognize_65 rfl 0 rfl ?_
          refine pr_iload_n C dX9_recognize_66 rfl 1 rfl ?_
          refine pr_bipush (v := 17) C dX9_recognize_67 (by decide) ?_
          obtain ⟨r44, hc43, h⟩ := pr_b1_some h
          refine k_X9_of C pr_w507 hk0 hc43 (Nat.le_of_ble_eq_true rfl) (Nat.le_of_ble_eq_true rfl) (Nat.le_of_ble_eq_true rfl) dX9_recognize_69 ?_
          refine pr_iconst (v := 1) C dX9_recognize_72 (by decide) ?_
          refine pr_iadd C dX9_recognize_73 ?_
          obtain ⟨u46, f47, hc45, h⟩ := pr_bd_some h
          refine k_X9_lay C pr_w483 hk0 hc45 (Nat.le_of_ble_eq_true rfl) (Nat.le_of_ble_eq_true rfl) (Nat.le_of_ble_eq_true rfl) dX9_recognize_74 ?_
          obtain ⟨rfl, rfl⟩ := pr_inj h
          exact pr_vret C Z dX9_recognize_77
      clear h
      have h := hv
      clear hv
      refine pr_if_ne (tgt := 53) C dX9_recognize_46 (by decide) (fun c17 => ?_) (fun c17 => ?_)
      · have h := pr_ifF h c17
        refine pr_iconst (v := 0) C dX9_recognize_53 (by decide) ?_
        obtain rfl := pr_in1 h
        exact pr_pick [0, 1, 2] rfl K
      · have h := pr_ifT h c17
        refine pr_iconst (v := 1) C dX9_recognize_49 (by decide) ?_
        refine pr_goto (tgt := 54) C dX9_recognize_50 (by decide) ?_
        obtain rfl := pr_in1 h
        exact pr_pick [0, 1, 2] rfl K
    clear h
    have h := hv
    clear hv
    refine pr_icmp_ne (tgt := 39) C dX9_recognize_32 (by decide) (fun c12 => ?_) (fun c12 => ?_)
    · have h := pr_ifF h c12
      refine pr_iconst (v := 0) C dX9_recognize_39 (by decide) ?_
      obtain rfl := pr_in1 h
      exact pr_pick [0, 1, 2] rfl K
    · have h := pr_ifT h c12
      refine pr_iconst (v := 1) C dX9_recognize_35 (by decide) ?_
      refine pr_goto (tgt := 40) C dX9_recognize_36 (by decide) ?_
      obtain rfl := pr_in1 h
      exact pr_pick [0, 1, 2] rfl K
  clear h
  have h := hv
  clear hv
  refine pr_if_le (tgt := 24) C dX9_recognize_17 (by decide) (fun c7 => ?_) (fun c7 => ?_)
  · have h := pr_ifT h c7
    refine pr_iconst (v := 0) C dX9_recognize_24 (by decide) ?_
    obtain rfl := pr_in1 h
    exact pr_pick [1, 2, 0] rfl K
  · have h := pr_ifF h c7
    refine pr_iconst (v := 1) C dX9_recognize_20 (by decide) ?_
    refine pr_goto (tgt := 25) C dX9_recognize_21 (by decide) ?_
    obtain rfl := pr_in1 h
    exact pr_pick [1, 2, 0] rfl K
theorem k_X9_recognize {l : Launch} {e : pr_E0} {Y : pr_Y} {Rm : Room} {cc : ByteArray} {own : String} {nL : Nat} {c0 : Cond} {pc idx : Nat} {lv : List (Nat × Value)} {st : List Value} {c : Nat} {p1 : Int32} {f : pr_M} {r : Unit} {g : pr_M} (C : pr_C (pr_EM l e) Y Rm cc own nL c0) (w1 : Cond.methodLink own idx yX9_recognize ∈ pr_AL) (hk0 : pr_LM[c]? = some (9, 0)) (h : F_X9_recognize c p1 f = some (r, g)) (hr1 : 4 ≤ Rm.frames) (hr2 : 92 ≤ Rm.locals) (hcat : (st.map fun v => v.category).sum ≤ 8) (hdg : decode cc pc = .ok (.invokevirtual idx, 3)) (k : pr_W (pr_EM l e) Y Rm nL g (pc + 3) lv (st)) : pr_W (pr_EM l e) Y Rm nL f pc lv (.int p1 :: .ref (pr_ad (pr_EM l e) c) :: st) :=
  pr_callV (As := [.int p1]) (n := 1) C (m_X9_recognize hk0 h) hk0 (by decide) rfl w1 pr_w587 pr_w588 pr_w479 pr_w556 rfl rfl ⟨rfl, by decide +kernel, by decide +kernel, by decide +kernel⟩ rfl ⟨hr1, hr2⟩ rfl hcat hdg k

def F_X9_isRecognized (c : Nat) (p1 : Int32) (f : pr_M) : Option (Int32) :=
  pr_b1 (F_X9_isSeen c p1 f) fun r2 =>
  if r2 = 0 then (
    some 0
  ) else (
    pr_b1 (F_X9_of c p1 33 f) fun r5 =>
    if r5 ≤ 0 then (
      some 0
    ) else (
      some 1
    )
  )
set_option maxHeartbeats 4000000 in
set_option maxRecDepth 100000 in
theorem m_X9_isRecognized {l : Launch} {e : pr_E0} {c : Nat} {p1 : Int32} {f : pr_M} {r : Int32} (hk0 : pr_LM[c]? = some (9, 0)) (h : F_X9_isRecognized c p1 f = some r) : pr_Met (pr_EM l e) yX9_isRecognized cX9_isRecognized 2 (some .boolean) { frames := 4, cells := 0, slots := 0, locals := 87 } [.ref (pr_ad (pr_EM l e) c), .int p1] f (some (.int r)) f := by
  rw [F_X9_isRecognized] at h
  refine pr_enter (by decide +kernel) (Nat.le_of_ble_eq_true rfl) (fun Y C Z => ?_)
  replace C : pr_C (pr_EM l e) Y { frames := 4, cells := 0, slots := 0, locals := 87 } cX9_isRecognized RX9 2 _ := C
  show pr_W (pr_EM l e) Y _ 2 f 0 [(0, .ref (pr_ad (pr_EM l e) c)), (1, .int p1)] []
  refine pr_aload_n C dX9_isRecognized_0 rfl 0 rfl ?_
  refine pr_iload_n C dX9_isRecognized_1 rfl 1 rfl ?_
  obtain ⟨r2, hc1, h⟩ := pr_b1_some h
  refine k_X9_isSeen C pr_w564 hk0 hc1 (Nat.le_of_ble_eq_true rfl) (Nat.le_of_ble_eq_true rfl) (Nat.le_of_ble_eq_true rfl) dX9_isRecognized_2 ?_
  refine pr_if_eq (tgt := 22) C dX9_isRecognized_5 (by decide) (fun c3 => ?_) (fun c3 => ?_)
  · have h := pr_ifT h c3
    refine pr_iconst (v := 0) C dX9_isRecognized_22 (by decide) ?_
    obtain rfl := pr_in1 h
    exact pr_zret C (by decide) Z dX9_isRecognized_23
  · have h := pr_ifF h c3
    refine pr_aload_n C dX9_isRecognized_8 rfl 0 rfl ?_
    refine pr_iload_n C dX9_isRecognized_9 rfl 1 rfl ?_
    refine pr_bipush (v := 33) C dX9_isRecognized_10 (by decide) ?_
    obtain ⟨r5, hc4, h⟩ := pr_b1_some h
    refine k_X9_of C pr_w507 hk0 hc4 (Nat.le_of_ble_eq_true rfl) (Nat.le_of_ble_eq_true rfl) (Nat.le_of_ble_eq_true rfl) dX9_isRecognized_12 ?_
    refine pr_if_le (tgt := 22) C dX9_isRecognized_15 (by decide) (fun c6 => ?_) (fun c6 => ?_)
    · have h := pr_ifT h c6
      refine pr_iconst (v := 0) C dX9_isRecognized_22 (by decide) ?_
      obtain rfl := pr_in1 h
      exact pr_zret C (by decide) Z dX9_isRecognized_23
    · have h := pr_ifF h c6
      refine pr_iconst (v := 1) C dX9_isRecognized_18 (by decide) ?_
      refine pr_goto (tgt := 23) C dX9_isRecognized_19 (by decide) ?_
      obtain rfl := pr_in1 h
      exact pr_zret C (by decide) Z dX9_isRecognized_23
theorem k_X9_isRecognized {l : Launch} {e : pr_E0} {Y : pr_Y} {Rm : Room} {cc : ByteArray} {own : String} {nL : Nat} {c0 : Cond} {pc idx : Nat} {lv : List (Nat × Value)} {st : List Value} {c : Nat} {p1 : Int32} {f : pr_M} {r : Int32} (C : pr_C (pr_EM l e) Y Rm cc own nL c0) (w1 : Cond.methodLink own idx yX9_isRecognized ∈ pr_AL) (hk0 : pr_LM[c]? = some (9, 0)) (h : F_X9_isRecognized c p1 f = some r) (hr1 : 5 ≤ Rm.frames) (hr2 : 108 ≤ Rm.locals) (hcat : (st.map fun v => v.category).sum ≤ 8) (hdg : decode cc pc = .ok (.invokevirtual idx, 3)) (k : pr_W (pr_EM l e) Y Rm nL f (pc + 3) lv (.int r :: st)) : pr_W (pr_EM l e) Y Rm nL f pc lv (.int p1 :: .ref (pr_ad (pr_EM l e) c) :: st) :=
  pr_callV (As := [.int p1]) (n := 1) C (m_X9_isRecognized hk0 h) hk0 (by decide) rfl w1 pr_w590 pr_w591 pr_w479 pr_w563 rfl rfl ⟨rfl, by decide +kernel, by decide +kernel, by decide +kernel⟩ rfl ⟨hr1, hr2⟩ rfl hcat hdg k

def F_X9_learn (c : Nat) (p1 : Int32) (f : pr_M) : Option (Unit × pr_M) :=
  pr_b1 (F_X9_of c p1 1 f) fun r3 =>
  pr_gd (¬ ((1778 + (((f (c + 1) (Int32.toNatClampNeg 1765)) - r3) - ((f (c + 1) (Int32.toNatClampNeg 1765)) - r3) / 128 * 128)) < 0 ∨ 1906 ≤ Int32.toNatClampNeg (1778 + (((f (c + 1) (Int32.toNatClampNeg 1765)) - r3) - ((f (c + 1) (Int32.toNatClampNeg 1765)) - r3) / 128 * 128)))) <|
  pr_b1 (F_X9_size (f (c + 1) (Int32.toNatClampNeg (1778 + (((f (c + 1) (Int32.toNatClampNeg 1765)) - r3) - ((f (c + 1) (Int32.toNatClampNeg 1765)) - r3) / 128 * 128)))) f) fun r6 =>
  if r6 < 10 then (
    some ((), f)
  ) else (
    pr_b1 (F_X9_of c p1 8 f) fun r9 =>
    if r9 ≤ 0 then (
      some ((), f)
    ) else (
      pr_b1 (F_X9_of c p1 34 f) fun r12 =>
      pr_b1 (F_X9_of c p1 19 f) fun r14 =>
      pr_gd (¬ (f (c + 1) (Int32.toNatClampNeg (1778 + (((f (c + 1) (Int32.toNatClampNeg 1765)) - r3) - ((f (c + 1) (Int32.toNatClampNeg 1765)) - r3) / 128 * 128)))) = 0) <|
      pr_b1 (F_X9_of c p1 8 f) fun r17 =>
      pr_b1 (F_X9_of c p1 14 f) fun r19 =>
      pr_b1 (F_X9_limited (r19 + (((((r12 - r14) * 100) / (f (c + 1) (Int32.toNatClampNeg (1778 + (((f (c + 1) (Int32.toNatClampNeg 1765)) - r3) - ((f (c + 1) (Int32.toNatClampNeg 1765)) - r3) / 128 * 128))))) * r17) / 256)) 500 f) fun r21 =>
      pr_bd (F_X9_lay c p1 14 r21 f) fun u23 f24 =>
      pr_bd (F_X9_tally c 5 1 f24) fun u26 f27 =>
      some ((), f27)
    )
  )
set_option maxHeartbeats 4000000 in
set_option maxRecDepth 100000 in
theorem m_X9_learn {l : Launch} {e : pr_E0} {c : Nat} {p1 : Int32} {f : pr_M} {r : Unit} {g : pr_M} (hk0 : pr_LM[c]? = some (9, 0)) (h : F_X9_learn c p1 f = some (r, g)) : pr_Met (pr_EM l e) yX9_learn cX9_learn 4 none { frames := 2, cells := 0, slots := 0, locals := 44 } [.ref (pr_ad (pr_EM l e) c), .int p1] f none g := by
  rw [F_X9_learn] at h
  refine pr_enter (by decide +kernel) (Nat.le_of_ble_eq_true rfl) (fun Y C Z => ?_)
  replace C : pr_C (pr_EM l e) Y { frames := 2, cells := 0, slots := 0, locals := 44 } cX9_learn RX9 4 _ := C
  show pr_W (pr_EM l e) Y _ 4 f 0 [(0, .ref (pr_ad (pr_EM l e) c)), (1, .int p1)] []
  refine pr_aload_n C dX9_learn_0 rfl 0 rfl ?_
  refine pr_g_9_0 C hk0 pr_w476 dX9_learn_1 ?_
  have hk1 := pr_kM_9_0 hk0
  refine pr_sipush (v := 1778) C dX9_learn_4 (by decide) ?_
  refine pr_aload_n C dX9_learn_7 rfl 0 rfl ?_
  refine pr_g_9_0 C hk0 pr_w476 dX9_learn_8 ?_
  refine pr_sipush (v := 1765) C dX9_learn_11 (by decide) ?_
  refine pr_iaload C hk1 (pr_inlit (by decide +kernel)) dX9_learn_14 ?_
  refine pr_aload_n C dX9_learn_15 rfl 0 rfl ?_
  refine pr_iload_n C dX9_learn_16 rfl 1 rfl ?_
  refine pr_iconst (v := 1) C dX9_learn_17 (by decide) ?_
  obtain ⟨r3, hc2, h⟩ := pr_b1_some h
  refine k_X9_of C pr_w507 hk0 hc2 (Nat.le_of_ble_eq_true rfl) (Nat.le_of_ble_eq_true rfl) (Nat.le_of_ble_eq_true rfl) dX9_learn_18 ?_
  refine pr_isub C dX9_learn_21 ?_
  refine pr_sipush (v := 128) C dX9_learn_22 (by decide) ?_
  refine pr_irem C dX9_learn_25 (by decide) ?_
  refine pr_iadd C dX9_learn_26 ?_
  obtain ⟨hg4, h⟩ := pr_gd_some h
  refine pr_iaload C hk1 hg4 dX9_learn_27 ?_
  refine pr_istore_n (lv' := [(2, .int (f (c + 1) (Int32.toNatClampNeg (1778 + (((f (c + 1) (Int32.toNatClampNeg 1765)) - r3) - ((f (c + 1) (Int32.toNatClampNeg 1765)) - r3) / 128 * 128))))), (0, .ref (pr_ad (pr_EM l e) c)), (1, .int p1)]) C dX9_learn_28 rfl (by decide) rfl ?_
  refine pr_iload_n C dX9_learn_29 rfl 0 rfl ?_
  obtain ⟨r6, hc5, h⟩ := pr_b1_some h
  refine k_X9_size C pr_w554  hc5 (Nat.le_of_ble_eq_true rfl) (Nat.le_of_ble_eq_true rfl) (Nat.le_of_ble_eq_true rfl) dX9_learn_30 ?_
  refine pr_bipush (v := 10) C dX9_learn_33 (by decide) ?_
  refine pr_icmp_lt (tgt := 109) C dX9_learn_35 (by decide) (fun c7 => ?_) (fun c7 => ?_)
  · have h := pr_ifT h c7
    obtain ⟨rfl, rfl⟩ := pr_inj h
    exact pr_vret C Z dX9_learn_109
  · have h := pr_ifF h c7
    refine pr_aload_n C dX9_learn_38 rfl 1 rfl ?_
    refine pr_iload_n C dX9_learn_39 rfl 2 rfl ?_
    refine pr_bipush (v := 8) C dX9_learn_40 (by decide) ?_
    obtain ⟨r9, hc8, h⟩ := pr_b1_some h
    refine k_X9_of C pr_w507 hk0 hc8 (Nat.le_of_ble_eq_true rfl) (Nat.le_of_ble_eq_true rfl) (Nat.le_of_ble_eq_true rfl) dX9_learn_42 ?_
    refine pr_if_le (tgt := 109) C dX9_learn_45 (by decide) (fun c10 => ?_) (fun c10 => ?_)
    · have h := pr_ifT h c10
      obtain ⟨rfl, rfl⟩ := pr_inj h
      exact pr_vret C Z dX9_learn_109
    · have h := pr_ifF h c10
      refine pr_aload_n C dX9_learn_48 rfl 1 rfl ?_
      refine pr_iload_n C dX9_learn_49 rfl 2 rfl ?_
      refine pr_bipush (v := 34) C dX9_learn_50 (by decide) ?_
      obtain ⟨r12, hc11, h⟩ := pr_b1_some h
      refine k_X9_of C pr_w507 hk0 hc11 (Nat.le_of_ble_eq_true rfl) (Nat.le_of_ble_eq_true rfl) (Nat.le_of_ble_eq_true rfl) dX9_learn_52 ?_
      refine pr_aload_n C dX9_learn_55 rfl 1 rfl ?_
      refine pr_iload_n C dX9_learn_56 rfl 2 rfl ?_
      refine pr_bipush (v := 19) C dX9_learn_57 (by decide) ?_
      obtain ⟨r14, hc13, h⟩ := pr_b1_some h
      refine k_X9_of C pr_w507 hk0 hc13 (Nat.le_of_ble_eq_true rfl) (Nat.le_of_ble_eq_true rfl) (Nat.le_of_ble_eq_true rfl) dX9_learn_59 ?_
      refine pr_isub C dX9_learn_62 ?_
      refine pr_bipush (v := 100) C dX9_learn_63 (by decide) ?_
      refine pr_imul C dX9_learn_65 ?_
      refine pr_iload_n C dX9_learn_66 rfl 0 rfl ?_
      obtain ⟨hg15, h⟩ := pr_gd_some h
      refine pr_idiv C dX9_learn_67 hg15 ?_
      refine pr_aload_n C dX9_learn_68 rfl 1 rfl ?_
      refine pr_iload_n C dX9_learn_69 rfl 2 rfl ?_
      refine pr_bipush (v := 8) C dX9_learn_70 (by decide) ?_
      obtain ⟨r17, hc16, h⟩ := pr_b1_some h
      refine k_X9_of C pr_w507 hk0 hc16 (Nat.le_of_ble_eq_true rfl) (Nat.le_of_ble_eq_true rfl) (Nat.le_of_ble_eq_true rfl) dX9_learn_72 ?_
      refine pr_imul C dX9_learn_75 ?_
      refine pr_sipush (v := 256) C dX9_learn_76 (by decide) ?_
      refine pr_idiv C dX9_learn_79 (by decide) ?_
      refine pr_istore_n (lv' := [(3, .int (((((r12 - r14) * 100) / (f (c + 1) (Int32.toNatClampNeg (1778 + (((f (c + 1) (Int32.toNatClampNeg 1765)) - r3) - ((f (c + 1) (Int32.toNatClampNeg 1765)) - r3) / 128 * 128))))) * r17) / 256)), (2, .int (f (c + 1) (Int32.toNatClampNeg (1778 + (((f (c + 1) (Int32.toNatClampNeg 1765)) - r3) - ((f (c + 1) (Int32.toNatClampNeg 1765)) - r3) / 128 * 128))))), (0, .ref (pr_ad (pr_EM l e) c)), (1, .int p1)]) C dX9_learn_80 rfl (by decide) rfl ?_
      refine pr_aload_n C dX9_learn_81 rfl 2 rfl ?_
      refine pr_iload_n C dX9_learn_82 rfl 3 rfl ?_
      refine pr_bipush (v := 14) C dX9_learn_83 (by decide) ?_
      refine pr_aload_n C dX9_learn_85 rfl 2 rfl ?_
      refine pr_iload_n C dX9_learn_86 rfl 3 rfl ?_
      refine pr_bipush (v := 14) C dX9_learn_87 (by decide) ?_
      obtain ⟨r19, hc18, h⟩ := pr_b1_some h
      refine k_X9_of C pr_w507 hk0 hc18 (Nat.le_of_ble_eq_true rfl) (Nat.le_of_ble_eq_true rfl) (Nat.le_of_ble_eq_true rfl) dX9_learn_89 ?_
      refine pr_iload_n C dX9_learn_92 rfl 0 rfl ?_
      refine pr_iadd C dX9_learn_93 ?_
      refine pr_sipush (v := 500) C dX9_learn_94 (by decide) ?_
      obtain ⟨r21, hc20, h⟩ := pr_b1_some h
      refine k_X9_limited C pr_w568  hc20 (Nat.le_of_ble_eq_true rfl) (Nat.le_of_ble_eq_true rfl) (Nat.le_of_ble_eq_true rfl) dX9_learn_97 ?_
      obtain ⟨u23, f24, hc22, h⟩ := pr_bd_some h
      refine k_X9_lay C pr_w483 hk0 hc22 (Nat.le_of_ble_eq_true rfl) (Nat.le_of_ble_eq_true rfl) (Nat.le_of_ble_eq_true rfl) dX9_learn_100 ?_
      refine pr_aload_n C dX9_learn_103 rfl 2 rfl ?_
      refine pr_iconst (v := 5) C dX9_learn_104 (by decide) ?_
      refine pr_iconst (v := 1) C dX9_learn_105 (by decide) ?_
      obtain ⟨u26, f27, hc25, h⟩ := pr_bd_some h
      refine k_X9_tally C pr_w560 hk0 hc25 (Nat.le_of_ble_eq_true rfl) (Nat.le_of_ble_eq_true rfl) (Nat.le_of_ble_eq_true rfl) dX9_learn_106 ?_
      obtain ⟨rfl, rfl⟩ := pr_inj h
      exact pr_vret C Z dX9_learn_109
theorem k_X9_learn {l : Launch} {e : pr_E0} {Y : pr_Y} {Rm : Room} {cc : ByteArray} {own : String} {nL : Nat} {c0 : Cond} {pc idx : Nat} {lv : List (Nat × Value)} {st : List Value} {c : Nat} {p1 : Int32} {f : pr_M} {r : Unit} {g : pr_M} (C : pr_C (pr_EM l e) Y Rm cc own nL c0) (w1 : Cond.methodLink own idx yX9_learn ∈ pr_AL) (hk0 : pr_LM[c]? = some (9, 0)) (h : F_X9_learn c p1 f = some (r, g)) (hr1 : 3 ≤ Rm.frames) (hr2 : 67 ≤ Rm.locals) (hcat : (st.map fun v => v.category).sum ≤ 8) (hdg : decode cc pc = .ok (.invokevirtual idx, 3)) (k : pr_W (pr_EM l e) Y Rm nL g (pc + 3) lv (st)) : pr_W (pr_EM l e) Y Rm nL f pc lv (.int p1 :: .ref (pr_ad (pr_EM l e) c) :: st) :=
  pr_callV (As := [.int p1]) (n := 1) C (m_X9_learn hk0 h) hk0 (by decide) rfl w1 pr_w593 pr_w594 pr_w479 pr_w567 rfl rfl ⟨rfl, by decide +kernel, by decide +kernel, by decide +kernel⟩ rfl ⟨hr1, hr2⟩ rfl hcat hdg k

def F_X9_expect (c : Nat) (p1 : Int32) (f : pr_M) : Option (Unit × pr_M) :=
  pr_b1 (F_X9_of c p1 34 f) fun r2 =>
  pr_bd (F_X9_lay c p1 19 r2 f) fun u4 f5 =>
  pr_b1 (F_X9_of c p1 35 f5) fun r7 =>
  pr_bd (F_X9_lay c p1 20 r7 f5) fun u9 f10 =>
  some ((), f10)
set_option maxHeartbeats 4000000 in
set_option maxRecDepth 100000 in
theorem m_X9_expect {l : Launch} {e : pr_E0} {c : Nat} {p1 : Int32} {f : pr_M} {r : Unit} {g : pr_M} (hk0 : pr_LM[c]? = some (9, 0)) (h : F_X9_expect c p1 f = some (r, g)) : pr_Met (pr_EM l e) yX9_expect cX9_expect 2 none { frames := 2, cells := 0, slots := 0, locals := 44 } [.ref (pr_ad (pr_EM l e) c), .int p1] f none g := by
  rw [F_X9_expect] at h
  refine pr_enter (by decide +kernel) (Nat.le_of_ble_eq_true rfl) (fun Y C Z => ?_)
  replace C : pr_C (pr_EM l e) Y { frames := 2, cells := 0, slots := 0, locals := 44 } cX9_expect RX9 2 _ := C
  show pr_W (pr_EM l e) Y _ 2 f 0 [(0, .ref (pr_ad (pr_EM l e) c)), (1, .int p1)] []
  refine pr_aload_n C dX9_expect_0 rfl 0 rfl ?_
  refine pr_iload_n C dX9_expect_1 rfl 1 rfl ?_
  refine pr_bipush (v := 19) C dX9_expect_2 (by decide) ?_
  refine pr_aload_n C dX9_expect_4 rfl 0 rfl ?_
  refine pr_iload_n C dX9_expect_5 rfl 1 rfl ?_
  refine pr_bipush (v := 34) C dX9_expect_6 (by decide) ?_
  obtain ⟨r2, hc1, h⟩ := pr_b1_some h
  refine k_X9_of C pr_w507 hk0 hc1 (Nat.le_of_ble_eq_true rfl) (Nat.le_of_ble_eq_true rfl) (Nat.le_of_ble_eq_true rfl) dX9_expect_8 ?_
  obtain ⟨u4, f5, hc3, h⟩ := pr_bd_some h
  refine k_X9_lay C pr_w483 hk0 hc3 (Nat.le_of_ble_eq_true rfl) (Nat.le_of_ble_eq_true rfl) (Nat.le_of_ble_eq_true rfl) dX9_expect_11 ?_
  refine pr_aload_n C dX9_expect_14 rfl 0 rfl ?_
  refine pr_iload_n C dX9_expect_15 rfl 1 rfl ?_
  refine pr_bipush (v := 20) C dX9_expect_16 (by decide) ?_
  refine pr_aload_n C dX9_expect_18 rfl 0 rfl ?_
  refine pr_iload_n C dX9_expect_19 rfl 1 rfl ?_
  refine pr_bipush (v := 35) C dX9_expect_20 (by decide) ?_
  obtain ⟨r7, hc6, h⟩ := pr_b1_some h
  refine k_X9_of C pr_w507 hk0 hc6 (Nat.le_of_ble_eq_true rfl) (Nat.le_of_ble_eq_true rfl) (Nat.le_of_ble_eq_true rfl) dX9_expect_22 ?_
  obtain ⟨u9, f10, hc8, h⟩ := pr_bd_some h
  refine k_X9_lay C pr_w483 hk0 hc8 (Nat.le_of_ble_eq_true rfl) (Nat.le_of_ble_eq_true rfl) (Nat.le_of_ble_eq_true rfl) dX9_expect_25 ?_
  obtain ⟨rfl, rfl⟩ := pr_inj h
  exact pr_vret C Z dX9_expect_28
theorem k_X9_expect {l : Launch} {e : pr_E0} {Y : pr_Y} {Rm : Room} {cc : ByteArray} {own : String} {nL : Nat} {c0 : Cond} {pc idx : Nat} {lv : List (Nat × Value)} {st : List Value} {c : Nat} {p1 : Int32} {f : pr_M} {r : Unit} {g : pr_M} (C : pr_C (pr_EM l e) Y Rm cc own nL c0) (w1 : Cond.methodLink own idx yX9_expect ∈ pr_AL) (hk0 : pr_LM[c]? = some (9, 0)) (h : F_X9_expect c p1 f = some (r, g)) (hr1 : 3 ≤ Rm.frames) (hr2 : 65 ≤ Rm.locals) (hcat : (st.map fun v => v.category).sum ≤ 8) (hdg : decode cc pc = .ok (.invokevirtual idx, 3)) (k : pr_W (pr_EM l e) Y Rm nL g (pc + 3) lv (st)) : pr_W (pr_EM l e) Y Rm nL f pc lv (.int p1 :: .ref (pr_ad (pr_EM l e) c) :: st) :=
  pr_callV (As := [.int p1]) (n := 1) C (m_X9_expect hk0 h) hk0 (by decide) rfl w1 pr_w596 pr_w597 pr_w479 pr_w570 rfl rfl ⟨rfl, by decide +kernel, by decide +kernel, by decide +kernel⟩ rfl ⟨hr1, hr2⟩ rfl hcat hdg k
