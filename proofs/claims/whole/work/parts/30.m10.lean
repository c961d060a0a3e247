def L_X9_errors_72 (q0 : Nat) (x1 : Int32) (x3 : Int32) (x4 : Int32) (x5 : Int32) : Nat → Int32 → Int32 → Int32 → Int32 → pr_M → Option (Int32 × Int32 × Int32)
  | 0, _, _, _, _, _ => none
  | n + 1, x6, x7, x8, x9, f =>
    if x4 ≤ x9 then (
      some (x6, x7, x8)
    ) else (
      pr_b1 (F_X9_of q0 x1 (37 + (x9 - x9 / 60 * 60)) f) fun r73003 =>
      pr_b1 (F_X9_size r73003 f) fun r73005 =>
      pr_b1 (α := Int32) (
        if r73005 ≤ x6 then (
          some x6
        ) else (
          some r73005
        )
      ) fun v73006 =>
      pr_b1 (F_X9_of q0 x1 6 f) fun r73009 =>
      pr_b1 (α := Int32) (
        if r73005 ≤ r73009 then (
          some 0
        ) else (
          some 1
        )
      ) fun v73010 =>
      L_X9_errors_72 q0 x1 x3 x4 x5 n v73006 (x7 + r73005) (x8 + v73010) (x9 + 1) f
    )
set_option maxHeartbeats 4000000 in
set_option maxRecDepth 100000 in
theorem l_X9_errors_72 {l : Launch} {e : pr_E0} {Y : pr_Y} {c0 : Cond} {q0 : Nat} {x1 : Int32} {x3 : Int32} {x4 : Int32} {x5 : Int32} {z : Int32 × Int32 × Int32} (C : pr_C (pr_EM l e) Y { frames := 3, cells := 0, slots := 0, locals := 64 } cX9_errors RX9 11 c0) (hq0 : pr_LM[q0]? = some (9, 0)) : ∀ (n : Nat) (x6 : Int32) (x7 : Int32) (x8 : Int32) (x9 : Int32) (f : pr_M), L_X9_errors_72 q0 x1 x3 x4 x5 n x6 x7 x8 x9 f = some z → pr_W (pr_EM l e) Y { frames := 3, cells := 0, slots := 0, locals := 64 } 11 f 148 [(3, .int x3), (5, .int x5), (6, .int z.1), (7, .int z.2.1), (8, .int z.2.2)] [] → pr_W (pr_EM l e) Y { frames := 3, cells := 0, slots := 0, locals := 64 } 11 f 72 [(0, .ref (pr_ad (pr_EM l e) q0)), (1, .int x1), (3, .int x3), (4, .int x4), (5, .int x5), (6, .int x6), (7, .int x7), (8, .int x8), (9, .int x9)] [] := by
  intro n
  induction n with
  | zero =>
    intro x6 x7 x8 x9 f h
    exact absurd h (by simp [L_X9_errors_72])
  | succ n ih =>
    intro x6 x7 x8 x9 f h K
    rw [L_X9_errors_72] at h
    refine pr_iload C dX9_errors_72 8 rfl ?_
    refine pr_iload C dX9_errors_74 3 rfl ?_
    refine pr_icmp_ge (tgt := 148) C dX9_errors_76 (by decide) (fun c73001 => ?_) (fun c73001 => ?_)
    · have h := pr_ifT h c73001
      obtain rfl := pr_in1 h
      exact pr_pick [2, 4, 5, 6, 7] rfl K
    · have h := pr_ifF h c73001
      refine pr_aload_n C dX9_errors_79 rfl 0 rfl ?_
      refine pr_iload_n C dX9_errors_80 rfl 1 rfl ?_
      refine pr_bipush (v := 37) C dX9_errors_81 (by decide) ?_
      refine pr_iload C dX9_errors_83 8 rfl ?_
      refine pr_bipush (v := 60) C dX9_errors_85 (by decide) ?_
      refine pr_irem C dX9_errors_87 (by decide) ?_
      refine pr_iadd C dX9_errors_88 ?_
      obtain ⟨r73003, hc73002, h⟩ := pr_b1_some h
      refine k_X9_of C pr_w507 hq0 hc73002 (Nat.le_of_ble_eq_true rfl) (Nat.le_of_ble_eq_true rfl) (Nat.le_of_ble_eq_true rfl) dX9_errors_89 ?_
      obtain ⟨r73005, hc73004, h⟩ := pr_b1_some h
      refine k_X9_size C pr_w554  hc73004 (Nat.le_of_ble_eq_true rfl) (Nat.le_of_ble_eq_true rfl) (Nat.le_of_ble_eq_true rfl) dX9_errors_92 ?_
      refine pr_istore (lv' := [(10, .int r73005), (0, .ref (pr_ad (pr_EM l e) q0)), (1, .int x1), (3, .int x3), (4, .int x4), (5, .int x5), (6, .int x6), (7, .int x7), (8, .int x8), (9, .int x9)]) C dX9_errors_95 (by decide) rfl ?_
      refine pr_iload C dX9_errors_97 0 rfl ?_
      refine pr_iload C dX9_errors_99 6 rfl ?_
      obtain ⟨v73006, hv, h⟩ := pr_b1_some h
      have K : pr_W (pr_EM l e) Y { frames := 3, cells := 0, slots := 0, locals := 64 } 11 f 111 [(0, .ref (pr_ad (pr_EM l e) q0)), (1, .int x1), (3, .int x3), (4, .int x4), (5, .int x5), (7, .int x7), (8, .int x8), (9, .int x9), (10, .int r73005)] [.int v73006] := by
        refine pr_istore (lv' := [(6, .int v73006), (0, .ref (pr_ad (pr_EM l e) q0)), (1, .int x1), (3, .int x3), (4, .int x4), (5, .int x5), (7, .int x7), (8, .int x8), (9, .int x9), (10, .int r73005)]) C dX9_errors_111 (by decide) rfl ?_
        refine pr_iload C dX9_errors_113 6 rfl ?_
        refine pr_iload C dX9_errors_115 9 rfl ?_
        refine pr_iadd C dX9_errors_117 ?_
        refine pr_istore (lv' := [(7, .int (x7 + r73005)), (6, .int v73006), (0, .ref (pr_ad (pr_EM l e) q0)), (1, .int x1), (3, .int x3), (4, .int x4), (5, .int x5), (8, .int x8), (9, .int x9), (10, .int r73005)]) C dX9_errors_118 (by decide) rfl ?_
        refine pr_iload C dX9_errors_120 7 rfl ?_
        refine pr_iload C dX9_errors_122 9 rfl ?_
        refine pr_aload_n C dX9_errors_124 rfl 2 rfl ?_
        refine pr_iload_n C dX9_errors_125 rfl 3 rfl ?_
        refine pr_bipush (v := 6) C dX9_errors_126 (by decide) ?_
        obtain ⟨r73009, hc73008, h⟩ := pr_b1_some h
        refine k_X9_of C pr_w507 hq0 hc73008 (Nat.le_of_ble_eq_true rfl) (Nat.le_of_ble_eq_true rfl) (Nat.le_of_ble_eq_true rfl) dX9_errors_128 ?_
        obtain ⟨v73010, hv, h⟩ := pr_b1_some h
        have K : pr_W (pr_EM l e) Y { frames := 3, cells := 0, slots := 0, locals := 64 } 11 f 139 [(0, .ref (pr_ad (pr_EM l e) q0)), (1, .int x1), (3, .int x3), (4, .int x4), (5, .int x5), (6, .int v73006), (7, .int (x7 + r73005)), (9, .int x9)] [.int v73010, .int x8] := by
          refine pr_iadd C dX9_errors_139 ?_
          refine pr_istore (lv' := [(8, .int (x8 + v73010)), (0, .ref (pr_ad (pr_EM l e) q0)), (1, .int x1), (3, .int x3), (4, .int x4), (5, .int x5), (6, .int v73006), (7, .int (x7 + r73005)), (9, .int x9)]) C dX9_errors_140 (by decide) rfl ?_
          refine pr_iinc (v := (x9 + 1)) (lv' := [(9, .int (x9 + 1)), (8, .int (x8 + v73010)), (0, .ref (pr_ad (pr_EM l e) q0)), (1, .int x1), (3, .int x3), (4, .int x4), (5, .int x5), (6, .int v73006), (7, .int (x7 + r73005))]) C dX9_errors_142 8 rfl rfl (by decide) rfl ?_
          refine pr_goto (tgt := 72) C dX9_errors_145 (by decide) ?_
          exact pr_pick [2, 3, 4, 5, 6, 7, 8, 1, 0] rfl (ih _ _ _ _ _ h K)
        clear h
        have h := hv
        clear hv
        refine pr_icmp_le (tgt := 138) C dX9_errors_131 (by decide) (fun c73011 => ?_) (fun c73011 => ?_)
        · have h := pr_ifT h c73011
          refine pr_iconst (v := 0) C dX9_errors_138 (by decide) ?_
          obtain rfl := pr_in1 h
          exact pr_pick [2, 3, 4, 5, 6, 1, 0, 8] rfl K
        · have h := pr_ifF h c73011
          refine pr_iconst (v := 1) C dX9_errors_134 (by decide) ?_
          refine pr_goto (tgt := 139) C dX9_errors_135 (by decide) ?_
          obtain rfl := pr_in1 h
          exact pr_pick [2, 3, 4, 5, 6, 1, 0, 8] rfl K
      clear h
      have h := hv
      clear hv
      refine pr_icmp_le (tgt := 109) C dX9_errors_101 (by decide) (fun c73007 => ?_) (fun c73007 => ?_)
      · have h := pr_ifT h c73007
        refine pr_iload C dX9_errors_109 6 rfl ?_
        obtain rfl := pr_in1 h
        exact pr_pick [1, 2, 3, 4, 5, 7, 8, 9, 0] rfl K
      · have h := pr_ifF h c73007
        refine pr_iload C dX9_errors_104 0 rfl ?_
        refine pr_goto (tgt := 111) C dX9_errors_106 (by decide) ?_
        obtain rfl := pr_in1 h
        exact pr_pick [1, 2, 3, 4, 5, 7, 8, 9, 0] rfl K
def F_X9_errors (c : Nat) (p1 : Int32) (p2 : Int32) (p3 : Int32) (f : pr_M) : Option (Int32) :=
  pr_b1 (F_X9_isControlled c p1 f) fun r2 =>
  if r2 = 0 then (
    some (-1000000001)
  ) else (
    pr_b1 (F_X9_in p2 1 60 f) fun r5 =>
    if r5 = 0 then (
      some (-1000000002)
    ) else (
      pr_b1 (F_X9_in p3 0 3 f) fun r8 =>
      if r8 = 0 then (
        some (-1000000002)
      ) else (
        pr_b1 (F_X9_of c p1 36 f) fun r11 =>
        pr_b1 (α := Int32) (
          if p2 ≤ r11 then (
            some p2
          ) else (
            some r11
          )
        ) fun v12 =>
        pr_b1 (L_X9_errors_72 c p1 p3 r11 v12 pr_fuel 0 0 0 (r11 - v12) f) fun v14 =>
        if p3 = 0 then (
          some v14.1
        ) else (
          if p3 = 1 then (
            some v14.2.1
          ) else (
            if p3 = 2 then (
              some v12
            ) else (
              some v14.2.2
            )
          )
        )
      )
    )
  )
set_option maxHeartbeats 4000000 in
set_option maxRecDepth 100000 in
theorem m_X9_errors {l : Launch} {e : pr_E0} {c : Nat} {p1 : Int32} {p2 : Int32} {p3 : Int32} {f : pr_M} {r : Int32} (hk0 : pr_LM[c]? = some (9, 0)) (h : F_X9_errors c p1 p2 p3 f = some r) : pr_Met (pr_EM l e) yX9_errors cX9_errors 11 (some .int) { frames := 3, cells := 0, slots := 0, locals := 64 } [.ref (pr_ad (pr_EM l e) c), .int p1, .int p2, .int p3] f (some (.int r)) f := by
  rw [F_X9_errors] at h
  refine pr_enter (by decide +kernel) (Nat.le_of_ble_eq_true rfl) (fun Y C Z => ?_)
  replace C : pr_C (pr_EM l e) Y { frames := 3, cells := 0, slots := 0, locals := 64 } cX9_errors RX9 11 _ := C
  show pr_W (pr_EM l e) Y _ 11 f 0 [(0, .ref (pr_ad (pr_EM l e) c)), (1, .int p1), (2, .int p2), (3, .int p3)] []
  refine pr_aload_n C dX9_errors_0 rfl 0 rfl ?_
  refine pr_iload_n C dX9_errors_1 rfl 1 rfl ?_
  obtain ⟨r2, hc1, h⟩ := pr_b1_some h
  refine k_X9_isControlled C pr_w617 hk0 hc1 (Nat.le_of_ble_eq_true rfl) (Nat.le_of_ble_eq_true rfl) (Nat.le_of_ble_eq_true rfl) dX9_errors_2 ?_
  refine pr_if_ne (tgt := 11) C dX9_errors_5 (by decide) (fun c3 => ?_) (fun c3 => ?_)
  · have h := pr_ifF h c3
    refine pr_iload_n C dX9_errors_11 rfl 2 rfl ?_
    refine pr_iconst (v := 1) C dX9_errors_12 (by decide) ?_
    refine pr_bipush (v := 60) C dX9_errors_13 (by decide) ?_
    obtain ⟨r5, hc4, h⟩ := pr_b1_some h
    refine k_X9_in C pr_w504  hc4 (Nat.le_of_ble_eq_true rfl) (Nat.le_of_ble_eq_true rfl) (Nat.le_of_ble_eq_true rfl) dX9_errors_15 ?_
    refine pr_if_eq (tgt := 30) C dX9_errors_18 (by decide) (fun c6 => ?_) (fun c6 => ?_)
    · have h := pr_ifT h c6
      refine pr_ldc (v := (-1000000002)) C dX9_errors_30 pr_w511 ?_
      obtain rfl := pr_in1 h
      exact pr_iret C Z dX9_errors_32
    · have h := pr_ifF h c6
      refine pr_iload_n C dX9_errors_21 rfl 3 rfl ?_
      refine pr_iconst (v := 0) C dX9_errors_22 (by decide) ?_
      refine pr_iconst (v := 3) C dX9_errors_23 (by decide) ?_
      obtain ⟨r8, hc7, h⟩ := pr_b1_some h
      refine k_X9_in C pr_w504  hc7 (Nat.le_of_ble_eq_true rfl) (Nat.le_of_ble_eq_true rfl) (Nat.le_of_ble_eq_true rfl) dX9_errors_24 ?_
      refine pr_if_ne (tgt := 33) C dX9_errors_27 (by decide) (fun c9 => ?_) (fun c9 => ?_)
      · have h := pr_ifF h c9
        refine pr_aload_n C dX9_errors_33 rfl 0 rfl ?_
        refine pr_iload_n C dX9_errors_34 rfl 1 rfl ?_
        refine pr_bipush (v := 36) C dX9_errors_35 (by decide) ?_
        obtain ⟨r11, hc10, h⟩ := pr_b1_some h
        refine k_X9_of C pr_w507 hk0 hc10 (Nat.le_of_ble_eq_true rfl) (Nat.le_of_ble_eq_true rfl) (Nat.le_of_ble_eq_true rfl) dX9_errors_37 ?_
        refine pr_istore (lv' := [(4, .int r11), (0, .ref (pr_ad (pr_EM l e) c)), (1, .int p1), (2, .int p2), (3, .int p3)]) C dX9_errors_40 (by decide) rfl ?_
        refine pr_iload C dX9_errors_42 0 rfl ?_
        refine pr_iload_n C dX9_errors_44 rfl 3 rfl ?_
        obtain ⟨v12, hv, h⟩ := pr_b1_some h
        have K : pr_W (pr_EM l e) Y { frames := 3, cells := 0, slots := 0, locals := 64 } 11 f 54 [(0, .ref (pr_ad (pr_EM l e) c)), (1, .int p1), (3, .int p3), (4, .int r11)] [.int v12] := by
          refine pr_istore (lv' := [(5, .int v12), (0, .ref (pr_ad (pr_EM l e) c)), (1, .int p1), (3, .int p3), (4, .int r11)]) C dX9_errors_54 (by decide) rfl ?_
          refine pr_iconst (v := 0) C dX9_errors_56 (by decide) ?_
          refine pr_istore (lv' := [(6, .int 0), (5, .int v12), (0, .ref (pr_ad (pr_EM l e) c)), (1, .int p1), (3, .int p3), (4, .int r11)]) C dX9_errors_57 (by decide) rfl ?_
          refine pr_iconst (v := 0) C dX9_errors_59 (by decide) ?_
          refine pr_istore (lv' := [(7, .int 0), (6, .int 0), (5, .int v12), (0, .ref (pr_ad (pr_EM l e) c)), (1, .int p1), (3, .int p3), (4, .int r11)]) C dX9_errors_60 (by decide) rfl ?_
          refine pr_iconst (v := 0) C dX9_errors_62 (by decide) ?_
          refine pr_istore (lv' := [(8, .int 0), (7, .int 0), (6, .int 0), (5, .int v12), (0, .ref (pr_ad (pr_EM l e) c)), (1, .int p1), (3, .int p3), (4, .int r11)]) C dX9_errors_63 (by decide) rfl ?_
          refine pr_iload C dX9_errors_65 7 rfl ?_
          refine pr_iload C dX9_errors_67 3 rfl ?_
          refine pr_isub C dX9_errors_69 ?_
          refine pr_istore (lv' := [(9, .int (r11 - v12)), (8, .int 0), (7, .int 0), (6, .int 0), (5, .int v12), (0, .ref (pr_ad (pr_EM l e) c)), (1, .int p1), (3, .int p3), (4, .int r11)]) C dX9_errors_70 (by decide) rfl ?_
          obtain ⟨v14, hv, h⟩ := pr_b1_some h
          refine pr_pick [5, 6, 7, 8, 4, 3, 2, 1, 0] rfl (l_X9_errors_72 C hk0 pr_fuel _ _ _ _ _ hv ?_)
          clear hv
          refine pr_iload_n C dX9_errors_148 rfl 0 rfl ?_
          refine pr_if_ne (tgt := 157) C dX9_errors_149 (by decide) (fun c15 => ?_) (fun c15 => ?_)
          · have h := pr_ifF h c15
            refine pr_iload_n C dX9_errors_157 rfl 0 rfl ?_
            refine pr_iconst (v := 1) C dX9_errors_158 (by decide) ?_
            refine pr_icmp_ne (tgt := 167) C dX9_errors_159 (by decide) (fun c16 => ?_) (fun c16 => ?_)
            · have h := pr_ifF h c16
              refine pr_iload_n C dX9_errors_167 rfl 0 rfl ?_
              refine pr_iconst (v := 2) C dX9_errors_168 (by decide) ?_
              refine pr_icmp_ne (tgt := 177) C dX9_errors_169 (by decide) (fun c17 => ?_) (fun c17 => ?_)
              · have h := pr_ifF h c17
                refine pr_iload C dX9_errors_177 4 rfl ?_
                obtain rfl := pr_in1 h
                exact pr_iret C Z dX9_errors_179
              · have h := pr_ifT h c17
                refine pr_iload C dX9_errors_172 1 rfl ?_
                refine pr_goto (tgt := 179) C dX9_errors_174 (by decide) ?_
                obtain rfl := pr_in1 h
                exact pr_iret C Z dX9_errors_179
            · have h := pr_ifT h c16
              refine pr_iload C dX9_errors_162 3 rfl ?_
              refine pr_goto (tgt := 179) C dX9_errors_164 (by decide) ?_
              obtain rfl := pr_in1 h
              exact pr_iret C Z dX9_errors_179
          · have h := pr_ifT h c15
            refine pr_iload C dX9_errors_152 2 rfl ?_
            refine pr_goto (tgt := 179) C dX9_errors_154 (by decide) ?_
            obtain rfl := pr_in1 h
            exact pr_iret C Z dX9_errors_179
        clear h
        have h := hv
        clear hv
        refine pr_icmp_ge (tgt := 53) C dX9_errors_45 (by decide) (fun c13 => ?_) (fun c13 => ?_)
        · have h := pr_ifT h c13
          refine pr_iload_n C dX9_errors_53 rfl 3 rfl ?_
          obtain rfl := pr_in1 h
          exact pr_pick [1, 2, 4, 0] rfl K
        · have h := pr_ifF h c13
          refine pr_iload C dX9_errors_48 0 rfl ?_
          refine pr_goto (tgt := 54) C dX9_errors_50 (by decide) ?_
          obtain rfl := pr_in1 h
          exact pr_pick [1, 2, 4, 0] rfl K
      · have h := pr_ifT h c9
        refine pr_ldc (v := (-1000000002)) C dX9_errors_30 pr_w511 ?_
        obtain rfl := pr_in1 h
        exact pr_iret C Z dX9_errors_32
  · have h := pr_ifT h c3
    refine pr_ldc (v := (-1000000001)) C dX9_errors_8 pr_w513 ?_
    obtain rfl := pr_in1 h
    exact pr_iret C Z dX9_errors_10

def F_X9_total (c : Nat) (p1 : Int32) (f : pr_M) : Option (Int32) :=
  pr_b1 (F_X9_in p1 0 5 f) fun r2 =>
  if r2 = 0 then (
    some (-1000000002)
  ) else (
    pr_gd (¬ ((1772 + p1) < 0 ∨ 1906 ≤ Int32.toNatClampNeg (1772 + p1))) <|
    some (f (c + 1) (Int32.toNatClampNeg (1772 + p1)))
  )
set_option maxHeartbeats 4000000 in
set_option maxRecDepth 100000 in
theorem m_X9_total {l : Launch} {e : pr_E0} {c : Nat} {p1 : Int32} {f : pr_M} {r : Int32} (hk0 : pr_LM[c]? = some (9, 0)) (h : F_X9_total c p1 f = some r) : pr_Met (pr_EM l e) yX9_total cX9_total 2 (some .int) { frames := 1, cells := 0, slots := 0, locals := 22 } [.ref (pr_ad (pr_EM l e) c), .int p1] f (some (.int r)) f := by
  rw [F_X9_total] at h
  refine pr_enter (by decide +kernel) (Nat.le_of_ble_eq_true rfl) (fun Y C Z => ?_)
  replace C : pr_C (pr_EM l e) Y { frames := 1, cells := 0, slots := 0, locals := 22 } cX9_total RX9 2 _ := C
  show pr_W (pr_EM l e) Y _ 2 f 0 [(0, .ref (pr_ad (pr_EM l e) c)), (1, .int p1)] []
  refine pr_iload_n C dX9_total_0 rfl 1 rfl ?_
  refine pr_iconst (v := 0) C dX9_total_1 (by decide) ?_
  refine pr_iconst (v := 5) C dX9_total_2 (by decide) ?_
  obtain ⟨r2, hc1, h⟩ := pr_b1_some h
  refine k_X9_in C pr_w504  hc1 (Nat.le_of_ble_eq_true rfl) (Nat.le_of_ble_eq_true rfl) (Nat.le_of_ble_eq_true rfl) dX9_total_3 ?_
  refine pr_if_eq (tgt := 22) C dX9_total_6 (by decide) (fun c3 => ?_) (fun c3 => ?_)
  · have h := pr_ifT h c3
    refine pr_ldc (v := (-1000000002)) C dX9_total_22 pr_w511 ?_
    obtain rfl := pr_in1 h
    exact pr_iret C Z dX9_total_24
  · have h := pr_ifF h c3
    refine pr_aload_n C dX9_total_9 rfl 0 rfl ?_
    refine pr_g_9_0 C hk0 pr_w476 dX9_total_10 ?_
    have hk4 := pr_kM_9_0 hk0
    refine pr_sipush (v := 1772) C dX9_total_13 (by decide) ?_
    refine pr_iload_n C dX9_total_16 rfl 1 rfl ?_
    refine pr_iadd C dX9_total_17 ?_
    obtain ⟨hg5, h⟩ := pr_gd_some h
    refine pr_iaload C hk4 hg5 dX9_total_18 ?_
    refine pr_goto (tgt := 24) C dX9_total_19 (by decide) ?_
    obtain rfl := pr_in1 h
    exact pr_iret C Z dX9_total_24

def L_X9_comesBack_6 (q0 : Nat) (x1 : Int32) (x2 : Int32) (x3 : Int32) : Nat → Int32 → Int32 → pr_M → Option (Int32 × pr_M)
  | 0, _, _, _ => none
  | n + 1, x4, x5, f =>
    if x3 < x5 then (
      some ((-1000000006), f)
    ) else (
      pr_b1 (F_X9_isSeen q0 x1 f) fun r7003 =>
      pr_bd (F_X9_makeRepeat q0 f) fun u7005 f7006 =>
      pr_b1 (α := Int32) (
        if r7003 = 0 then (
          some 0
        ) else (
          pr_b1 (F_X9_of q0 x1 31 f7006) fun r7010 =>
          pr_b1 (F_X9_size r7010 f7006) fun r7012 =>
          if x2 < r7012 then (
            some 0
          ) else (
            some (x4 + 1)
          )
        )
      ) fun v7007 =>
      if v7007 = 5 then (
        some ((x5 - 5), f7006)
      ) else (
        L_X9_comesBack_6 q0 x1 x2 x3 n v7007 (x5 + 1) f7006
      )
    )
set_option maxHeartbeats 4000000 in
set_option maxRecDepth 100000 in
theorem l_X9_comesBack_6 {l : Launch} {e : pr_E0} {Y : pr_Y} {c0 : Cond} {q0 : Nat} {x1 : Int32} {x2 : Int32} {x3 : Int32} {z : Int32} {g : pr_M} (C : pr_C (pr_EM l e) Y { frames := 6, cells := 0, slots := 0, locals := 129 } cX9_comesBack RX9 7 c0) (hq0 : pr_LM[q0]? = some (9, 0)) : ∀ (n : Nat) (x4 : Int32) (x5 : Int32) (f : pr_M), L_X9_comesBack_6 q0 x1 x2 x3 n x4 x5 f = some (z, g) → pr_Z (pr_EM l e) Y (some .int) (some (.int z)) g → pr_W (pr_EM l e) Y { frames := 6, cells := 0, slots := 0, locals := 129 } 7 f 6 [(0, .ref (pr_ad (pr_EM l e) q0)), (1, .int x1), (2, .int x2), (3, .int x3), (4, .int x4), (5, .int x5)] [] := by
  intro n
  induction n with
  | zero =>
    intro x4 x5 f h
    exact absurd h (by simp [L_X9_comesBack_6])
  | succ n ih =>
    intro x4 x5 f h Z
    rw [L_X9_comesBack_6] at h
    refine pr_iload C dX9_comesBack_6 5 rfl ?_
    refine pr_iload_n C dX9_comesBack_8 rfl 3 rfl ?_
    refine pr_icmp_gt (tgt := 69) C dX9_comesBack_9 (by decide) (fun c7001 => ?_) (fun c7001 => ?_)
    · have h := pr_ifT h c7001
      refine pr_ldc (v := (-1000000006)) C dX9_comesBack_69 pr_w546 ?_
      obtain ⟨rfl, rfl⟩ := pr_inj h
      exact pr_iret C Z dX9_comesBack_71
    · have h := pr_ifF h c7001
      refine pr_aload_n C dX9_comesBack_12 rfl 0 rfl ?_
      refine pr_iload_n C dX9_comesBack_13 rfl 1 rfl ?_
      obtain ⟨r7003, hc7002, h⟩ := pr_b1_some h
      refine k_X9_isSeen C pr_w564 hq0 hc7002 (Nat.le_of_ble_eq_true rfl) (Nat.le_of_ble_eq_true rfl) (Nat.le_of_ble_eq_true rfl) dX9_comesBack_14 ?_
      refine pr_istore (lv' := [(6, .int r7003), (0, .ref (pr_ad (pr_EM l e) q0)), (1, .int x1), (2, .int x2), (3, .int x3), (4, .int x4), (5, .int x5)]) C dX9_comesBack_17 (by decide) rfl ?_
      refine pr_aload_n C dX9_comesBack_19 rfl 1 rfl ?_
      obtain ⟨u7005, f7006, hc7004, h⟩ := pr_bd_some h
      refine k_X9_makeRepeat C pr_w605 hq0 hc7004 (Nat.le_of_ble_eq_true rfl) (Nat.le_of_ble_eq_true rfl) (Nat.le_of_ble_eq_true rfl) dX9_comesBack_20 ?_
      refine pr_iload C dX9_comesBack_23 0 rfl ?_
      obtain ⟨v7007, hv, h⟩ := pr_b1_some h
      have K : pr_W (pr_EM l e) Y { frames := 6, cells := 0, slots := 0, locals := 129 } 7 f7006 50 [(0, .ref (pr_ad (pr_EM l e) q0)), (1, .int x1), (2, .int x2), (3, .int x3), (5, .int x5)] [.int v7007] := by
        refine pr_istore (lv' := [(4, .int v7007), (0, .ref (pr_ad (pr_EM l e) q0)), (1, .int x1), (2, .int x2), (3, .int x3), (5, .int x5)]) C dX9_comesBack_50 (by decide) rfl ?_
        refine pr_iload C dX9_comesBack_52 0 rfl ?_
        refine pr_iconst (v := 5) C dX9_comesBack_54 (by decide) ?_
        refine pr_icmp_ne (tgt := 63) C dX9_comesBack_55 (by decide) (fun c7014 => ?_) (fun c7014 => ?_)
        · have h := pr_ifF h c7014
          refine pr_iinc (v := (x5 + 1)) (lv' := [(5, .int (x5 + 1)), (4, .int v7007), (0, .ref (pr_ad (pr_EM l e) q0)), (1, .int x1), (2, .int x2), (3, .int x3)]) C dX9_comesBack_63 5 rfl rfl (by decide) rfl ?_
          refine pr_goto (tgt := 6) C dX9_comesBack_66 (by decide) ?_
          exact pr_pick [2, 3, 4, 5, 1, 0] rfl (ih _ _ _ h Z)
        · have h := pr_ifT h c7014
          refine pr_iload C dX9_comesBack_58 5 rfl ?_
          refine pr_iconst (v := 5) C dX9_comesBack_60 (by decide) ?_
          refine pr_isub C dX9_comesBack_61 ?_
          obtain ⟨rfl, rfl⟩ := pr_inj h
          exact pr_iret C Z dX9_comesBack_62
      clear h
      have h := hv
      clear hv
      refine pr_if_eq (tgt := 49) C dX9_comesBack_25 (by decide) (fun c7008 => ?_) (fun c7008 => ?_)
      · have h := pr_ifT h c7008
        refine pr_iconst (v := 0) C dX9_comesBack_49 (by decide) ?_
        obtain rfl := pr_in1 h
        exact pr_pick [1, 2, 3, 4, 6] rfl K
      · have h := pr_ifF h c7008
        refine pr_aload_n C dX9_comesBack_28 rfl 1 rfl ?_
        refine pr_iload_n C dX9_comesBack_29 rfl 2 rfl ?_
        refine pr_bipush (v := 31) C dX9_comesBack_30 (by decide) ?_
        obtain ⟨r7010, hc7009, h⟩ := pr_b1_some h
        refine k_X9_of C pr_w507 hq0 hc7009 (Nat.le_of_ble_eq_true rfl) (Nat.le_of_ble_eq_true rfl) (Nat.le_of_ble_eq_true rfl) dX9_comesBack_32 ?_
        obtain ⟨r7012, hc7011, h⟩ := pr_b1_some h
        refine k_X9_size C pr_w554  hc7011 (Nat.le_of_ble_eq_true rfl) (Nat.le_of_ble_eq_true rfl) (Nat.le_of_ble_eq_true rfl) dX9_comesBack_35 ?_
        refine pr_iload_n C dX9_comesBack_38 rfl 3 rfl ?_
        refine pr_icmp_gt (tgt := 49) C dX9_comesBack_39 (by decide) (fun c7013 => ?_) (fun c7013 => ?_)
        · have h := pr_ifT h c7013
          refine pr_iconst (v := 0) C dX9_comesBack_49 (by decide) ?_
          obtain rfl := pr_in1 h
          exact pr_pick [1, 2, 3, 4, 6] rfl K
        · have h := pr_ifF h c7013
          refine pr_iload C dX9_comesBack_42 5 rfl ?_
          refine pr_iconst (v := 1) C dX9_comesBack_44 (by decide) ?_
          refine pr_iadd C dX9_comesBack_45 ?_
          refine pr_goto (tgt := 50) C dX9_comesBack_46 (by decide) ?_
          obtain rfl := pr_in1 h
          exact pr_pick [1, 2, 3, 4, 6] rfl K
def F_X9_comesBack (c : Nat) (p1 : Int32) (p2 : Int32) (p3 : Int32) (f : pr_M) : Option (Int32 × pr_M) :=
  L_X9_comesBack_6 c p1 p2 p3 pr_fuel 0 1 f
set_option maxHeartbeats 4000000 in
set_option maxRecDepth 100000 in
theorem m_X9_comesBack {l : Launch} {e : pr_E0} {c : Nat} {p1 : Int32} {p2 : Int32} {p3 : Int32} {f : pr_M} {r : Int32} {g : pr_M} (hk0 : pr_LM[c]? = some (9, 0)) (h : F_X9_comesBack c p1 p2 p3 f = some (r, g)) : pr_Met (pr_EM l e) yX9_comesBack cX9_comesBack 7 (some .int) { frames := 6, cells := 0, slots := 0, locals := 129 } [.ref (pr_ad (pr_EM l e) c), .int p1, .int p2, .int p3] f (some (.int r)) g := by
  rw [F_X9_comesBack] at h
  refine pr_enter (by decide +kernel) (Nat.le_of_ble_eq_true rfl) (fun Y C Z => ?_)
  replace C : pr_C (pr_EM l e) Y { frames := 6, cells := 0, slots := 0, locals := 129 } cX9_comesBack RX9 7 _ := C
  show pr_W (pr_EM l e) Y _ 7 f 0 [(0, .ref (pr_ad (pr_EM l e) c)), (1, .int p1), (2, .int p2), (3, .int p3)] []
  refine pr_iconst (v := 0) C dX9_comesBack_0 (by decide) ?_
  refine pr_istore (lv' := [(4, .int 0), (0, .ref (pr_ad (pr_EM l e) c)), (1, .int p1), (2, .int p2), (3, .int p3)]) C dX9_comesBack_1 (by decide) rfl ?_
  refine pr_iconst (v := 1) C dX9_comesBack_3 (by decide) ?_
  refine pr_istore (lv' := [(5, .int 1), (4, .int 0), (0, .ref (pr_ad (pr_EM l e) c)), (1, .int p1), (2, .int p2), (3, .int p3)]) C dX9_comesBack_4 (by decide) rfl ?_
  exact pr_pick [2, 3, 4, 5, 1, 0] rfl (l_X9_comesBack_6 C hk0 pr_fuel _ _ _ h Z)
theorem k_X9_comesBack {l : Launch} {e : pr_E0} {Y : pr_Y} {Rm : Room} {cc : ByteArray} {own : String} {nL : Nat} {c0 : Cond} {pc idx : Nat} {lv : List (Nat × Value)} {st : List Value} {c : Nat} {p1 : Int32} {p2 : Int32} {p3 : Int32} {f : pr_M} {r : Int32} {g : pr_M} (C : pr_C (pr_EM l e) Y Rm cc own nL c0) (w1 : Cond.methodLink own idx yX9_comesBack ∈ pr_AL) (hk0 : pr_LM[c]? = some (9, 0)) (h : F_X9_comesBack c p1 p2 p3 f = some (r, g)) (hr1 : 7 ≤ Rm.frames) (hr2 : 155 ≤ Rm.locals) (hcat : (st.map fun v => v.category).sum ≤ 8) (hdg : decode cc pc = .ok (.invokevirtual idx, 3)) (k : pr_W (pr_EM l e) Y Rm nL g (pc + 3) lv (.int r :: st)) : pr_W (pr_EM l e) Y Rm nL f pc lv (.int p3 :: .int p2 :: .int p1 :: .ref (pr_ad (pr_EM l e) c) :: st) :=
  pr_callV (As := [.int p1, .int p2, .int p3]) (n := 3) C (m_X9_comesBack hk0 h) hk0 (by decide) rfl w1 pr_w627 pr_w628 pr_w479 pr_w622 rfl rfl ⟨rfl, by decide +kernel, by decide +kernel, by decide +kernel⟩ rfl ⟨hr1, hr2⟩ rfl hcat hdg k

def F_X9_forecast (c : Nat) (p1 : Int32) (p2 : Int32) (p3 : Int32) (f : pr_M) : Option (Int32 × pr_M) :=
  pr_b1 (F_X9_isControlled c p1 f) fun r2 =>
  if r2 = 0 then (
    some ((-1000000001), f)
  ) else (
    pr_b1 (F_X9_in p2 0 1000 f) fun r5 =>
    if r5 = 0 then (
      some ((-1000000002), f)
    ) else (
      pr_b1 (F_X9_in p3 5 300 f) fun r8 =>
      if r8 = 0 then (
        some ((-1000000002), f)
      ) else (
        pr_bd (F_X9_putAside c f) fun u11 f12 =>
        pr_bd (F_X9_comesBack c p1 p2 p3 f12) fun r14 f15 =>
        pr_bd (F_X9_putBack c f15) fun u17 f18 =>
        some (r14, f18)
      )
    )
  )
set_option maxHeartbeats 4000000 in
set_option maxRecDepth 100000 in
theorem m_X9_forecast {l : Launch} {e : pr_E0} {c : Nat} {p1 : Int32} {p2 : Int32} {p3 : Int32} {f : pr_M} {r : Int32} {g : pr_M} (hk0 : pr_LM[c]? = some (9, 0)) (h : F_X9_forecast c p1 p2 p3 f = some (r, g)) : pr_Met (pr_EM l e) yX9_forecast cX9_forecast 5 (some .int) { frames := 7, cells := 0, slots := 0, locals := 155 } [.ref (pr_ad (pr_EM l e) c), .int p1, .int p2, .int p3] f (some (.int r)) g := by
  rw [F_X9_forecast] at h
  refine pr_enter (by decide +kernel) (Nat.le_of_ble_eq_true rfl) (fun Y C Z => ?_)
  replace C : pr_C (pr_EM l e) Y { frames := 7, cells := 0, slots := 0, locals := 155 } cX9_forecast RX9 5 _ := C
  show pr_W (pr_EM l e) Y _ 5 f 0 [(0, .ref (pr_ad (pr_EM l e) c)), (1, .int p1), (2, .int p2), (3, .int p3)] []
  refine pr_aload_n C dX9_forecast_0 rfl 0 rfl ?_
  refine pr_iload_n C dX9_forecast_1 rfl 1 rfl ?_
  obtain ⟨r2, hc1, h⟩ := pr_b1_some h
  refine k_X9_isControlled C pr_w617 hk0 hc1 (Nat.le_of_ble_eq_true rfl) (Nat.le_of_ble_eq_true rfl) (Nat.le_of_ble_eq_true rfl) dX9_forecast_2 ?_
  refine pr_if_ne (tgt := 11) C dX9_forecast_5 (by decide) (fun c3 => ?_) (fun c3 => ?_)
  · have h := pr_ifF h c3
    refine pr_iload_n C dX9_forecast_11 rfl 2 rfl ?_
    refine pr_iconst (v := 0) C dX9_forecast_12 (by decide) ?_
    refine pr_sipush (v := 1000) C dX9_forecast_13 (by decide) ?_
    obtain ⟨r5, hc4, h⟩ := pr_b1_some h
    refine k_X9_in C pr_w504  hc4 (Nat.le_of_ble_eq_true rfl) (Nat.le_of_ble_eq_true rfl) (Nat.le_of_ble_eq_true rfl) dX9_forecast_16 ?_
    refine pr_if_eq (tgt := 33) C dX9_forecast_19 (by decide) (fun c6 => ?_) (fun c6 => ?_)
    · have h := pr_ifT h c6
      refine pr_ldc (v := (-1000000002)) C dX9_forecast_33 pr_w511 ?_
      obtain ⟨rfl, rfl⟩ := pr_inj h
      exact pr_iret C Z dX9_forecast_35
    · have h := pr_ifF h c6
      refine pr_iload_n C dX9_forecast_22 rfl 3 rfl ?_
      refine pr_iconst (v := 5) C dX9_forecast_23 (by decide) ?_
      refine pr_sipush (v := 300) C dX9_forecast_24 (by decide) ?_
      obtain ⟨r8, hc7, h⟩ := pr_b1_some h
      refine k_X9_in C pr_w504  hc7 (Nat.le_of_ble_eq_true rfl) (Nat.le_of_ble_eq_true rfl) (Nat.le_of_ble_eq_true rfl) dX9_forecast_27 ?_
      refine pr_if_ne (tgt := 36) C dX9_forecast_30 (by decide) (fun c9 => ?_) (fun c9 => ?_)
      · have h := pr_ifF h c9
        refine pr_aload_n C dX9_forecast_36 rfl 0 rfl ?_
        obtain ⟨u11, f12, hc10, h⟩ := pr_bd_some h
        refine k_X9_putAside C pr_w623 hk0 hc10 (Nat.le_of_ble_eq_true rfl) (Nat.le_of_ble_eq_true rfl) (Nat.le_of_ble_eq_true rfl) dX9_forecast_37 ?_
        refine pr_aload_n C dX9_forecast_40 rfl 0 rfl ?_
        refine pr_iload_n C dX9_forecast_41 rfl 1 rfl ?_
        refine pr_iload_n C dX9_forecast_42 rfl 2 rfl ?_
        refine pr_iload_n C dX9_forecast_43 rfl 3 rfl ?_
        obtain ⟨r14, f15, hc13, h⟩ := pr_bd_some h
        refine k_X9_comesBack C pr_w626 hk0 hc13 (Nat.le_of_ble_eq_true rfl) (Nat.le_of_ble_eq_true rfl) (Nat.le_of_ble_eq_true rfl) dX9_forecast_44 ?_
        refine pr_istore (lv' := [(4, .int r14), (0, .ref (pr_ad (pr_EM l e) c)), (1, .int p1), (2, .int p2), (3, .int p3)]) C dX9_forecast_47 (by decide) rfl ?_
        refine pr_aload_n C dX9_forecast_49 rfl 1 rfl ?_
        obtain ⟨u17, f18, hc16, h⟩ := pr_bd_some h
        refine k_X9_putBack C pr_w629 hk0 hc16 (Nat.le_of_ble_eq_true rfl) (Nat.le_of_ble_eq_true rfl) (Nat.le_of_ble_eq_true rfl) dX9_forecast_50 ?_
        refine pr_iload C dX9_forecast_53 0 rfl ?_
        obtain ⟨rfl, rfl⟩ := pr_inj h
        exact pr_iret C Z dX9_forecast_55
      · have h := pr_ifT h c9
        refine pr_ldc (v := (-1000000002)) C dX9_forecast_33 pr_w511 ?_
        obtain ⟨rfl, rfl⟩ := pr_inj h
        exact pr_iret C Z dX9_forecast_35
  · have h := pr_ifT h c3
    refine pr_ldc (v := (-1000000001)) C dX9_forecast_8 pr_w513 ?_
    obtain ⟨rfl, rfl⟩ := pr_inj h
    exact pr_iret C Z dX9_forecast_10

def L_X9_tried_17 (q0 : Nat) (x1 : Int32) (x4 : Int32) : Nat → Int32 → Int32 → pr_M → Option ((Int32) × pr_M)
  | 0, _, _, _ => none
  | n + 1, x5, x6, f =>
    if x4 ≤ x6 then (
      some (x5, f)
    ) else (
      pr_b1 (F_X9_isSeen q0 x1 f) fun r18003 =>
      pr_bd (F_X9_makeRepeat q0 f) fun u18005 f18006 =>
      pr_b1 (α := Int32) (
        if r18003 = 0 then (
          some 0
        ) else (
          pr_b1 (F_X9_of q0 x1 31 f18006) fun r18010 =>
          pr_b1 (F_X9_size r18010 f18006) fun r18012 =>
          some r18012
        )
      ) fun v18007 =>
      L_X9_tried_17 q0 x1 x4 n (x5 + v18007) (x6 + 1) f18006
    )
set_option maxHeartbeats 4000000 in
set_option maxRecDepth 100000 in
theorem l_X9_tried_17 {l : Launch} {e : pr_E0} {Y : pr_Y} {c0 : Cond} {q0 : Nat} {x1 : Int32} {x4 : Int32} {z : Int32} {g : pr_M} (C : pr_C (pr_EM l e) Y { frames := 6, cells := 0, slots := 0, locals := 129 } cX9_tried RX9 8 c0) (hq0 : pr_LM[q0]? = some (9, 0)) : ∀ (n : Nat) (x5 : Int32) (x6 : Int32) (f : pr_M), L_X9_tried_17 q0 x1 x4 n x5 x6 f = some (z, g) → pr_W (pr_EM l e) Y { frames := 6, cells := 0, slots := 0, locals := 129 } 8 g 65 [(0, .ref (pr_ad (pr_EM l e) q0)), (5, .int z)] [] → pr_W (pr_EM l e) Y { frames := 6, cells := 0, slots := 0, locals := 129 } 8 f 17 [(0, .ref (pr_ad (pr_EM l e) q0)), (1, .int x1), (4, .int x4), (5, .int x5), (6, .int x6)] [] := by
  intro n
  induction n with
  | zero =>
    intro x5 x6 f h
    exact absurd h (by simp [L_X9_tried_17])
  | succ n ih =>
    intro x5 x6 f h K
    rw [L_X9_tried_17] at h
    refine pr_iload C dX9_tried_17 4 rfl ?_
    refine pr_iload C dX9_tried_19 2 rfl ?_
    refine pr_icmp_ge (tgt := 65) C dX9_tried_21 (by decide) (fun c18001 => ?_) (fun c18001 => ?_)
    · have h := pr_ifT h c18001
      obtain ⟨rfl, rfl⟩ := pr_inj h
      exact pr_pick [0, 3] rfl K
    · have h := pr_ifF h c18001
      refine pr_aload_n C dX9_tried_24 rfl 0 rfl ?_
      refine pr_iload_n C dX9_tried_25 rfl 1 rfl ?_
      obtain ⟨r18003, hc18002, h⟩ := pr_b1_some h
      refine k_X9_isSeen C pr_w564 hq0 hc18002 (Nat.le_of_ble_eq_true rfl) (Nat.le_of_ble_eq_true rfl) (Nat.le_of_ble_eq_true rfl) dX9_tried_26 ?_
      refine pr_istore (lv' := [(7, .int r18003), (0, .ref (pr_ad (pr_EM l e) q0)), (1, .int x1), (4, .int x4), (5, .int x5), (6, .int x6)]) C dX9_tried_29 (by decide) rfl ?_
      refine pr_aload_n C dX9_tried_31 rfl 1 rfl ?_
      obtain ⟨u18005, f18006, hc18004, h⟩ := pr_bd_some h
      refine k_X9_makeRepeat C pr_w605 hq0 hc18004 (Nat.le_of_ble_eq_true rfl) (Nat.le_of_ble_eq_true rfl) (Nat.le_of_ble_eq_true rfl) dX9_tried_32 ?_
      refine pr_iload C dX9_tried_35 4 rfl ?_
      refine pr_iload C dX9_tried_37 0 rfl ?_
      obtain ⟨v18007, hv, h⟩ := pr_b1_some h
      have K : pr_W (pr_EM l e) Y { frames := 6, cells := 0, slots := 0, locals := 129 } 8 f18006 56 [(0, .ref (pr_ad (pr_EM l e) q0)), (1, .int x1), (4, .int x4), (6, .int x6)] [.int v18007, .int x5] := by
        refine pr_iadd C dX9_tried_56 ?_
        refine pr_istore (lv' := [(5, .int (x5 + v18007)), (0, .ref (pr_ad (pr_EM l e) q0)), (1, .int x1), (4, .int x4), (6, .int x6)]) C dX9_tried_57 (by decide) rfl ?_
        refine pr_iinc (v := (x6 + 1)) (lv' := [(6, .int (x6 + 1)), (5, .int (x5 + v18007)), (0, .ref (pr_ad (pr_EM l e) q0)), (1, .int x1), (4, .int x4)]) C dX9_tried_59 4 rfl rfl (by decide) rfl ?_
        refine pr_goto (tgt := 17) C dX9_tried_62 (by decide) ?_
        exact pr_pick [2, 3, 4, 1, 0] rfl (ih _ _ _ h K)
      clear h
      have h := hv
      clear hv
      refine pr_if_eq (tgt := 55) C dX9_tried_39 (by decide) (fun c18008 => ?_) (fun c18008 => ?_)
      · have h := pr_ifT h c18008
        refine pr_iconst (v := 0) C dX9_tried_55 (by decide) ?_
        obtain rfl := pr_in1 h
        exact pr_pick [1, 2, 3, 5] rfl K
      · have h := pr_ifF h c18008
        refine pr_aload_n C dX9_tried_42 rfl 1 rfl ?_
        refine pr_iload_n C dX9_tried_43 rfl 2 rfl ?_
        refine pr_bipush (v := 31) C dX9_tried_44 (by decide) ?_
        obtain ⟨r18010, hc18009, h⟩ := pr_b1_some h
        refine k_X9_of C pr_w507 hq0 hc18009 (Nat.le_of_ble_eq_true rfl) (Nat.le_of_ble_eq_true rfl) (Nat.le_of_ble_eq_true rfl) dX9_tried_46 ?_
        obtain ⟨r18012, hc18011, h⟩ := pr_b1_some h
        refine k_X9_size C pr_w554  hc18011 (Nat.le_of_ble_eq_true rfl) (Nat.le_of_ble_eq_true rfl) (Nat.le_of_ble_eq_true rfl) dX9_tried_49 ?_
        refine pr_goto (tgt := 56) C dX9_tried_52 (by decide) ?_
        obtain rfl := pr_in1 h
        exact pr_pick [1, 2, 3, 5] rfl K
def F_X9_tried (c : Nat) (p1 : Int32) (p2 : Int32) (p3 : Int32) (p4 : Int32) (f : pr_M) : Option (Int32 × pr_M) :=
  pr_bd (F_X9_putAside c f) fun u2 f3 =>
  pr_bd (F_X9_lay c p1 p2 p3 f3) fun u5 f6 =>
  pr_bd (L_X9_tried_17 c p1 p4 pr_fuel 0 0 f6) fun v7 f8 =>
  pr_bd (F_X9_putBack c f8) fun u10 f11 =>
  some (v7, f11)
set_option maxHeartbeats 4000000 in
set_option maxRecDepth 100000 in
theorem m_X9_tried {l : Launch} {e : pr_E0} {c : Nat} {p1 : Int32} {p2 : Int32} {p3 : Int32} {p4 : Int32} {f : pr_M} {r : Int32} {g : pr_M} (hk0 : pr_LM[c]? = some (9, 0)) (h : F_X9_tried c p1 p2 p3 p4 f = some (r, g)) : pr_Met (pr_EM l e) yX9_tried cX9_tried 8 (some .int) { frames := 6, cells := 0, slots := 0, locals := 129 } [.ref (pr_ad (pr_EM l e) c), .int p1, .int p2, .int p3, .int p4] f (some (.int r)) g := by
  rw [F_X9_tried] at h
  refine pr_enter (by decide +kernel) (Nat.le_of_ble_eq_true rfl) (fun Y C Z => ?_)
  replace C : pr_C (pr_EM l e) Y { frames := 6, cells := 0, slots := 0, locals := 129 } cX9_tried RX9 8 _ := C
  show pr_W (pr_EM l e) Y _ 8 f 0 [(0, .ref (pr_ad (pr_EM l e) c)), (1, .int p1), (2, .int p2), (3, .int p3), (4, .int p4)] []
  refine pr_aload_n C dX9_tried_0 rfl 0 rfl ?_
  obtain ⟨u2, f3, hc1, h⟩ := pr_bd_some h
  refine k_X9_putAside C pr_w623 hk0 hc1 (Nat.le_of_ble_eq_true rfl) (Nat.le_of_ble_eq_true rfl) (Nat.le_of_ble_eq_true rfl) dX9_tried_1 ?_
  refine pr_aload_n C dX9_tried_4 rfl 0 rfl ?_
  refine pr_iload_n C dX9_tried_5 rfl 1 rfl ?_
  refine pr_iload_n C dX9_tried_6 rfl 2 rfl ?_
  refine pr_iload_n C dX9_tried_7 rfl 3 rfl ?_
  obtain ⟨u5, f6, hc4, h⟩ := pr_bd_some h
  refine k_X9_lay C pr_w483 hk0 hc4 (Nat.le_of_ble_eq_true rfl) (Nat.le_of_ble_eq_true rfl) (Nat.le_of_ble_eq_true rfl) dX9_tried_8 ?_
  refine pr_iconst (v := 0) C dX9_tried_11 (by decide) ?_
  refine pr_istore (lv' := [(5, .int 0), (0, .ref (pr_ad (pr_EM l e) c)), (1, .int p1), (2, .int p2), (3, .int p3), (4, .int p4)]) C dX9_tried_12 (by decide) rfl ?_
  refine pr_iconst (v := 0) C dX9_tried_14 (by decide) ?_
  refine pr_istore (lv' := [(6, .int 0), (5, .int 0), (0, .ref (pr_ad (pr_EM l e) c)), (1, .int p1), (2, .int p2), (3, .int p3), (4, .int p4)]) C dX9_tried_15 (by decide) rfl ?_
  obtain ⟨v7, f8, hv, h⟩ := pr_bd_some h
  refine pr_pick [2, 3, 6, 1, 0] rfl (l_X9_tried_17 C hk0 pr_fuel _ _ _ hv ?_)
  clear hv
  refine pr_aload_n C dX9_tried_65 rfl 0 rfl ?_
  obtain ⟨u10, f11, hc9, h⟩ := pr_bd_some h
  refine k_X9_putBack C pr_w629 hk0 hc9 (Nat.le_of_ble_eq_true rfl) (Nat.le_of_ble_eq_true rfl) (Nat.le_of_ble_eq_true rfl) dX9_tried_66 ?_
  refine pr_iload C dX9_tried_69 1 rfl ?_
  obtain ⟨rfl, rfl⟩ := pr_inj h
  exact pr_iret C Z dX9_tried_71
theorem k_X9_tried {l : Launch} {e : pr_E0} {Y : pr_Y} {Rm : Room} {cc : ByteArray} {own : String} {nL : Nat} {c0 : Cond} {pc idx : Nat} {lv : List (Nat × Value)} {st : List Value} {c : Nat} {p1 : Int32} {p2 : Int32} {p3 : Int32} {p4 : Int32} {f : pr_M} {r : Int32} {g : pr_M} (C : pr_C (pr_EM l e) Y Rm cc own nL c0) (w1 : Cond.methodLink own idx yX9_tried ∈ pr_AL) (hk0 : pr_LM[c]? = some (9, 0)) (h : F_X9_tried c p1 p2 p3 p4 f = some (r, g)) (hr1 : 7 ≤ Rm.frames) (hr2 : 156 ≤ Rm.locals) (hcat : (st.map fun v => v.category).sum ≤ 8) (hdg : decode cc pc = .ok (.invokevirtual idx, 3)) (k : pr_W (pr_EM l e) Y Rm nL g (pc + 3) lv (.int r :: st)) : pr_W (pr_EM l e) Y Rm nL f pc lv (.int p4 :: .int p3 :: .int p2 :: .int p1 :: .ref (pr_ad (pr_EM l e) c) :: st) :=
  pr_callV (As := [.int p1, .int p2, .int p3, .int p4]) (n := 4) C (m_X9_tried hk0 h) hk0 (by decide) rfl w1 pr_w635 pr_w636 pr_w479 pr_w633 rfl rfl ⟨rfl, by decide +kernel, by decide +kernel, by decide +kernel⟩ rfl ⟨hr1, hr2⟩ rfl hcat hdg k

def F_X9_attempt (c : Nat) (p1 : Int32) (p2 : Int32) (p3 : Int32) (p4 : Int32) (f : pr_M) : Option (Int32 × pr_M) :=
  pr_b1 (F_X9_isControlled c p1 f) fun r2 =>
  if r2 = 0 then (
    some ((-1000000001), f)
  ) else (
    if p2 ≤ 1 then (
      some ((-1000000002), f)
    ) else (
      pr_b1 (F_X9_takes p2 p3 f) fun r6 =>
      if r6 = 0 then (
        some ((-1000000002), f)
      ) else (
        pr_b1 (F_X9_in p4 1 300 f) fun r9 =>
        if r9 = 0 then (
          some ((-1000000002), f)
        ) else (
          pr_bd (F_X9_tried c p1 p2 p3 p4 f) fun r12 f13 =>
          some (r12, f13)
        )
      )
    )
  )
set_option maxHeartbeats 4000000 in
set_option maxRecDepth 100000 in
theorem m_X9_attempt {l : Launch} {e : pr_E0} {c : Nat} {p1 : Int32} {p2 : Int32} {p3 : Int32} {p4 : Int32} {f : pr_M} {r : Int32} {g : pr_M} (hk0 : pr_LM[c]? = some (9, 0)) (h : F_X9_attempt c p1 p2 p3 p4 f = some (r, g)) : pr_Met (pr_EM l e) yX9_attempt cX9_attempt 5 (some .int) { frames := 7, cells := 0, slots := 0, locals := 156 } [.ref (pr_ad (pr_EM l e) c), .int p1, .int p2, .int p3, .int p4] f (some (.int r)) g := by
  rw [F_X9_attempt] at h
  refine pr_enter (by decide +kernel) (Nat.le_of_ble_eq_true rfl) (fun Y C Z => ?_)
  replace C : pr_C (pr_EM l e) Y { frames := 7, cells := 0, slots := 0, locals := 156 } cX9_attempt RX9 5 _ := C
  show pr_W (pr_EM l e) Y _ 5 f 0 [(0, .ref (pr_ad (pr_EM l e) c)), (1, .int p1), (2, .int p2), (3, .int p3), (4, .int p4)] []
  refine pr_aload_n C dX9_attempt_0 rfl 0 rfl ?_
  refine pr_iload_n C dX9_attempt_1 rfl 1 rfl ?_
  obtain ⟨r2, hc1, h⟩ := pr_b1_some h
  refine k_X9_isControlled C pr_w617 hk0 hc1 (Nat.le_of_ble_eq_true rfl) (Nat.le_of_ble_eq_true rfl) (Nat.le_of_ble_eq_true rfl) dX9_attempt_2 ?_
  refine pr_if_ne (tgt := 11) C dX9_attempt_5 (by decide) (fun c3 => ?_) (fun c3 => ?_)
  · have h := pr_ifF h c3
    refine pr_iload_n C dX9_attempt_11 rfl 2 rfl ?_
    refine pr_iconst (v := 1) C dX9_attempt_12 (by decide) ?_
    refine pr_icmp_le (tgt := 36) C dX9_attempt_13 (by decide) (fun c4 => ?_) (fun c4 => ?_)
    · have h := pr_ifT h c4
      refine pr_ldc (v := (-1000000002)) C dX9_attempt_36 pr_w511 ?_
      obtain ⟨rfl, rfl⟩ := pr_inj h
      exact pr_iret C Z dX9_attempt_38
    · have h := pr_ifF h c4
      refine pr_iload_n C dX9_attempt_16 rfl 2 rfl ?_
      refine pr_iload_n C dX9_attempt_17 rfl 3 rfl ?_
      obtain ⟨r6, hc5, h⟩ := pr_b1_some h
      refine k_X9_takes C pr_w518  hc5 (Nat.le_of_ble_eq_true rfl) (Nat.le_of_ble_eq_true rfl) (Nat.le_of_ble_eq_true rfl) dX9_attempt_18 ?_
      refine pr_if_eq (tgt := 36) C dX9_attempt_21 (by decide) (fun c7 => ?_) (fun c7 => ?_)
      · have h := pr_ifT h c7
        refine pr_ldc (v := (-1000000002)) C dX9_attempt_36 pr_w511 ?_
        obtain ⟨rfl, rfl⟩ := pr_inj h
        exact pr_iret C Z dX9_attempt_38
      · have h := pr_ifF h c7
        refine pr_iload C dX9_attempt_24 4 rfl ?_
        refine pr_iconst (v := 1) C dX9_attempt_26 (by decide) ?_
        refine pr_sipush (v := 300) C dX9_attempt_27 (by decide) ?_
        obtain ⟨r9, hc8, h⟩ := pr_b1_some h
        refine k_X9_in C pr_w504  hc8 (Nat.le_of_ble_eq_true rfl) (Nat.le_of_ble_eq_true rfl) (Nat.le_of_ble_eq_true rfl) dX9_attempt_30 ?_
        refine pr_if_ne (tgt := 39) C dX9_attempt_33 (by decide) (fun c10 => ?_) (fun c10 => ?_)
        · have h := pr_ifF h c10
          refine pr_aload_n C dX9_attempt_39 rfl 0 rfl ?_
          refine pr_iload_n C dX9_attempt_40 rfl 1 rfl ?_
          refine pr_iload_n C dX9_attempt_41 rfl 2 rfl ?_
          refine pr_iload_n C dX9_attempt_42 rfl 3 rfl ?_
          refine pr_iload C dX9_attempt_43 4 rfl ?_
          obtain ⟨r12, f13, hc11, h⟩ := pr_bd_some h
          refine k_X9_tried C pr_w634 hk0 hc11 (Nat.le_of_ble_eq_true rfl) (Nat.le_of_ble_eq_true rfl) (Nat.le_of_ble_eq_true rfl) dX9_attempt_45 ?_
          obtain ⟨rfl, rfl⟩ := pr_inj h
          exact pr_iret C Z dX9_attempt_48
        · have h := pr_ifT h c10
          refine pr_ldc (v := (-1000000002)) C dX9_attempt_36 pr_w511 ?_
          obtain ⟨rfl, rfl⟩ := pr_inj h
          exact pr_iret C Z dX9_attempt_38
  · have h := pr_ifT h c3
    refine pr_ldc (v := (-1000000001)) C dX9_attempt_8 pr_w513 ?_
    obtain ⟨rfl, rfl⟩ := pr_inj h
    exact pr_iret C Z dX9_attempt_10

def L_X9_bestGain_90 (q0 : Nat) (x1 : Int32) (x2 : Int32) (x3 : Int32) (x4 : Int32) (x5 : Int32) : Nat → Int32 → Int32 → Int32 → pr_M → Option ((Int32) × pr_M)
  | 0, _, _, _, _ => none
  | n + 1, x6, x7, x8, f =>
    if x4 ≤ x8 then (
      some (x6, f)
    ) else (
      pr_bd (F_X9_tried q0 x1 4 (x2 + (x3 * x8)) x5 f) fun r91003 f91004 =>
      pr_b1 (α := Int32) (
        if x7 ≤ r91003 then (
          some x6
        ) else (
          some (x2 + (x3 * x8))
        )
      ) fun v91005 =>
      pr_b1 (α := Int32) (
        if x7 ≤ r91003 then (
          some x7
        ) else (
          some r91003
        )
      ) fun v91007 =>
      L_X9_bestGain_90 q0 x1 x2 x3 x4 x5 n v91005 v91007 (x8 + 1) f91004
    )
set_option maxHeartbeats 4000000 in
set_option maxRecDepth 100000 in
theorem l_X9_bestGain_90 {l : Launch} {e : pr_E0} {Y : pr_Y} {c0 : Cond} {q0 : Nat} {x1 : Int32} {x2 : Int32} {x3 : Int32} {x4 : Int32} {x5 : Int32} {z : Int32} {g : pr_M} (C : pr_C (pr_EM l e) Y { frames := 7, cells := 0, slots := 0, locals := 156 } cX9_bestGain RX9 10 c0) (hq0 : pr_LM[q0]? = some (9, 0)) : ∀ (n : Nat) (x6 : Int32) (x7 : Int32) (x8 : Int32) (f : pr_M), L_X9_bestGain_90 q0 x1 x2 x3 x4 x5 n x6 x7 x8 f = some (z, g) → pr_W (pr_EM l e) Y { frames := 7, cells := 0, slots := 0, locals := 156 } 10 g 155 [(6, .int z)] [] → pr_W (pr_EM l e) Y { frames := 7, cells := 0, slots := 0, locals := 156 } 10 f 90 [(0, .ref (pr_ad (pr_EM l e) q0)), (1, .int x1), (2, .int x2), (3, .int x3), (4, .int x4), (5, .int x5), (6, .int x6), (7, .int x7), (8, .int x8)] [] := by
  intro n
  induction n with
  | zero =>
    intro x6 x7 x8 f h
    exact absurd h (by simp [L_X9_bestGain_90])
  | succ n ih =>
    intro x6 x7 x8 f h K
    rw [L_X9_bestGain_90] at h
    refine pr_iload C dX9_bestGain_90 8 rfl ?_
    refine pr_iload C dX9_bestGain_92 4 rfl ?_
    refine pr_icmp_ge (tgt := 155) C dX9_bestGain_94 (by decide) (fun c91001 => ?_) (fun c91001 => ?_)
    · have h := pr_ifT h c91001
      obtain ⟨rfl, rfl⟩ := pr_inj h
      exact pr_pick [6] rfl K
    · have h := pr_ifF h c91001
      refine pr_aload_n C dX9_bestGain_97 rfl 0 rfl ?_
      refine pr_iload_n C dX9_bestGain_98 rfl 1 rfl ?_
      refine pr_iconst (v := 4) C dX9_bestGain_99 (by decide) ?_
      refine pr_iload_n C dX9_bestGain_100 rfl 2 rfl ?_
      refine pr_iload_n C dX9_bestGain_101 rfl 3 rfl ?_
      refine pr_iload C dX9_bestGain_102 8 rfl ?_
      refine pr_imul C dX9_bestGain_104 ?_
      refine pr_iadd C dX9_bestGain_105 ?_
      refine pr_iload C dX9_bestGain_106 5 rfl ?_
      obtain ⟨r91003, f91004, hc91002, h⟩ := pr_bd_some h
      refine k_X9_tried C pr_w634 hq0 hc91002 (Nat.le_of_ble_eq_true rfl) (Nat.le_of_ble_eq_true rfl) (Nat.le_of_ble_eq_true rfl) dX9_bestGain_108 ?_
      refine pr_istore (lv' := [(9, .int r91003), (0, .ref (pr_ad (pr_EM l e) q0)), (1, .int x1), (2, .int x2), (3, .int x3), (4, .int x4), (5, .int x5), (6, .int x6), (7, .int x7), (8, .int x8)]) C dX9_bestGain_111 (by decide) rfl ?_
      refine pr_iload C dX9_bestGain_113 0 rfl ?_
      refine pr_iload C dX9_bestGain_115 8 rfl ?_
      obtain ⟨v91005, hv, h⟩ := pr_b1_some h
      have K : pr_W (pr_EM l e) Y { frames := 7, cells := 0, slots := 0, locals := 156 } 10 f91004 131 [(0, .ref (pr_ad (pr_EM l e) q0)), (1, .int x1), (2, .int x2), (3, .int x3), (4, .int x4), (5, .int x5), (7, .int x7), (8, .int x8), (9, .int r91003)] [.int v91005] := by
        refine pr_istore (lv' := [(6, .int v91005), (0, .ref (pr_ad (pr_EM l e) q0)), (1, .int x1), (2, .int x2), (3, .int x3), (4, .int x4), (5, .int x5), (7, .int x7), (8, .int x8), (9, .int r91003)]) C dX9_bestGain_131 (by decide) rfl ?_
        refine pr_iload C dX9_bestGain_133 9 rfl ?_
        refine pr_iload C dX9_bestGain_135 7 rfl ?_
        obtain ⟨v91007, hv, h⟩ := pr_b1_some h
        have K : pr_W (pr_EM l e) Y { frames := 7, cells := 0, slots := 0, locals := 156 } 10 f91004 147 [(0, .ref (pr_ad (pr_EM l e) q0)), (1, .int x1), (2, .int x2), (3, .int x3), (4, .int x4), (5, .int x5), (6, .int v91005), (8, .int x8)] [.int v91007] := by
          refine pr_istore (lv' := [(7, .int v91007), (0, .ref (pr_ad (pr_EM l e) q0)), (1, .int x1), (2, .int x2), (3, .int x3), (4, .int x4), (5, .int x5), (6, .int v91005), (8, .int x8)]) C dX9_bestGain_147 (by decide) rfl ?_
          refine pr_iinc (v := (x8 + 1)) (lv' := [(8, .int (x8 + 1)), (7, .int v91007), (0, .ref (pr_ad (pr_EM l e) q0)), (1, .int x1), (2, .int x2), (3, .int x3), (4, .int x4), (5, .int x5), (6, .int v91005)]) C dX9_bestGain_149 8 rfl rfl (by decide) rfl ?_
          refine pr_goto (tgt := 90) C dX9_bestGain_152 (by decide) ?_
          exact pr_pick [2, 3, 4, 5, 6, 7, 8, 1, 0] rfl (ih _ _ _ _ h K)
        clear h
        have h := hv
        clear hv
        refine pr_icmp_ge (tgt := 145) C dX9_bestGain_137 (by decide) (fun c91008 => ?_) (fun c91008 => ?_)
        · have h := pr_ifT h c91008
          refine pr_iload C dX9_bestGain_145 7 rfl ?_
          obtain rfl := pr_in1 h
          exact pr_pick [1, 2, 3, 4, 5, 6, 0, 8] rfl K
        · have h := pr_ifF h c91008
          refine pr_iload C dX9_bestGain_140 9 rfl ?_
          refine pr_goto (tgt := 147) C dX9_bestGain_142 (by decide) ?_
          obtain rfl := pr_in1 h
          exact pr_pick [1, 2, 3, 4, 5, 6, 0, 8] rfl K
      clear h
      have h := hv
      clear hv
      refine pr_icmp_ge (tgt := 129) C dX9_bestGain_117 (by decide) (fun c91006 => ?_) (fun c91006 => ?_)
      · have h := pr_ifT h c91006
        refine pr_iload C dX9_bestGain_129 7 rfl ?_
        obtain rfl := pr_in1 h
        exact pr_pick [1, 2, 3, 4, 5, 6, 8, 9, 0] rfl K
      · have h := pr_ifF h c91006
        refine pr_iload_n C dX9_bestGain_120 rfl 3 rfl ?_
        refine pr_iload_n C dX9_bestGain_121 rfl 4 rfl ?_
        refine pr_iload C dX9_bestGain_122 9 rfl ?_
        refine pr_imul C dX9_bestGain_124 ?_
        refine pr_iadd C dX9_bestGain_125 ?_
        refine pr_goto (tgt := 131) C dX9_bestGain_126 (by decide) ?_
        obtain rfl := pr_in1 h
        exact pr_pick [1, 2, 3, 4, 5, 6, 8, 9, 0] rfl K
def F_X9_bestGain (c : Nat) (p1 : Int32) (p2 : Int32) (p3 : Int32) (p4 : Int32) (p5 : Int32) (f : pr_M) : Option (Int32 × pr_M) :=
  pr_b1 (F_X9_isControlled c p1 f) fun r2 =>
  if r2 = 0 then (
    some ((-1000000001), f)
  ) else (
    pr_b1 (F_X9_in p2 0 256 f) fun r5 =>
    if r5 = 0 then (
      some ((-1000000002), f)
    ) else (
      pr_b1 (F_X9_in p3 1 128 f) fun r8 =>
      if r8 = 0 then (
        some ((-1000000002), f)
      ) else (
        pr_b1 (F_X9_in p4 1 8 f) fun r11 =>
        if r11 = 0 then (
          some ((-1000000002), f)
        ) else (
          if 256 < (p2 + (p3 * (p4 - 1))) then (
            some ((-1000000002), f)
          ) else (
            pr_b1 (F_X9_in p5 1 300 f) fun r15 =>
            if r15 = 0 then (
              some ((-1000000002), f)
            ) else (
              pr_bd (F_X9_tried c p1 4 p2 p5 f) fun r18 f19 =>
              pr_bd (L_X9_bestGain_90 c p1 p2 p3 p4 p5 pr_fuel p2 r18 1 f19) fun v20 f21 =>
              some (v20, f21)
            )
          )
        )
      )
    )
  )
set_option maxHeartbeats 4000000 in
set_option maxRecDepth 100000 in
theorem m_X9_bestGain {l : Launch} {e : pr_E0} {c : Nat} {p1 : Int32} {p2 : Int32} {p3 : Int32} {p4 : Int32} {p5 : Int32} {f : pr_M} {r : Int32} {g : pr_M} (hk0 : pr_LM[c]? = some (9, 0)) (h : F_X9_bestGain c p1 p2 p3 p4 p5 f = some (r, g)) : pr_Met (pr_EM l e) yX9_bestGain cX9_bestGain 10 (some .int) { frames := 7, cells := 0, slots := 0, locals := 156 } [.ref (pr_ad (pr_EM l e) c), .int p1, .int p2, .int p3, .int p4, .int p5] f (some (.int r)) g := by
  rw [F_X9_bestGain] at h
  refine pr_enter (by decide +kernel) (Nat.le_of_ble_eq_true rfl) (fun Y C Z => ?_)
  replace C : pr_C (pr_EM l e) Y { frames := 7, cells := 0, slots := 0, locals := 156 } cX9_bestGain RX9 10 _ := C
  show pr_W (pr_EM l e) Y _ 10 f 0 [(0, .ref (pr_ad (pr_EM l e) c)), (1, .int p1), (2, .int p2), (3, .int p3), (4, .int p4), (5, .int p5)] []
  refine pr_aload_n C dX9_bestGain_0 rfl 0 rfl ?_
  refine pr_iload_n C dX9_bestGain_1 rfl 1 rfl ?_
  obtain ⟨r2, hc1, h⟩ := pr_b1_some h
  refine k_X9_isControlled C pr_w617 hk0 hc1 (Nat.le_of_ble_eq_true rfl) (Nat.le_of_ble_eq_true rfl) (Nat.le_of_ble_eq_true rfl) dX9_bestGain_2 ?_
  refine pr_if_ne (tgt := 11) C dX9_bestGain_5 (by decide) (fun c3 => ?_) (fun c3 => ?_)
  · have h := pr_ifF h c3
    refine pr_iload_n C dX9_bestGain_11 rfl 2 rfl ?_
    refine pr_iconst (v := 0) C dX9_bestGain_12 (by decide) ?_
    refine pr_sipush (v := 256) C dX9_bestGain_13 (by decide) ?_
    obtain ⟨r5, hc4, h⟩ := pr_b1_some h
    refine k_X9_in C pr_w504  hc4 (Nat.le_of_ble_eq_true rfl) (Nat.le_of_ble_eq_true rfl) (Nat.le_of_ble_eq_true rfl) dX9_bestGain_16 ?_
    refine pr_if_eq (tgt := 70) C dX9_bestGain_19 (by decide) (fun c6 => ?_) (fun c6 => ?_)
    · have h := pr_ifT h c6
      refine pr_ldc (v := (-1000000002)) C dX9_bestGain_70 pr_w511 ?_
      obtain ⟨rfl, rfl⟩ := pr_inj h
      exact pr_iret C Z dX9_bestGain_72
    · have h := pr_ifF h c6
      refine pr_iload_n C dX9_bestGain_22 rfl 3 rfl ?_
      refine pr_iconst (v := 1) C dX9_bestGain_23 (by decide) ?_
      refine pr_sipush (v := 128) C dX9_bestGain_24 (by decide) ?_
      obtain ⟨r8, hc7, h⟩ := pr_b1_some h
      refine k_X9_in C pr_w504  hc7 (Nat.le_of_ble_eq_true rfl) (Nat.le_of_ble_eq_true rfl) (Nat.le_of_ble_eq_true rfl) dX9_bestGain_27 ?_
      refine pr_if_eq (tgt := 70) C dX9_bestGain_30 (by decide) (fun c9 => ?_) (fun c9 => ?_)
      · have h := pr_ifT h c9
        refine pr_ldc (v := (-1000000002)) C dX9_bestGain_70 pr_w511 ?_
        obtain ⟨rfl, rfl⟩ := pr_inj h
        exact pr_iret C Z dX9_bestGain_72
      · have h := pr_ifF h c9
        refine pr_iload C dX9_bestGain_33 4 rfl ?_
        refine pr_iconst (v := 1) C dX9_bestGain_35 (by decide) ?_
        refine pr_bipush (v := 8) C dX9_bestGain_36 (by decide) ?_
        obtain ⟨r11, hc10, h⟩ := pr_b1_some h
        refine k_X9_in C pr_w504  hc10 (Nat.le_of_ble_eq_true rfl) (Nat.le_of_ble_eq_true rfl) (Nat.le_of_ble_eq_true rfl) dX9_bestGain_38 ?_
        refine pr_if_eq (tgt := 70) C dX9_bestGain_41 (by decide) (fun c12 => ?_) (fun c12 => ?_)
        · have h := pr_ifT h c12
          refine pr_ldc (v := (-1000000002)) C dX9_bestGain_70 pr_w511 ?_
          obtain ⟨rfl, rfl⟩ := pr_inj h
          exact pr_iret C Z dX9_bestGain_72
        · have h := pr_ifF h c12
          refine pr_iload_n C dX9_bestGain_44 rfl 2 rfl ?_
          refine pr_iload_n C dX9_bestGain_45 rfl 3 rfl ?_
          refine pr_iload C dX9_bestGain_46 4 rfl ?_
          refine pr_iconst (v := 1) C dX9_bestGain_48 (by decide) ?_
          refine pr_isub C dX9_bestGain_49 ?_
          refine pr_imul C dX9_bestGain_50 ?_
          refine pr_iadd C dX9_bestGain_51 ?_
          refine pr_sipush (v := 256) C dX9_bestGain_52 (by decide) ?_
          refine pr_icmp_gt (tgt := 70) C dX9_bestGain_55 (by decide) (fun c13 => ?_) (fun c13 => ?_)
          · have h := pr_ifT h c13
            refine pr_ldc (v := (-1000000002)) C dX9_bestGain_70 pr_w511 ?_
            obtain ⟨rfl, rfl⟩ := pr_inj h
            exact pr_iret C Z dX9_bestGain_72
          · have h := pr_ifF h c13
            refine pr_iload C dX9_bestGain_58 5 rfl ?_
            refine pr_iconst (v := 1) C dX9_bestGain_60 (by decide) ?_
            refine pr_sipush (v := 300) C dX9_bestGain_61 (by decide) ?_
            obtain ⟨r15, hc14, h⟩ := pr_b1_some h
            refine k_X9_in C pr_w504  hc14 (Nat.le_of_ble_eq_true rfl) (Nat.le_of_ble_eq_true rfl) (Nat.le_of_ble_eq_true rfl) dX9_bestGain_64 ?_
            refine pr_if_ne (tgt := 73) C dX9_bestGain_67 (by decide) (fun c16 => ?_) (fun c16 => ?_)
            · have h := pr_ifF h c16
              refine pr_iload_n C dX9_bestGain_73 rfl 2 rfl ?_
              refine pr_istore (lv' := [(6, .int p2), (0, .ref (pr_ad (pr_EM l e) c)), (1, .int p1), (2, .int p2), (3, .int p3), (4, .int p4), (5, .int p5)]) C dX9_bestGain_74 (by decide) rfl ?_
              refine pr_aload_n C dX9_bestGain_76 rfl 1 rfl ?_
              refine pr_iload_n C dX9_bestGain_77 rfl 2 rfl ?_
              refine pr_iconst (v := 4) C dX9_bestGain_78 (by decide) ?_
              refine pr_iload_n C dX9_bestGain_79 rfl 3 rfl ?_
              refine pr_iload C dX9_bestGain_80 6 rfl ?_
              obtain ⟨r18, f19, hc17, h⟩ := pr_bd_some h
              refine k_X9_tried C pr_w634 hk0 hc17 (Nat.le_of_ble_eq_true rfl) (Nat.le_of_ble_eq_true rfl) (Nat.le_of_ble_eq_true rfl) dX9_bestGain_82 ?_
              refine pr_istore (lv' := [(7, .int r18), (6, .int p2), (0, .ref (pr_ad (pr_EM l e) c)), (1, .int p1), (2, .int p2), (3, .int p3), (4, .int p4), (5, .int p5)]) C dX9_bestGain_85 (by decide) rfl ?_
              refine pr_iconst (v := 1) C dX9_bestGain_87 (by decide) ?_
              refine pr_istore (lv' := [(8, .int 1), (7, .int r18), (6, .int p2), (0, .ref (pr_ad (pr_EM l e) c)), (1, .int p1), (2, .int p2), (3, .int p3), (4, .int p4), (5, .int p5)]) C dX9_bestGain_88 (by decide) rfl ?_
              obtain ⟨v20, f21, hv, h⟩ := pr_bd_some h
              refine pr_pick [3, 4, 5, 6, 7, 8, 2, 1, 0] rfl (l_X9_bestGain_90 C hk0 pr_fuel _ _ _ _ hv ?_)
              clear hv
              refine pr_iload C dX9_bestGain_155 0 rfl ?_
              obtain ⟨rfl, rfl⟩ := pr_inj h
              exact pr_iret C Z dX9_bestGain_157
            · have h := pr_ifT h c16
              refine pr_ldc (v := (-1000000002)) C dX9_bestGain_70 pr_w511 ?_
              obtain ⟨rfl, rfl⟩ := pr_inj h
              exact pr_iret C Z dX9_bestGain_72
  · have h := pr_ifT h c3
    refine pr_ldc (v := (-1000000001)) C dX9_bestGain_8 pr_w513 ?_
    obtain ⟨rfl, rfl⟩ := pr_inj h
    exact pr_iret C Z dX9_bestGain_10

def L_X9_put_86 (q0 : Nat) (x1 : Int64) (x3 : Int32) : Nat → Int32 → pr_M → Option ((Unit) × pr_M)
  | 0, _, _ => none
  | n + 1, x6, f =>
    if x3 ≤ x6 then (
      some ((), f)
    ) else (
      pr_gd (¬ (((f q0 5) + x6) < 0 ∨ 80 ≤ Int32.toNatClampNeg ((f q0 5) + x6))) <|
      pr_lt (pr_up f (q0 + 5) (Int32.toNatClampNeg ((f q0 5) + x6)) (Int64.toInt32 ((x1 >>> (((8 * ((x3 - 1) - x6)) : Int32).toInt64 &&& 63)) &&& (255 : Int64)))) fun f87004 =>
      L_X9_put_86 q0 x1 x3 n (x6 + 1) f87004
    )
set_option maxHeartbeats 4000000 in
set_option maxRecDepth 100000 in
theorem l_X9_put_86 {l : Launch} {e : pr_E0} {Y : pr_Y} {c0 : Cond} {q0 : Nat} {x1 : Int64} {x3 : Int32} {z : Unit} {g : pr_M} (C : pr_C (pr_EM l e) Y { frames := 1, cells := 0, slots := 0, locals := 22 } cX9_put RX9 7 c0) (hq0 : pr_LM[q0]? = some (9, 0)) : ∀ (n : Nat) (x6 : Int32) (f : pr_M), L_X9_put_86 q0 x1 x3 n x6 f = some (z, g) → pr_W (pr_EM l e) Y { frames := 1, cells := 0, slots := 0, locals := 22 } 7 g 126 [(0, .ref (pr_ad (pr_EM l e) q0)), (3, .int x3)] [] → pr_W (pr_EM l e) Y { frames := 1, cells := 0, slots := 0, locals := 22 } 7 f 86 [(0, .ref (pr_ad (pr_EM l e) q0)), (1, .long x1), (3, .int x3), (6, .int x6)] [] := by
  intro n
  induction n with
  | zero =>
    intro x6 f h
    exact absurd h (by simp [L_X9_put_86])
  | succ n ih =>
    intro x6 f h K
    rw [L_X9_put_86] at h
    refine pr_iload C dX9_put_86 3 rfl ?_
    refine pr_iload_n C dX9_put_88 rfl 2 rfl ?_
    refine pr_icmp_ge (tgt := 126) C dX9_put_89 (by decide) (fun c87001 => ?_) (fun c87001 => ?_)
    · have h := pr_ifT h c87001
      obtain ⟨rfl, rfl⟩ := pr_inj h
      exact pr_pick [0, 2] rfl K
    · have h := pr_ifF h c87001
      refine pr_aload_n C dX9_put_92 rfl 0 rfl ?_
      refine pr_g_9_4 C hq0 pr_w491 dX9_put_93 ?_
      have hk87002 := pr_kM_9_4 hq0
      refine pr_aload_n C dX9_put_96 rfl 0 rfl ?_
      refine pr_g_9_5 C hq0 pr_w641 dX9_put_97 ?_
      refine pr_iload C dX9_put_100 3 rfl ?_
      refine pr_iadd C dX9_put_102 ?_
      refine pr_lload_n C dX9_put_103 rfl 1 rfl ?_
      refine pr_bipush (v := 8) C dX9_put_104 (by decide) ?_
      refine pr_iload_n C dX9_put_106 rfl 2 rfl ?_
      refine pr_iconst (v := 1) C dX9_put_107 (by decide) ?_
      refine pr_isub C dX9_put_108 ?_
      refine pr_iload C dX9_put_109 3 rfl ?_
      refine pr_isub C dX9_put_111 ?_
      refine pr_imul C dX9_put_112 ?_
      refine pr_lshr C dX9_put_113 ?_
      refine pr_ldc2 (v := 255) C dX9_put_114 pr_w640 ?_
      refine pr_land C dX9_put_117 ?_
      refine pr_l2i C dX9_put_118 ?_
      obtain ⟨hg87003, h⟩ := pr_gd_some h
      refine pr_iastore C hk87002 hg87003 dX9_put_119 (fun f87004 e87005 => ?_)
      have h := pr_lt_at h e87005
      refine pr_iinc (v := (x6 + 1)) (lv' := [(6, .int (x6 + 1)), (0, .ref (pr_ad (pr_EM l e) q0)), (1, .long x1), (3, .int x3)]) C dX9_put_120 3 rfl rfl (by decide) rfl ?_
      refine pr_goto (tgt := 86) C dX9_put_123 (by decide) ?_
      exact pr_pick [1, 2, 3, 0] rfl (ih _ _ h K)
def L_X9_put_5 (q0 : Nat) (x1 : Int64) : Nat → Int32 → Int64 → pr_M → Option (Int32 × pr_M)
  | 0, _, _, _ => none
  | n + 1, x3, x4, f =>
    if 8 ≤ x3 then (
      if x3 = 0 then (
        some ((-1000000002), f)
      ) else (
        if (lg_cmp x4 (0 : Int64)) = 0 then (
          if ((f q0 5) + x3) ≤ 80 then (
            pr_bd (L_X9_put_86 q0 x1 x3 pr_fuel 0 f) fun v6005 f6006 =>
            pr_lt (pr_up f6006 q0 5 ((f6006 q0 5) + x3)) fun f6007 =>
            some ((f6007 q0 5), f6007)
          ) else (
            some ((-1000000004), f)
          )
        ) else (
          some ((-1000000002), f)
        )
      )
    ) else (
      if (lg_cmp (x4 &&& (255 : Int64)) (0 : Int64)) = 0 then (
        if x3 = 0 then (
          some ((-1000000002), f)
        ) else (
          if (lg_cmp x4 (0 : Int64)) = 0 then (
            if ((f q0 5) + x3) ≤ 80 then (
              pr_bd (L_X9_put_86 q0 x1 x3 pr_fuel 0 f) fun v6013 f6014 =>
              pr_lt (pr_up f6014 q0 5 ((f6014 q0 5) + x3)) fun f6015 =>
              some ((f6015 q0 5), f6015)
            ) else (
              some ((-1000000004), f)
            )
          ) else (
            some ((-1000000002), f)
          )
        )
      ) else (
        pr_b1 (F_X9_in (Int64.toInt32 (x4 &&& (255 : Int64))) 33 126 f) fun r6018 =>
        if r6018 = 0 then (
          some ((-1000000002), f)
        ) else (
          L_X9_put_5 q0 x1 n (x3 + 1) (x4.toUInt64 >>> ((8 : Int32).toInt64.toUInt64 &&& Int64.toUInt64 63)).toInt64 f
        )
      )
    )
set_option maxHeartbeats 4000000 in
set_option maxRecDepth 100000 in
theorem l_X9_put_5 {l : Launch} {e : pr_E0} {Y : pr_Y} {c0 : Cond} {q0 : Nat} {x1 : Int64} {z : Int32} {g : pr_M} (C : pr_C (pr_EM l e) Y { frames := 1, cells := 0, slots := 0, locals := 22 } cX9_put RX9 7 c0) (hq0 : pr_LM[q0]? = some (9, 0)) : ∀ (n : Nat) (x3 : Int32) (x4 : Int64) (f : pr_M), L_X9_put_5 q0 x1 n x3 x4 f = some (z, g) → pr_Z (pr_EM l e) Y (some .int) (some (.int z)) g → pr_W (pr_EM l e) Y { frames := 1, cells := 0, slots := 0, locals := 22 } 7 f 5 [(0, .ref (pr_ad (pr_EM l e) q0)), (1, .long x1), (3, .int x3), (4, .long x4)] [] := by
  intro n
  induction n with
  | zero =>
    intro x3 x4 f h
    exact absurd h (by simp [L_X9_put_5])
  | succ n ih =>
    intro x3 x4 f h Z
    rw [L_X9_put_5] at h
    refine pr_iload_n C dX9_put_5 rfl 2 rfl ?_
    refine pr_bipush (v := 8) C dX9_put_6 (by decide) ?_
    refine pr_icmp_ge (tgt := 55) C dX9_put_8 (by decide) (fun c6001 => ?_) (fun c6001 => ?_)
    · have h := pr_ifT h c6001
      refine pr_iload_n C dX9_put_55 rfl 2 rfl ?_
      refine pr_if_eq (tgt := 66) C dX9_put_56 (by decide) (fun c6002 => ?_) (fun c6002 => ?_)
      · have h := pr_ifT h c6002
        refine pr_ldc (v := (-1000000002)) C dX9_put_66 pr_w511 ?_
        obtain ⟨rfl, rfl⟩ := pr_inj h
        exact pr_iret C Z dX9_put_68
      · have h := pr_ifF h c6002
        refine pr_lload C dX9_put_59 3 rfl ?_
        refine pr_lconst (v := 0) C dX9_put_61 (by decide) ?_
        refine pr_lcmp C dX9_put_62 ?_
        refine pr_if_eq (tgt := 69) C dX9_put_63 (by decide) (fun c6003 => ?_) (fun c6003 => ?_)
        · have h := pr_ifT h c6003
          refine pr_aload_n C dX9_put_69 rfl 0 rfl ?_
          refine pr_g_9_5 C hq0 pr_w641 dX9_put_70 ?_
          refine pr_iload_n C dX9_put_73 rfl 2 rfl ?_
          refine pr_iadd C dX9_put_74 ?_
          refine pr_bipush (v := 80) C dX9_put_75 (by decide) ?_
          refine pr_icmp_le (tgt := 83) C dX9_put_77 (by decide) (fun c6004 => ?_) (fun c6004 => ?_)
          · have h := pr_ifT h c6004
            refine pr_iconst (v := 0) C dX9_put_83 (by decide) ?_
            refine pr_istore (lv' := [(6, .int 0), (0, .ref (pr_ad (pr_EM l e) q0)), (1, .long x1), (3, .int x3), (4, .long x4)]) C dX9_put_84 (by decide) rfl ?_
            obtain ⟨v6005, f6006, hv, h⟩ := pr_bd_some h
            refine pr_pick [1, 2, 3, 0] rfl (l_X9_put_86 C hq0 pr_fuel _ _ hv ?_)
            clear hv
            refine pr_aload_n C dX9_put_126 rfl 0 rfl ?_
            refine pr_dup C dX9_put_127 rfl ?_
            refine pr_g_9_5 C hq0 pr_w641 dX9_put_128 ?_
            refine pr_iload_n C dX9_put_131 rfl 1 rfl ?_
            refine pr_iadd C dX9_put_132 ?_
            refine pr_p_9_5 C hq0 pr_w641 dX9_put_133 (fun f6007 e6008 => ?_)
            have h := pr_lt_at h e6008
            refine pr_aload_n C dX9_put_136 rfl 0 rfl ?_
            refine pr_g_9_5 C hq0 pr_w641 dX9_put_137 ?_
            obtain ⟨rfl, rfl⟩ := pr_inj h
            exact pr_iret C Z dX9_put_140
          · have h := pr_ifF h c6004
            refine pr_ldc (v := (-1000000004)) C dX9_put_80 pr_w642 ?_
            obtain ⟨rfl, rfl⟩ := pr_inj h
            exact pr_iret C Z dX9_put_82
        · have h := pr_ifF h c6003
          refine pr_ldc (v := (-1000000002)) C dX9_put_66 pr_w511 ?_
          obtain ⟨rfl, rfl⟩ := pr_inj h
          exact pr_iret C Z dX9_put_68
    · have h := pr_ifF h c6001
      refine pr_lload C dX9_put_11 3 rfl ?_
      refine pr_ldc2 (v := 255) C dX9_put_13 pr_w640 ?_
      refine pr_land C dX9_put_16 ?_
      refine pr_lconst (v := 0) C dX9_put_17 (by decide) ?_
      refine pr_lcmp C dX9_put_18 ?_
      refine pr_if_eq (tgt := 55) C dX9_put_19 (by decide) (fun c6009 => ?_) (fun c6009 => ?_)
      · have h := pr_ifT h c6009
        refine pr_iload_n C dX9_put_55 rfl 2 rfl ?_
        refine pr_if_eq (tgt := 66) C dX9_put_56 (by decide) (fun c6010 => ?_) (fun c6010 => ?_)
        · have h := pr_ifT h c6010
          refine pr_ldc (v := (-1000000002)) C dX9_put_66 pr_w511 ?_
          obtain ⟨rfl, rfl⟩ := pr_inj h
          exact pr_iret C Z dX9_put_68
        · have h := pr_ifF h c6010
          refine pr_lload C dX9_put_59 3 rfl ?_
          refine pr_lconst (v := 0) C dX9_put_61 (by decide) ?_
          refine pr_lcmp C dX9_put_62 ?_
          refine pr_if_eq (tgt := 69) C dX9_put_63 (by decide) (fun c6011 => ?_) (fun c6011 => ?_)
          · have h := pr_ifT h c6011
            refine pr_aload_n C dX9_put_69 rfl 0 rfl ?_
            refine pr_g_9_5 C hq0 pr_w641 dX9_put_70 ?_
            refine pr_iload_n C dX9_put_73 rfl 2 rfl ?_
            refine pr_iadd C dX9_put_74 ?_
            refine pr_bipush (v := 80) C dX9_put_75 (by decide) ?_
            refine pr_icmp_le (tgt := 83) C dX9_put_77 (by decide) (fun c6012 => ?_) (fun c6012 => ?_)
            · have h := pr_ifT h c6012
              refine pr_iconst (v := 0) C dX9_put_83 (by decide) ?_
              refine pr_istore (lv' := [(6, .int 0), (0, .ref (pr_ad (pr_EM l e) q0)), (1, .long x1), (3, .int x3), (4, .long x4)]) C dX9_put_84 (by decide) rfl ?_
              obtain ⟨v6013, f6014, hv, h⟩ := pr_bd_some h
              refine pr_pick [1, 2, 3, 0] rfl (l_X9_put_86 C hq0 pr_fuel _ _ hv ?_)
              clear hv
              refine pr_aload_n C dX9_put_126 rfl 0 rfl ?_
              refine pr_dup C dX9_put_127 rfl ?_
              refine pr_g_9_5 C hq0 pr_w641 dX9_put_128 ?_
              refine pr_iload_n C dX9_put_131 rfl 1 rfl ?_
              refine pr_iadd C dX9_put_132 ?_
              refine pr_p_9_5 C hq0 pr_w641 dX9_put_133 (fun f6015 e6016 => ?_)
              have h := pr_lt_at h e6016
              refine pr_aload_n C dX9_put_136 rfl 0 rfl ?_
              refine pr_g_9_5 C hq0 pr_w641 dX9_put_137 ?_
              obtain ⟨rfl, rfl⟩ := pr_inj h
              exact pr_iret C Z dX9_put_140
            · have h := pr_ifF h c6012
              refine pr_ldc (v := (-1000000004)) C dX9_put_80 pr_w642 ?_
              obtain ⟨rfl, rfl⟩ := pr_inj h
              exact pr_iret C Z dX9_put_82
          · have h := pr_ifF h c6011
            refine pr_ldc (v := (-1000000002)) C dX9_put_66 pr_w511 ?_
            obtain ⟨rfl, rfl⟩ := pr_inj h
            exact pr_iret C Z dX9_put_68
      · have h := pr_ifF h c6009
        refine pr_lload C dX9_put_22 3 rfl ?_
        refine pr_ldc2 (v := 255) C dX9_put_24 pr_w640 ?_
        refine pr_land C dX9_put_27 ?_
        refine pr_l2i C dX9_put_28 ?_
        refine pr_bipush (v := 33) C dX9_put_29 (by decide) ?_
        refine pr_bipush (v := 126) C dX9_put_31 (by decide) ?_
        obtain ⟨r6018, hc6017, h⟩ := pr_b1_some h
        refine k_X9_in C pr_w504  hc6017 (Nat.le_of_ble_eq_true rfl) (Nat.le_of_ble_eq_true rfl) (Nat.le_of_ble_eq_true rfl) dX9_put_33 ?_
        refine pr_if_ne (tgt := 42) C dX9_put_36 (by decide) (fun c6019 => ?_) (fun c6019 => ?_)
        · have h := pr_ifF h c6019
          refine pr_iinc (v := (x3 + 1)) (lv' := [(3, .int (x3 + 1)), (0, .ref (pr_ad (pr_EM l e) q0)), (1, .long x1), (4, .long x4)]) C dX9_put_42 2 rfl rfl (by decide) rfl ?_
          refine pr_lload C dX9_put_45 3 rfl ?_
          refine pr_bipush (v := 8) C dX9_put_47 (by decide) ?_
          refine pr_lushr C dX9_put_49 ?_
          refine pr_lstore (lv' := [(4, .long (x4.toUInt64 >>> ((8 : Int32).toInt64.toUInt64 &&& Int64.toUInt64 63)).toInt64), (3, .int (x3 + 1)), (0, .ref (pr_ad (pr_EM l e) q0)), (1, .long x1)]) C dX9_put_50 (by decide) rfl ?_
          refine pr_goto (tgt := 5) C dX9_put_52 (by decide) ?_
          exact pr_pick [2, 3, 1, 0] rfl (ih _ _ _ h Z)
        · have h := pr_ifT h c6019
          refine pr_ldc (v := (-1000000002)) C dX9_put_39 pr_w511 ?_
          obtain ⟨rfl, rfl⟩ := pr_inj h
          exact pr_iret C Z dX9_put_41
def F_X9_put (c : Nat) (p1 : Int64) (f : pr_M) : Option (Int32 × pr_M) :=
  L_X9_put_5 c p1 pr_fuel 0 p1 f
set_option maxHeartbeats 4000000 in
set_option maxRecDepth 100000 in
theorem m_X9_put {l : Launch} {e : pr_E0} {c : Nat} {p1 : Int64} {f : pr_M} {r : Int32} {g : pr_M} (hk0 : pr_LM[c]? = some (9, 0)) (h : F_X9_put c p1 f = some (r, g)) : pr_Met (pr_EM l e) yX9_put cX9_put 7 (some .int) { frames := 1, cells := 0, slots := 0, locals := 22 } [.ref (pr_ad (pr_EM l e) c), .long p1] f (some (.int r)) g := by
  rw [F_X9_put] at h
  refine pr_enter (by decide +kernel) (Nat.le_of_ble_eq_true rfl) (fun Y C Z => ?_)
  replace C : pr_C (pr_EM l e) Y { frames := 1, cells := 0, slots := 0, locals := 22 } cX9_put RX9 7 _ := C
  show pr_W (pr_EM l e) Y _ 7 f 0 [(0, .ref (pr_ad (pr_EM l e) c)), (1, .long p1)] []
  refine pr_iconst (v := 0) C dX9_put_0 (by decide) ?_
  refine pr_istore_n (lv' := [(3, .int 0), (0, .ref (pr_ad (pr_EM l e) c)), (1, .long p1)]) C dX9_put_1 rfl (by decide) rfl ?_
  refine pr_lload_n C dX9_put_2 rfl 2 rfl ?_
  refine pr_lstore (lv' := [(4, .long p1), (3, .int 0), (0, .ref (pr_ad (pr_EM l e) c)), (1, .long p1)]) C dX9_put_3 (by decide) rfl ?_
  exact pr_pick [2, 3, 1, 0] rfl (l_X9_put_5 C hk0 pr_fuel _ _ _ h Z)

def F_X9_wipe (c : Nat) (f : pr_M) : Option (Int32 × pr_M) :=
  pr_lt (pr_up f c 5 0) fun f1 =>
  some ((f c 5), f1)
set_option maxHeartbeats 4000000 in
set_option maxRecDepth 100000 in
theorem m_X9_wipe {l : Launch} {e : pr_E0} {c : Nat} {f : pr_M} {r : Int32} {g : pr_M} (hk0 : pr_LM[c]? = some (9, 0)) (h : F_X9_wipe c f = some (r, g)) : pr_Met (pr_EM l e) yX9_wipe cX9_wipe 2 (some .int) { frames := 0, cells := 0, slots := 0, locals := 0 } [.ref (pr_ad (pr_EM l e) c)] f (some (.int r)) g := by
  rw [F_X9_wipe] at h
  refine pr_enter (by decide +kernel) (Nat.le_of_ble_eq_true rfl) (fun Y C Z => ?_)
  replace C : pr_C (pr_EM l e) Y { frames := 0, cells := 0, slots := 0, locals := 0 } cX9_wipe RX9 2 _ := C
  show pr_W (pr_EM l e) Y _ 2 f 0 [(0, .ref (pr_ad (pr_EM l e) c))] []
  refine pr_aload_n C dX9_wipe_0 rfl 0 rfl ?_
  refine pr_g_9_5 C hk0 pr_w641 dX9_wipe_1 ?_
  refine pr_istore_n (lv' := [(1, .int (f c 5)), (0, .ref (pr_ad (pr_EM l e) c))]) C dX9_wipe_4 rfl (by decide) rfl ?_
  refine pr_aload_n C dX9_wipe_5 rfl 1 rfl ?_
  refine pr_iconst (v := 0) C dX9_wipe_6 (by decide) ?_
  refine pr_p_9_5 C hk0 pr_w641 dX9_wipe_7 (fun f1 e2 => ?_)
  have h := pr_lt_at h e2
  refine pr_iload_n C dX9_wipe_10 rfl 0 rfl ?_
  obtain ⟨rfl, rfl⟩ := pr_inj h
  exact pr_iret C Z dX9_wipe_11

def F_X9_next (c : Nat) (f : pr_M) : Option (Int32) :=
  if (f c 5) ≤ (f c 6) then (
    some 0
  ) else (
    pr_gd (¬ ((f c 6) < 0 ∨ 80 ≤ Int32.toNatClampNeg (f c 6))) <|
    some (f (c + 5) (Int32.toNatClampNeg (f c 6)))
  )
set_option maxHeartbeats 4000000 in
set_option maxRecDepth 100000 in
theorem m_X9_next {l : Launch} {e : pr_E0} {c : Nat} {f : pr_M} {r : Int32} (hk0 : pr_LM[c]? = some (9, 0)) (h : F_X9_next c f = some r) : pr_Met (pr_EM l e) yX9_next cX9_next 1 (some .int) { frames := 0, cells := 0, slots := 0, locals := 0 } [.ref (pr_ad (pr_EM l e) c)] f (some (.int r)) f := by
  rw [F_X9_next] at h
  refine pr_enter (by decide +kernel) (Nat.le_of_ble_eq_true rfl) (fun Y C Z => ?_)
  replace C : pr_C (pr_EM l e) Y { frames := 0, cells := 0, slots := 0, locals := 0 } cX9_next RX9 1 _ := C
  show pr_W (pr_EM l e) Y _ 1 f 0 [(0, .ref (pr_ad (pr_EM l e) c))] []
  refine pr_aload_n C dX9_next_0 rfl 0 rfl ?_
  refine pr_g_9_6 C hk0 pr_w645 dX9_next_1 ?_
  refine pr_aload_n C dX9_next_4 rfl 0 rfl ?_
  refine pr_g_9_5 C hk0 pr_w641 dX9_next_5 ?_
  refine pr_icmp_ge (tgt := 23) C dX9_next_8 (by decide) (fun c1 => ?_) (fun c1 => ?_)
  · have h := pr_ifT h c1
    refine pr_iconst (v := 0) C dX9_next_23 (by decide) ?_
    obtain rfl := pr_in1 h
    exact pr_iret C Z dX9_next_24
  · have h := pr_ifF h c1
    refine pr_aload_n C dX9_next_11 rfl 0 rfl ?_
    refine pr_g_9_4 C hk0 pr_w491 dX9_next_12 ?_
    have hk2 := pr_kM_9_4 hk0
    refine pr_aload_n C dX9_next_15 rfl 0 rfl ?_
    refine pr_g_9_6 C hk0 pr_w645 dX9_next_16 ?_
    obtain ⟨hg3, h⟩ := pr_gd_some h
    refine pr_iaload C hk2 hg3 dX9_next_19 ?_
    refine pr_goto (tgt := 24) C dX9_next_20 (by decide) ?_
    obtain rfl := pr_in1 h
    exact pr_iret C Z dX9_next_24
theorem k_X9_next {l : Launch} {e : pr_E0} {Y : pr_Y} {Rm : Room} {cc : ByteArray} {own : String} {nL : Nat} {c0 : Cond} {pc idx : Nat} {lv : List (Nat × Value)} {st : List Value} {c : Nat} {f : pr_M} {r : Int32} (C : pr_C (pr_EM l e) Y Rm cc own nL c0) (w1 : Cond.methodLink own idx yX9_next ∈ pr_AL) (hk0 : pr_LM[c]? = some (9, 0)) (h : F_X9_next c f = some r) (hr1 : 1 ≤ Rm.frames) (hr2 : 20 ≤ Rm.locals) (hcat : (st.map fun v => v.category).sum ≤ 8) (hdg : decode cc pc = .ok (.invokevirtual idx, 3)) (k : pr_W (pr_EM l e) Y Rm nL f (pc + 3) lv (.int r :: st)) : pr_W (pr_EM l e) Y Rm nL f pc lv (.ref (pr_ad (pr_EM l e) c) :: st) :=
  pr_callV (As := []) (n := 0) C (m_X9_next hk0 h) hk0 (by decide) rfl w1 pr_w649 pr_w650 pr_w479 pr_w644 rfl rfl ⟨rfl, by decide +kernel, by decide +kernel, by decide +kernel⟩ rfl ⟨hr1, hr2⟩ rfl hcat hdg k

def F_X9_need (c : Nat) (p1 : Int32) (f : pr_M) : Option (Unit × pr_M) :=
  pr_b1 (α := Int32) (
    if (f c 7) = 0 then (
      pr_b1 (F_X9_next c f) fun r4 =>
      if r4 = p1 then (
        some 0
      ) else (
        some 1
      )
    ) else (
      some 1
    )
  ) fun v1 =>
  pr_gd (v1 = 0 ∨ v1 = 1) <|
  pr_lt (pr_up f c 7 v1) fun f6 =>
  pr_b1 (α := Int32) (
    if (f6 c 7) = 0 then (
      some 1
    ) else (
      some 0
    )
  ) fun v9 =>
  pr_lt (pr_up f6 c 6 ((f6 c 6) + v9)) fun f11 =>
  some ((), f11)
set_option maxHeartbeats 4000000 in
set_option maxRecDepth 100000 in
theorem m_X9_need {l : Launch} {e : pr_E0} {c : Nat} {p1 : Int32} {f : pr_M} {r : Unit} {g : pr_M} (hk0 : pr_LM[c]? = some (9, 0)) (h : F_X9_need c p1 f = some (r, g)) : pr_Met (pr_EM l e) yX9_need cX9_need 2 none { frames := 1, cells := 0, slots := 0, locals := 20 } [.ref (pr_ad (pr_EM l e) c), .int p1] f none g := by
  rw [F_X9_need] at h
  refine pr_enter (by decide +kernel) (Nat.le_of_ble_eq_true rfl) (fun Y C Z => ?_)
  replace C : pr_C (pr_EM l e) Y { frames := 1, cells := 0, slots := 0, locals := 20 } cX9_need RX9 2 _ := C
  show pr_W (pr_EM l e) Y _ 2 f 0 [(0, .ref (pr_ad (pr_EM l e) c)), (1, .int p1)] []
  refine pr_aload_n C dX9_need_0 rfl 0 rfl ?_
  refine pr_aload_n C dX9_need_1 rfl 0 rfl ?_
  refine pr_g_9_7 C hk0 pr_w647 dX9_need_2 ?_
  obtain ⟨v1, hv, h⟩ := pr_b1_some h
  have K : pr_W (pr_EM l e) Y { frames := 1, cells := 0, slots := 0, locals := 20 } 2 f 21 [(0, .ref (pr_ad (pr_EM l e) c))] [.int v1, .ref (pr_ad (pr_EM l e) c)] := by
    obtain ⟨hg8, h⟩ := pr_gd_some h
    refine pr_p_9_7 C hk0 pr_w647 hg8 dX9_need_21 (fun f6 e7 => ?_)
    have h := pr_lt_at h e7
    refine pr_aload_n C dX9_need_24 rfl 0 rfl ?_
    refine pr_dup C dX9_need_25 rfl ?_
    refine pr_g_9_6 C hk0 pr_w645 dX9_need_26 ?_
    refine pr_aload_n C dX9_need_29 rfl 0 rfl ?_
    refine pr_g_9_7 C hk0 pr_w647 dX9_need_30 ?_
    obtain ⟨v9, hv, h⟩ := pr_b1_some h
    have K : pr_W (pr_EM l e) Y { frames := 1, cells := 0, slots := 0, locals := 20 } 2 f6 41 [] [.int v9, .int (f6 c 6), .ref (pr_ad (pr_EM l e) c)] := by
      refine pr_iadd C dX9_need_41 ?_
      refine pr_p_9_6 C hk0 pr_w645 dX9_need_42 (fun f11 e12 => ?_)
      have h := pr_lt_at h e12
      obtain ⟨rfl, rfl⟩ := pr_inj h
      exact pr_vret C Z dX9_need_45
    clear h
    have h := hv
    clear hv
    refine pr_if_eq (tgt := 40) C dX9_need_33 (by decide) (fun c10 => ?_) (fun c10 => ?_)
    · have h := pr_ifT h c10
      refine pr_iconst (v := 1) C dX9_need_40 (by decide) ?_
      obtain rfl := pr_in1 h
      exact pr_pick [] rfl K
    · have h := pr_ifF h c10
      refine pr_iconst (v := 0) C dX9_need_36 (by decide) ?_
      refine pr_goto (tgt := 41) C dX9_need_37 (by decide) ?_
      obtain rfl := pr_in1 h
      exact pr_pick [] rfl K
  clear h
  have h := hv
  clear hv
  refine pr_if_ne (tgt := 16) C dX9_need_5 (by decide) (fun c2 => ?_) (fun c2 => ?_)
  · have h := pr_ifF h c2
    refine pr_iconst (v := 1) C dX9_need_16 (by decide) ?_
    refine pr_goto (tgt := 21) C dX9_need_17 (by decide) ?_
    obtain rfl := pr_in1 h
    exact pr_pick [0] rfl K
  · have h := pr_ifT h c2
    refine pr_aload_n C dX9_need_8 rfl 0 rfl ?_
    obtain ⟨r4, hc3, h⟩ := pr_b1_some h
    refine k_X9_next C pr_w648 hk0 hc3 (Nat.le_of_ble_eq_true rfl) (Nat.le_of_ble_eq_true rfl) (Nat.le_of_ble_eq_true rfl) dX9_need_9 ?_
    refine pr_iload_n C dX9_need_12 rfl 1 rfl ?_
    refine pr_icmp_eq (tgt := 20) C dX9_need_13 (by decide) (fun c5 => ?_) (fun c5 => ?_)
    · have h := pr_ifT h c5
      refine pr_iconst (v := 0) C dX9_need_20 (by decide) ?_
      obtain rfl := pr_in1 h
      exact pr_pick [0] rfl K
    · have h := pr_ifF h c5
      refine pr_iconst (v := 1) C dX9_need_16 (by decide) ?_
      refine pr_goto (tgt := 21) C dX9_need_17 (by decide) ?_
      obtain rfl := pr_in1 h
      exact pr_pick [0] rfl K
theorem k_X9_need {l : Launch} {e : pr_E0} {Y : pr_Y} {Rm : Room} {cc : ByteArray} {own : String} {nL : Nat} {c0 : Cond} {pc idx : Nat} {lv : List (Nat × Value)} {st : List Value} {c : Nat} {p1 : Int32} {f : pr_M} {r : Unit} {g : pr_M} (C : pr_C (pr_EM l e) Y Rm cc own nL c0) (w1 : Cond.methodLink own idx yX9_need ∈ pr_AL) (hk0 : pr_LM[c]? = some (9, 0)) (h : F_X9_need c p1 f = some (r, g)) (hr1 : 2 ≤ Rm.frames) (hr2 : 41 ≤ Rm.locals) (hcat : (st.map fun v => v.category).sum ≤ 8) (hdg : decode cc pc = .ok (.invokevirtual idx, 3)) (k : pr_W (pr_EM l e) Y Rm nL g (pc + 3) lv (st)) : pr_W (pr_EM l e) Y Rm nL f pc lv (.int p1 :: .ref (pr_ad (pr_EM l e) c) :: st) :=
  pr_callV (As := [.int p1]) (n := 1) C (m_X9_need hk0 h) hk0 (by decide) rfl w1 pr_w658 pr_w659 pr_w479 pr_w646 rfl rfl ⟨rfl, by decide +kernel, by decide +kernel, by decide +kernel⟩ rfl ⟨hr1, hr2⟩ rfl hcat hdg k
