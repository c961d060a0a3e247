def F_L_settings (p1 : Nat) (sL : Nat) (sx : Nat → Int32) (p3 : Int32) (p4 : Int32) (f : pr_M) : Option (Unit × pr_M) :=
  pr_b1 (F_L_cell sL sx p4 6 f) fun r2 =>
  pr_bd (F_X8_set p1 p3 0 (1 + r2) f) fun r4 f5 =>
  pr_b1 (F_L_cell sL sx (p4 + 1) 4 f5) fun r7 =>
  pr_bd (F_X8_set p1 p3 1 (1 + r7) f5) fun r9 f10 =>
  pr_b1 (F_L_cell sL sx (p4 + 2) 400 f10) fun r12 =>
  pr_bd (F_X8_set p1 p3 2 (5 + r12) f10) fun r14 f15 =>
  pr_b1 (F_L_cell sL sx (p4 + 3) 5 f15) fun r17 =>
  pr_bd (F_X8_set p1 p3 3 (1 + r17) f15) fun r19 f20 =>
  pr_b1 (F_L_cell sL sx (p4 + 4) 257 f20) fun r22 =>
  pr_bd (F_X8_set p1 p3 4 r22 f20) fun r24 f25 =>
  pr_b1 (F_L_cell sL sx (p4 + 5) 40 f25) fun r27 =>
  pr_bd (F_X8_set p1 p3 5 r27 f25) fun r29 f30 =>
  pr_b1 (F_L_cell sL sx (p4 + 6) 20 f30) fun r32 =>
  pr_bd (F_X8_set p1 p3 6 r32 f30) fun r34 f35 =>
  pr_b1 (F_L_cell sL sx (p4 + 7) 400 f35) fun r37 =>
  pr_bd (F_X8_set p1 p3 7 (20 + r37) f35) fun r39 f40 =>
  pr_b1 (F_L_cell sL sx (p4 + 8) 257 f40) fun r42 =>
  pr_bd (F_X8_set p1 p3 8 r42 f40) fun r44 f45 =>
  pr_b1 (F_L_cell sL sx (p4 + 9) 10 f45) fun r47 =>
  pr_bd (F_X8_set p1 p3 9 r47 f45) fun r49 f50 =>
  pr_b1 (F_L_cell sL sx (p4 + 10) 201 f50) fun r52 =>
  pr_bd (F_X8_set p1 p3 10 (r52 - 100) f50) fun r54 f55 =>
  pr_b1 (F_L_cell sL sx (p4 + 11) 600 f55) fun r57 =>
  pr_bd (F_X8_adjust p1 p3 0 (r57 - 300) f55) fun r59 f60 =>
  pr_b1 (F_L_cell sL sx (p4 + 12) 200 f60) fun r62 =>
  pr_bd (F_X8_adjust p1 p3 2 (r62 - 100) f60) fun r64 f65 =>
  some ((), f65)
set_option maxHeartbeats 4000000 in
set_option maxRecDepth 100000 in
theorem m_L_settings {l : Launch} {e : pr_E0} {sb : Nat} {p1 : Nat} {sL : Nat} {sx : Nat → Int32} {p3 : Int32} {p4 : Int32} {f : pr_M} {r : Unit} {g : pr_M} (hk01 : (pr_LE e)[p1]? = some (8, 0)) (hsc : pr_sc (pr_EC l e) = (sb, sL, sx)) (h : F_L_settings p1 sL sx p3 p4 f = some (r, g)) : pr_Met (pr_EC l e) yL_settings cL_settings 4 none { frames := 3, cells := 0, slots := 0, locals := 68 } [.ref (pr_ad (pr_EC l e) p1), .ref sb, .int p3, .int p4] f none g := by
  rw [F_L_settings] at h
  refine pr_enter (by decide +kernel) (Nat.le_of_ble_eq_true rfl) (fun Y C Z => ?_)
  replace C : pr_C (pr_EC l e) Y { frames := 3, cells := 0, slots := 0, locals := 68 } cL_settings RL 4 _ := C
  show pr_W (pr_EC l e) Y _ 4 f 0 [(0, .ref (pr_ad (pr_EC l e) p1)), (1, .ref sb), (2, .int p3), (3, .int p4)] []
  refine pr_aload_n C dL_settings_0 rfl 0 rfl ?_
  refine pr_iload_n C dL_settings_1 rfl 2 rfl ?_
  refine pr_iconst (v := 0) C dL_settings_2 (by decide) ?_
  refine pr_iconst (v := 1) C dL_settings_3 (by decide) ?_
  refine pr_aload_n C dL_settings_4 rfl 1 rfl ?_
  refine pr_iload_n C dL_settings_5 rfl 3 rfl ?_
  refine pr_bipush (v := 6) C dL_settings_6 (by decide) ?_
  obtain ⟨r2, hc1, h⟩ := pr_b1_some h
  refine k_L_cell C pr_w377 hsc hc1 (Nat.le_of_ble_eq_true rfl) (Nat.le_of_ble_eq_true rfl) (Nat.le_of_ble_eq_true rfl) dL_settings_8 ?_
  refine pr_iadd C dL_settings_11 ?_
  obtain ⟨r4, f5, hc3, h⟩ := pr_bd_some h
  refine k_X8_set C pr_w379 hk01 hc3 (Nat.le_of_ble_eq_true rfl) (Nat.le_of_ble_eq_true rfl) (Nat.le_of_ble_eq_true rfl) dL_settings_12 ?_
  refine pr_pop C dL_settings_15 rfl ?_
  refine pr_aload_n C dL_settings_16 rfl 0 rfl ?_
  refine pr_iload_n C dL_settings_17 rfl 2 rfl ?_
  refine pr_iconst (v := 1) C dL_settings_18 (by decide) ?_
  refine pr_iconst (v := 1) C dL_settings_19 (by decide) ?_
  refine pr_aload_n C dL_settings_20 rfl 1 rfl ?_
  refine pr_iload_n C dL_settings_21 rfl 3 rfl ?_
  refine pr_iconst (v := 1) C dL_settings_22 (by decide) ?_
  refine pr_iadd C dL_settings_23 ?_
  refine pr_iconst (v := 4) C dL_settings_24 (by decide) ?_
  obtain ⟨r7, hc6, h⟩ := pr_b1_some h
  refine k_L_cell C pr_w377 hsc hc6 (Nat.le_of_ble_eq_true rfl) (Nat.le_of_ble_eq_true rfl) (Nat.le_of_ble_eq_true rfl) dL_settings_25 ?_
  refine pr_iadd C dL_settings_28 ?_
  obtain ⟨r9, f10, hc8, h⟩ := pr_bd_some h
  refine k_X8_set C pr_w379 hk01 hc8 (Nat.le_of_ble_eq_true rfl) (Nat.le_of_ble_eq_true rfl) (Nat.le_of_ble_eq_true rfl) dL_settings_29 ?_
  refine pr_pop C dL_settings_32 rfl ?_
  refine pr_aload_n C dL_settings_33 rfl 0 rfl ?_
  refine pr_iload_n C dL_settings_34 rfl 2 rfl ?_
  refine pr_iconst (v := 2) C dL_settings_35 (by decide) ?_
  refine pr_iconst (v := 5) C dL_settings_36 (by decide) ?_
  refine pr_aload_n C dL_settings_37 rfl 1 rfl ?_
  refine pr_iload_n C dL_settings_38 rfl 3 rfl ?_
  refine pr_iconst (v := 2) C dL_settings_39 (by decide) ?_
  refine pr_iadd C dL_settings_40 ?_
  refine pr_sipush (v := 400) C dL_settings_41 (by decide) ?_
  obtain ⟨r12, hc11, h⟩ := pr_b1_some h
  refine k_L_cell C pr_w377 hsc hc11 (Nat.le_of_ble_eq_true rfl) (Nat.le_of_ble_eq_true rfl) (Nat.le_of_ble_eq_true rfl) dL_settings_44 ?_
  refine pr_iadd C dL_settings_47 ?_
  obtain ⟨r14, f15, hc13, h⟩ := pr_bd_some h
  refine k_X8_set C pr_w379 hk01 hc13 (Nat.le_of_ble_eq_true rfl) (Nat.le_of_ble_eq_true rfl) (Nat.le_of_ble_eq_true rfl) dL_settings_48 ?_
  refine pr_pop C dL_settings_51 rfl ?_
  refine pr_aload_n C dL_settings_52 rfl 0 rfl ?_
  refine pr_iload_n C dL_settings_53 rfl 2 rfl ?_
  refine pr_iconst (v := 3) C dL_settings_54 (by decide) ?_
  refine pr_iconst (v := 1) C dL_settings_55 (by decide) ?_
  refine pr_aload_n C dL_settings_56 rfl 1 rfl ?_
  refine pr_iload_n C dL_settings_57 rfl 3 rfl ?_
  refine pr_iconst (v := 3) C dL_settings_58 (by decide) ?_
  refine pr_iadd C dL_settings_59 ?_
  refine pr_iconst (v := 5) C dL_settings_60 (by decide) ?_
  obtain ⟨r17, hc16, h⟩ := pr_b1_some h
  refine k_L_cell C pr_w377 hsc hc16 (Nat.le_of_ble_eq_true rfl) (Nat.le_of_ble_eq_true rfl) (Nat.le_of_ble_eq_true rfl) dL_settings_61 ?_
  refine pr_iadd C dL_settings_64 ?_
  obtain ⟨r19, f20, hc18, h⟩ := pr_bd_some h
  refine k_X8_set C pr_w379 hk01 hc18 (Nat.le_of_ble_eq_true rfl) (Nat.le_of_ble_eq_true rfl) (Nat.le_of_ble_eq_true rfl) dL_settings_65 ?_
  refine pr_pop C dL_settings_68 rfl ?_
  refine pr_aload_n C dL_settings_69 rfl 0 rfl ?_
  refine pr_iload_n C dL_settings_70 rfl 2 rfl ?_
  refine pr_iconst (v := 4) C dL_settings_71 (by decide) ?_
  refine pr_aload_n C dL_settings_72 rfl 1 rfl ?_
  refine pr_iload_n C dL_settings_73 rfl 3 rfl ?_
  refine pr_iconst (v := 4) C dL_settings_74 (by decide) ?_
  refine pr_iadd C dL_settings_75 ?_
  refine pr_sipush (v := 257) C dL_settings_76 (by decide) ?_
  obtain ⟨r22, hc21, h⟩ := pr_b1_some h
  refine k_L_cell C pr_w377 hsc hc21 (Nat.le_of_ble_eq_true rfl) (Nat.le_of_ble_eq_true rfl) (Nat.le_of_ble_eq_true rfl) dL_settings_79 ?_
  obtain ⟨r24, f25, hc23, h⟩ := pr_bd_some h
  refine k_X8_set C pr_w379 hk01 hc23 (Nat.le_of_ble_eq_true rfl) (Nat.le_of_ble_eq_true rfl) (Nat.le_of_ble_eq_true rfl) dL_settings_82 ?_
  refine pr_pop C dL_settings_85 rfl ?_
  refine pr_aload_n C dL_settings_86 rfl 0 rfl ?_
  refine pr_iload_n C dL_settings_87 rfl 2 rfl ?_
  refine pr_iconst (v := 5) C dL_settings_88 (by decide) ?_
  refine pr_aload_n C dL_settings_89 rfl 1 rfl ?_
  refine pr_iload_n C dL_settings_90 rfl 3 rfl ?_
  refine pr_iconst (v := 5) C dL_settings_91 (by decide) ?_
  refine pr_iadd C dL_settings_92 ?_
  refine pr_bipush (v := 40) C dL_settings_93 (by decide) ?_
  obtain ⟨r27, hc26, h⟩ := pr_b1_some h
  refine k_L_cell C pr_w377 hsc hc26 (Nat.le_of_ble_eq_true rfl) (Nat.le_of_ble_eq_true rfl) (Nat.le_of_ble_eq_true rfl) dL_settings_95 ?_
  obtain ⟨r29, f30, hc28, h⟩ := pr_bd_some h
  refine k_X8_set C pr_w379 hk01 hc28 (Nat.le_of_ble_eq_true rfl) (Nat.le_of_ble_eq_true rfl) (Nat.le_of_ble_eq_true rfl) dL_settings_98 ?_
  refine pr_pop C dL_settings_101 rfl ?_
  refine pr_aload_n C dL_settings_102 rfl 0 rfl ?_
  refine pr_iload_n C dL_settings_103 rfl 2 rfl ?_
  refine pr_bipush (v := 6) C dL_settings_104 (by decide) ?_
  refine pr_aload_n C dL_settings_106 rfl 1 rfl ?_
  refine pr_iload_n C dL_settings_107 rfl 3 rfl ?_
  refine pr_bipush (v := 6) C dL_settings_108 (by decide) ?_
  refine pr_iadd C dL_settings_110 ?_
  refine pr_bipush (v := 20) C dL_settings_111 (by decide) ?_
  obtain ⟨r32, hc31, h⟩ := pr_b1_some h
  refine k_L_cell C pr_w377 hsc hc31 (Nat.le_of_ble_eq_true rfl) (Nat.le_of_ble_eq_true rfl) (Nat.le_of_ble_eq_true rfl) dL_settings_113 ?_
  obtain ⟨r34, f35, hc33, h⟩ := pr_bd_some h
  refine k_X8_set C pr_w379 hk01 hc33 (Nat.le_of_ble_eq_true rfl) (Nat.le_of_ble_eq_true rfl) (Nat.le_of_ble_eq_true rfl) dL_settings_116 ?_
  refine pr_pop C dL_settings_119 rfl ?_
  refine pr_aload_n C dL_settings_120 rfl 0 rfl ?_
  refine pr_iload_n C dL_settings_121 rfl 2 rfl ?_
  refine pr_bipush (v := 7) C dL_settings_122 (by decide) ?_
  refine pr_bipush (v := 20) C dL_settings_124 (by decide) ?_
  refine pr_aload_n C dL_settings_126 rfl 1 rfl ?_
  refine pr_iload_n C dL_settings_127 rfl 3 rfl ?_
  refine pr_bipush (v := 7) C dL_settings_128 (by decide) ?_
  refine pr_iadd C dL_settings_130 ?_
  refine pr_sipush (v := 400) C dL_settings_131 (by decide) ?_
  obtain ⟨r37, hc36, h⟩ := pr_b1_some h
  refine k_L_cell C pr_w377 hsc hc36 (Nat.le_of_ble_eq_true rfl) (Nat.le_of_ble_eq_true rfl) (Nat.le_of_ble_eq_true rfl) dL_settings_134 ?_
  refine pr_iadd C dL_settings_137 ?_
  obtain ⟨r39, f40, hc38, h⟩ := pr_bd_some h
  refine k_X8_set C pr_w379 hk01 hc38 (Nat.le_of_ble_eq_true rfl) (Nat.le_of_ble_eq_true rfl) (Nat.le_of_ble_eq_true rfl) dL_settings_138 ?_
  refine pr_pop C dL_settings_141 rfl ?_
  refine pr_aload_n C dL_settings_142 rfl 0 rfl ?_
  refine pr_iload_n C dL_settings_143 rfl 2 rfl ?_
  refine pr_bipush (v := 8) C dL_settings_144 (by decide) ?_
  refine pr_aload_n C dL_settings_146 rfl 1 rfl ?_
  refine pr_iload_n C dL_settings_147 rfl 3 rfl ?_
  refine pr_bipush (v := 8) C dL_settings_148 (by decide) ?_
  refine pr_iadd C dL_settings_150 ?_
  refine pr_sipush (v := 257) C dL_settings_151 (by decide) ?_
  obtain ⟨r42, hc41, h⟩ := pr_b1_some h
  refine k_L_cell C pr_w377 hsc hc41 (Nat.le_of_ble_eq_true rfl) (Nat.le_of_ble_eq_true rfl) (Nat.le_of_ble_eq_true rfl) dL_settings_154 ?_
  obtain ⟨r44, f45, hc43, h⟩ := pr_bd_some h
  refine k_X8_set C pr_w379 hk01 hc43 (Nat.le_of_ble_eq_true rfl) (Nat.le_of_ble_eq_true rfl) (Nat.le_of_ble_eq_true rfl) dL_settings_157 ?_
  refine pr_pop C dL_settings_160 rfl ?_
  refine pr_aload_n C dL_settings_161 rfl 0 rfl ?_
  refine pr_iload_n C dL_settings_162 rfl 2 rfl ?_
  refine pr_bipush (v := 9) C dL_settings_163 (by decide) ?_
  refine pr_aload_n C dL_settings_165 rfl 1 rfl ?_
  refine pr_iload_n C dL_settings_166 rfl 3 rfl ?_
  refine pr_bipush (v := 9) C dL_settings_167 (by decide) ?_
  refine pr_iadd C dL_settings_169 ?_
  refine pr_bipush (v := 10) C dL_settings_170 (by decide) ?_
  obtain ⟨r47, hc46, h⟩ := pr_b1_some h
  refine k_L_cell C pr_w377 hsc hc46 (Nat.le_of_ble_eq_true rfl) (Nat.le_of_ble_eq_true rfl) (Nat.le_of_ble_eq_true rfl) dL_settings_172 ?_
  obtain ⟨r49, f50, hc48, h⟩ := pr_bd_some h
  refine k_X8_set C pr_w379 hk01 hc48 (Nat.le_of_ble_eq_true rfl) (Nat.le_of_ble_eq_true rfl) (Nat.le_of_ble_eq_true rfl) dL_settings_175 ?_
  refine pr_pop C dL_settings_178 rfl ?_
  refine pr_aload_n C dL_settings_179 rfl 0 rfl ?_
  refine pr_iload_n C dL_settings_180 rfl 2 rfl ?_
  refine pr_bipush (v := 10) C dL_settings_181 (by decide) ?_
  refine pr_aload_n C dL_settings_183 rfl 1 rfl ?_
  refine pr_iload_n C dL_settings_184 rfl 3 rfl ?_
  refine pr_bipush (v := 10) C dL_settings_185 (by decide) ?_
  refine pr_iadd C dL_settings_187 ?_
  refine pr_sipush (v := 201) C dL_settings_188 (by decide) ?_
  obtain ⟨r52, hc51, h⟩ := pr_b1_some h
  refine k_L_cell C pr_w377 hsc hc51 (Nat.le_of_ble_eq_true rfl) (Nat.le_of_ble_eq_true rfl) (Nat.le_of_ble_eq_true rfl) dL_settings_191 ?_
  refine pr_bipush (v := 100) C dL_settings_194 (by decide) ?_
  refine pr_isub C dL_settings_196 ?_
  obtain ⟨r54, f55, hc53, h⟩ := pr_bd_some h
  refine k_X8_set C pr_w379 hk01 hc53 (Nat.le_of_ble_eq_true rfl) (Nat.le_of_ble_eq_true rfl) (Nat.le_of_ble_eq_true rfl) dL_settings_197 ?_
  refine pr_pop C dL_settings_200 rfl ?_
  refine pr_aload_n C dL_settings_201 rfl 0 rfl ?_
  refine pr_iload_n C dL_settings_202 rfl 2 rfl ?_
  refine pr_iconst (v := 0) C dL_settings_203 (by decide) ?_
  refine pr_aload_n C dL_settings_204 rfl 1 rfl ?_
  refine pr_iload_n C dL_settings_205 rfl 3 rfl ?_
  refine pr_bipush (v := 11) C dL_settings_206 (by decide) ?_
  refine pr_iadd C dL_settings_208 ?_
  refine pr_sipush (v := 600) C dL_settings_209 (by decide) ?_
  obtain ⟨r57, hc56, h⟩ := pr_b1_some h
  refine k_L_cell C pr_w377 hsc hc56 (Nat.le_of_ble_eq_true rfl) (Nat.le_of_ble_eq_true rfl) (Nat.le_of_ble_eq_true rfl) dL_settings_212 ?_
  refine pr_sipush (v := 300) C dL_settings_215 (by decide) ?_
  refine pr_isub C dL_settings_218 ?_
  obtain ⟨r59, f60, hc58, h⟩ := pr_bd_some h
  refine k_X8_adjust C pr_w382 hk01 hc58 (Nat.le_of_ble_eq_true rfl) (Nat.le_of_ble_eq_true rfl) (Nat.le_of_ble_eq_true rfl) dL_settings_219 ?_
  refine pr_pop C dL_settings_222 rfl ?_
  refine pr_aload_n C dL_settings_223 rfl 0 rfl ?_
  refine pr_iload_n C dL_settings_224 rfl 2 rfl ?_
  refine pr_iconst (v := 2) C dL_settings_225 (by decide) ?_
  refine pr_aload_n C dL_settings_226 rfl 1 rfl ?_
  refine pr_iload_n C dL_settings_227 rfl 3 rfl ?_
  refine pr_bipush (v := 12) C dL_settings_228 (by decide) ?_
  refine pr_iadd C dL_settings_230 ?_
  refine pr_sipush (v := 200) C dL_settings_231 (by decide) ?_
  obtain ⟨r62, hc61, h⟩ := pr_b1_some h
  refine k_L_cell C pr_w377 hsc hc61 (Nat.le_of_ble_eq_true rfl) (Nat.le_of_ble_eq_true rfl) (Nat.le_of_ble_eq_true rfl) dL_settings_234 ?_
  refine pr_bipush (v := 100) C dL_settings_237 (by decide) ?_
  refine pr_isub C dL_settings_239 ?_
  obtain ⟨r64, f65, hc63, h⟩ := pr_bd_some h
  refine k_X8_adjust C pr_w382 hk01 hc63 (Nat.le_of_ble_eq_true rfl) (Nat.le_of_ble_eq_true rfl) (Nat.le_of_ble_eq_true rfl) dL_settings_240 ?_
  refine pr_pop C dL_settings_243 rfl ?_
  obtain ⟨rfl, rfl⟩ := pr_inj h
  exact pr_vret C Z dL_settings_244
theorem k_L_settings {l : Launch} {e : pr_E0} {Y : pr_Y} {Rm : Room} {cc : ByteArray} {own : String} {nL : Nat} {c0 : Cond} {pc idx : Nat} {lv : List (Nat × Value)} {st : List Value} {sb : Nat} {p1 : Nat} {sL : Nat} {sx : Nat → Int32} {p3 : Int32} {p4 : Int32} {f : pr_M} {r : Unit} {g : pr_M} (C : pr_C (pr_EC l e) Y Rm cc own nL c0) (w1 : Cond.methodLink own idx yL_settings ∈ pr_AL) (hk01 : (pr_LE e)[p1]? = some (8, 0)) (hsc : pr_sc (pr_EC l e) = (sb, sL, sx)) (h : F_L_settings p1 sL sx p3 p4 f = some (r, g)) (hr1 : 4 ≤ Rm.frames) (hr2 : 91 ≤ Rm.locals) (hcat : (st.map fun v => v.category).sum ≤ 8) (hdg : decode cc pc = .ok (.invokestatic idx, 3)) (k : pr_W (pr_EC l e) Y Rm nL g (pc + 3) lv (st)) : pr_W (pr_EC l e) Y Rm nL f pc lv (.int p4 :: .int p3 :: .ref sb :: .ref (pr_ad (pr_EC l e) p1) :: st) :=
  pr_callS (As := [.ref (pr_ad (pr_EC l e) p1), .ref sb, .int p3, .int p4]) (n := 4) C (m_L_settings hk01 hsc h) w1 pr_w396 pr_w362 pr_w385 rfl rfl ⟨by decide +kernel, by decide +kernel, by decide +kernel⟩ rfl ⟨hr1, hr2⟩ rfl hcat hdg k

def F_L_comes (p1 : Nat) (p2 : Int32) (p3 : Nat) (p4 : Nat) (p5 : Int32) (p6 : Int32) (f : pr_M) : Option (Unit × pr_M) :=
  pr_lt (pr_up f p4 (Int32.toNatClampNeg 0) p5) fun f1 =>
  pr_lt (pr_up f1 p4 (Int32.toNatClampNeg 1) p6) fun f3 =>
  pr_lt (pr_up f3 p3 (Int32.toNatClampNeg 10) p6) fun f5 =>
  pr_lt (pr_up f5 p3 (Int32.toNatClampNeg 4) 0) fun f7 =>
  pr_b1 (F_X8_get p1 p2 1 f7) fun r10 =>
  pr_b1 (F_X8_get p1 p2 9 f7) fun r12 =>
  pr_lt (pr_up f7 p3 (Int32.toNatClampNeg 7) (r10 + r12)) fun f13 =>
  some ((), f13)
set_option maxHeartbeats 4000000 in
set_option maxRecDepth 100000 in
theorem m_L_comes {l : Launch} {e : pr_E0} {p1 : Nat} {p2 : Int32} {p3 : Nat} {p4 : Nat} {p5 : Int32} {p6 : Int32} {f : pr_M} {r : Unit} {g : pr_M} (hk01 : (pr_LE e)[p1]? = some (8, 0)) (hk03 : (pr_LE e)[p3]? = some (10, 14)) (hk04 : (pr_LE e)[p4]? = some (10, 5)) (h : F_L_comes p1 p2 p3 p4 p5 p6 f = some (r, g)) : pr_Met (pr_EC l e) yL_comes cL_comes 6 none { frames := 2, cells := 0, slots := 0, locals := 45 } [.ref (pr_ad (pr_EC l e) p1), .int p2, .ref (pr_ad (pr_EC l e) p3), .ref (pr_ad (pr_EC l e) p4), .int p5, .int p6] f none g := by
  rw [F_L_comes] at h
  refine pr_enter (by decide +kernel) (Nat.le_of_ble_eq_true rfl) (fun Y C Z => ?_)
  replace C : pr_C (pr_EC l e) Y { frames := 2, cells := 0, slots := 0, locals := 45 } cL_comes RL 6 _ := C
  show pr_W (pr_EC l e) Y _ 6 f 0 [(0, .ref (pr_ad (pr_EC l e) p1)), (1, .int p2), (2, .ref (pr_ad (pr_EC l e) p3)), (3, .ref (pr_ad (pr_EC l e) p4)), (4, .int p5), (5, .int p6)] []
  refine pr_aload_n C dL_comes_0 rfl 3 rfl ?_
  refine pr_iconst (v := 0) C dL_comes_1 (by decide) ?_
  refine pr_iload C dL_comes_2 4 rfl ?_
  refine pr_iastore C hk04 (pr_inlit (by decide +kernel)) dL_comes_4 (fun f1 e2 => ?_)
  have h := pr_lt_at h e2
  refine pr_aload_n C dL_comes_5 rfl 3 rfl ?_
  refine pr_iconst (v := 1) C dL_comes_6 (by decide) ?_
  refine pr_iload C dL_comes_7 5 rfl ?_
  refine pr_iastore C hk04 (pr_inlit (by decide +kernel)) dL_comes_9 (fun f3 e4 => ?_)
  have h := pr_lt_at h e4
  refine pr_aload_n C dL_comes_10 rfl 2 rfl ?_
  refine pr_bipush (v := 10) C dL_comes_11 (by decide) ?_
  refine pr_iload C dL_comes_13 5 rfl ?_
  refine pr_iastore C hk03 (pr_inlit (by decide +kernel)) dL_comes_15 (fun f5 e6 => ?_)
  have h := pr_lt_at h e6
  refine pr_aload_n C dL_comes_16 rfl 2 rfl ?_
  refine pr_iconst (v := 4) C dL_comes_17 (by decide) ?_
  refine pr_iconst (v := 0) C dL_comes_18 (by decide) ?_
  refine pr_iastore C hk03 (pr_inlit (by decide +kernel)) dL_comes_19 (fun f7 e8 => ?_)
  have h := pr_lt_at h e8
  refine pr_aload_n C dL_comes_20 rfl 2 rfl ?_
  refine pr_bipush (v := 7) C dL_comes_21 (by decide) ?_
  refine pr_aload_n C dL_comes_23 rfl 0 rfl ?_
  refine pr_iload_n C dL_comes_24 rfl 1 rfl ?_
  refine pr_iconst (v := 1) C dL_comes_25 (by decide) ?_
  obtain ⟨r10, hc9, h⟩ := pr_b1_some h
  refine k_X8_get C pr_w363 hk01 hc9 (Nat.le_of_ble_eq_true rfl) (Nat.le_of_ble_eq_true rfl) (Nat.le_of_ble_eq_true rfl) dL_comes_26 ?_
  refine pr_aload_n C dL_comes_29 rfl 0 rfl ?_
  refine pr_iload_n C dL_comes_30 rfl 1 rfl ?_
  refine pr_bipush (v := 9) C dL_comes_31 (by decide) ?_
  obtain ⟨r12, hc11, h⟩ := pr_b1_some h
  refine k_X8_get C pr_w363 hk01 hc11 (Nat.le_of_ble_eq_true rfl) (Nat.le_of_ble_eq_true rfl) (Nat.le_of_ble_eq_true rfl) dL_comes_33 ?_
  refine pr_iadd C dL_comes_36 ?_
  refine pr_iastore C hk03 (pr_inlit (by decide +kernel)) dL_comes_37 (fun f13 e14 => ?_)
  have h := pr_lt_at h e14
  obtain ⟨rfl, rfl⟩ := pr_inj h
  exact pr_vret C Z dL_comes_38
theorem k_L_comes {l : Launch} {e : pr_E0} {Y : pr_Y} {Rm : Room} {cc : ByteArray} {own : String} {nL : Nat} {c0 : Cond} {pc idx : Nat} {lv : List (Nat × Value)} {st : List Value} {p1 : Nat} {p2 : Int32} {p3 : Nat} {p4 : Nat} {p5 : Int32} {p6 : Int32} {f : pr_M} {r : Unit} {g : pr_M} (C : pr_C (pr_EC l e) Y Rm cc own nL c0) (w1 : Cond.methodLink own idx yL_comes ∈ pr_AL) (hk01 : (pr_LE e)[p1]? = some (8, 0)) (hk03 : (pr_LE e)[p3]? = some (10, 14)) (hk04 : (pr_LE e)[p4]? = some (10, 5)) (h : F_L_comes p1 p2 p3 p4 p5 p6 f = some (r, g)) (hr1 : 3 ≤ Rm.frames) (hr2 : 70 ≤ Rm.locals) (hcat : (st.map fun v => v.category).sum ≤ 8) (hdg : decode cc pc = .ok (.invokestatic idx, 3)) (k : pr_W (pr_EC l e) Y Rm nL g (pc + 3) lv (st)) : pr_W (pr_EC l e) Y Rm nL f pc lv (.int p6 :: .int p5 :: .ref (pr_ad (pr_EC l e) p4) :: .ref (pr_ad (pr_EC l e) p3) :: .int p2 :: .ref (pr_ad (pr_EC l e) p1) :: st) :=
  pr_callS (As := [.ref (pr_ad (pr_EC l e) p1), .int p2, .ref (pr_ad (pr_EC l e) p3), .ref (pr_ad (pr_EC l e) p4), .int p5, .int p6]) (n := 6) C (m_L_comes hk01 hk03 hk04 h) w1 pr_w418 pr_w362 pr_w386 rfl rfl ⟨by decide +kernel, by decide +kernel, by decide +kernel⟩ rfl ⟨hr1, hr2⟩ rfl hcat hdg k

def J_L_law_535 (sL : Nat) (sx : Nat → Int32) (q1 : Nat) (q2 : Nat) (q3 : Nat) (q4 : Nat) (q5 : Nat) (q6 : Nat) (q7 : Nat) (q8 : Nat) (q9 : Nat) (q10 : Nat) (x11 : Int32) (x12 : Int32) (x13 : Int32) (x14 : Int32) (x15 : Int32) (x16 : Int32) (x17 : Int32) (bk : Int32 → Int32 → Int32 → Int32 → Int32 → pr_M → Option (Int32 × pr_M)) (f : pr_M) : Option (Int32 × pr_M) :=
  pr_bd (F_L_isPassed q1 0 q2 q4 f) fun r536002 f536003 =>
  if r536002 = 0 then (
    some (0, f536003)
  ) else (
    pr_bd (F_L_isPassed q1 1 q3 q5 f536003) fun r536006 f536007 =>
    if r536006 = 0 then (
      some (0, f536007)
    ) else (
      pr_b1 (F_X8_seen q1 0 2 f536007) fun r536010 =>
      if r536010 = (-1000000006) then (
        bk x13 x14 x15 x16 (x17 + 1) f536007
      ) else (
        some (0, f536007)
      )
    )
  )
set_option maxHeartbeats 4000000 in
set_option maxRecDepth 100000 in
theorem j_L_law_535 {l : Launch} {e : pr_E0} {Y : pr_Y} {c0 : Cond} {sb sL : Nat} {sx : Nat → Int32} {q1 : Nat} {q2 : Nat} {q3 : Nat} {q4 : Nat} {q5 : Nat} {q6 : Nat} {q7 : Nat} {q8 : Nat} {q9 : Nat} {q10 : Nat} {x11 : Int32} {x12 : Int32} {x13 : Int32} {x14 : Int32} {x15 : Int32} {x16 : Int32} {x17 : Int32} {bk : Int32 → Int32 → Int32 → Int32 → Int32 → pr_M → Option (Int32 × pr_M)} {f g : pr_M} {z : Int32} (C : pr_C (pr_EC l e) Y room_1 cL_law RL 22 c0) (hsc : pr_sc (pr_EC l e) = (sb, sL, sx)) (hq1 : (pr_LE e)[q1]? = some (8, 0)) (hq2 : (pr_LE e)[q2]? = some (10, 14)) (hq3 : (pr_LE e)[q3]? = some (10, 14)) (hq4 : (pr_LE e)[q4]? = some (10, 5)) (hq5 : (pr_LE e)[q5]? = some (10, 5)) (hq6 : (pr_LE e)[q6]? = some (10, 48)) (hq7 : (pr_LE e)[q7]? = some (10, 48)) (hq8 : (pr_LE e)[q8]? = some (10, 48)) (hq9 : (pr_LE e)[q9]? = some (10, 48)) (hq10 : (pr_LE e)[q10]? = some (10, 48)) (ih : ∀ (y13 : Int32) (y14 : Int32) (y15 : Int32) (y16 : Int32) (y17 : Int32) (f : pr_M), bk y13 y14 y15 y16 y17 f = some (z, g) → (∀ pc lv, decode cL_law pc = .ok (.ireturn, 1) → pr_W (pr_EC l e) Y room_1 22 g pc lv [.int z]) → pr_W (pr_EC l e) Y room_1 22 f 111 [(0, .ref sb), (1, .ref (pr_ad (pr_EC l e) q1)), (2, .ref (pr_ad (pr_EC l e) q2)), (3, .ref (pr_ad (pr_EC l e) q3)), (4, .ref (pr_ad (pr_EC l e) q4)), (5, .ref (pr_ad (pr_EC l e) q5)), (6, .ref (pr_ad (pr_EC l e) q6)), (7, .ref (pr_ad (pr_EC l e) q7)), (8, .ref (pr_ad (pr_EC l e) q8)), (9, .ref (pr_ad (pr_EC l e) q9)), (10, .ref (pr_ad (pr_EC l e) q10)), (11, .int x11), (12, .int x12), (13, .int y13), (14, .int y14), (15, .int y15), (16, .int y16), (17, .int y17)] []) (h : J_L_law_535 sL sx q1 q2 q3 q4 q5 q6 q7 q8 q9 q10 x11 x12 x13 x14 x15 x16 x17 bk f = some (z, g)) (Z : (∀ pc lv, decode cL_law pc = .ok (.ireturn, 1) → pr_W (pr_EC l e) Y room_1 22 g pc lv [.int z])) : pr_W (pr_EC l e) Y room_1 22 f 535 [(0, .ref sb), (1, .ref (pr_ad (pr_EC l e) q1)), (2, .ref (pr_ad (pr_EC l e) q2)), (3, .ref (pr_ad (pr_EC l e) q3)), (4, .ref (pr_ad (pr_EC l e) q4)), (5, .ref (pr_ad (pr_EC l e) q5)), (6, .ref (pr_ad (pr_EC l e) q6)), (7, .ref (pr_ad (pr_EC l e) q7)), (8, .ref (pr_ad (pr_EC l e) q8)), (9, .ref (pr_ad (pr_EC l e) q9)), (10, .ref (pr_ad (pr_EC l e) q10)), (11, .int x11), (12, .int x12), (13, .int x13), (14, .int x14), (15, .int x15), (16, .int x16), (17, .int x17)] [] := by
  rw [J_L_law_535] at h
  refine pr_aload_n C dL_law_535 rfl 1 rfl ?_
  refine pr_iconst (v := 0) C dL_law_536 (by decide) ?_
  refine pr_aload_n C dL_law_537 rfl 2 rfl ?_
  refine pr_aload C dL_law_538 4 rfl ?_
  obtain ⟨r536002, f536003, hc536001, h⟩ := pr_bd_some h
  refine k_L_isPassed C pr_w426 hq1 hq2 hq4 hc536001 (Nat.le_of_ble_eq_true rfl) (Nat.le_of_ble_eq_true rfl) (Nat.le_of_ble_eq_true rfl) dL_law_540 ?_
  refine pr_if_eq (tgt := 568) C dL_law_543 (by decide) (fun c536004 => ?_) (fun c536004 => ?_)
  · have h := pr_ifT h c536004
    refine pr_iconst (v := 0) C dL_law_568 (by decide) ?_
    obtain ⟨rfl, rfl⟩ := pr_inj h
    exact Z _ _ dL_law_569
  · have h := pr_ifF h c536004
    refine pr_aload_n C dL_law_546 rfl 1 rfl ?_
    refine pr_iconst (v := 1) C dL_law_547 (by decide) ?_
    refine pr_aload_n C dL_law_548 rfl 3 rfl ?_
    refine pr_aload C dL_law_549 5 rfl ?_
    obtain ⟨r536006, f536007, hc536005, h⟩ := pr_bd_some h
    refine k_L_isPassed C pr_w426 hq1 hq3 hq5 hc536005 (Nat.le_of_ble_eq_true rfl) (Nat.le_of_ble_eq_true rfl) (Nat.le_of_ble_eq_true rfl) dL_law_551 ?_
    refine pr_if_eq (tgt := 568) C dL_law_554 (by decide) (fun c536008 => ?_) (fun c536008 => ?_)
    · have h := pr_ifT h c536008
      refine pr_iconst (v := 0) C dL_law_568 (by decide) ?_
      obtain ⟨rfl, rfl⟩ := pr_inj h
      exact Z _ _ dL_law_569
    · have h := pr_ifF h c536008
      refine pr_aload_n C dL_law_557 rfl 1 rfl ?_
      refine pr_iconst (v := 0) C dL_law_558 (by decide) ?_
      refine pr_iconst (v := 2) C dL_law_559 (by decide) ?_
      obtain ⟨r536010, hc536009, h⟩ := pr_b1_some h
      refine k_X8_seen C pr_w366 hq1 hc536009 (Nat.le_of_ble_eq_true rfl) (Nat.le_of_ble_eq_true rfl) (Nat.le_of_ble_eq_true rfl) dL_law_560 ?_
      refine pr_ldc (v := (-1000000006)) C dL_law_563 pr_w370 ?_
      refine pr_icmp_eq (tgt := 570) C dL_law_565 (by decide) (fun c536011 => ?_) (fun c536011 => ?_)
      · have h := pr_ifT h c536011
        refine pr_iinc (v := (x17 + 1)) (lv' := [(17, .int (x17 + 1)), (0, .ref sb), (1, .ref (pr_ad (pr_EC l e) q1)), (2, .ref (pr_ad (pr_EC l e) q2)), (3, .ref (pr_ad (pr_EC l e) q3)), (4, .ref (pr_ad (pr_EC l e) q4)), (5, .ref (pr_ad (pr_EC l e) q5)), (6, .ref (pr_ad (pr_EC l e) q6)), (7, .ref (pr_ad (pr_EC l e) q7)), (8, .ref (pr_ad (pr_EC l e) q8)), (9, .ref (pr_ad (pr_EC l e) q9)), (10, .ref (pr_ad (pr_EC l e) q10)), (11, .int x11), (12, .int x12), (13, .int x13), (14, .int x14), (15, .int x15), (16, .int x16)]) C dL_law_570 17 rfl rfl (by decide) rfl ?_
        refine pr_goto (tgt := 111) C dL_law_573 (by decide) ?_
        exact pr_pick [1, 2, 3, 4, 5, 6, 7, 8, 9, 10, 11, 12, 13, 14, 15, 16, 17, 0] rfl (ih _ _ _ _ _ _ h Z)
      · have h := pr_ifF h c536011
        refine pr_iconst (v := 0) C dL_law_568 (by decide) ?_
        obtain ⟨rfl, rfl⟩ := pr_inj h
        exact Z _ _ dL_law_569
def J_L_law_319 (sL : Nat) (sx : Nat → Int32) (q1 : Nat) (q2 : Nat) (q3 : Nat) (q4 : Nat) (q5 : Nat) (q6 : Nat) (q7 : Nat) (q8 : Nat) (q9 : Nat) (q10 : Nat) (x11 : Int32) (x12 : Int32) (x13 : Int32) (x14 : Int32) (x15 : Int32) (x16 : Int32) (x17 : Int32) (bk : Int32 → Int32 → Int32 → Int32 → Int32 → pr_M → Option (Int32 × pr_M)) (f : pr_M) : Option (Int32 × pr_M) :=
  pr_bd (F_L_lay q1 0 q2 f) fun u320002 f320003 =>
  pr_bd (F_L_lay q1 1 q3 f320003) fun u320005 f320006 =>
  pr_b1 (F_X8_count q1 2 f320006) fun r320008 =>
  pr_gd (¬ (x17 < 0 ∨ 48 ≤ Int32.toNatClampNeg x17)) <|
  pr_lt (pr_up f320006 q10 (Int32.toNatClampNeg x17) (r320008 - x16)) fun f320010 =>
  pr_b1 (F_X8_count q1 2 f320010) fun r320013 =>
  pr_bd (α := Unit) (
    if x13 = 0 then (
      pr_bd (F_L_comes q1 0 q2 q4 x14 x15 f320010) fun u320018 f320019 =>
      some ((), f320019)
    ) else (
      some ((), f320010)
    )
  ) fun v320014 f320015 =>
  pr_bd (α := Unit) (
    if x13 = x11 then (
      pr_bd (F_L_comes q1 1 q3 q5 x14 x15 f320015) fun u320024 f320025 =>
      some ((), f320025)
    ) else (
      some ((), f320015)
    )
  ) fun v320020 f320021 =>
  pr_b1 (α := Int32) (
    if x13 < 0 then (
      some 0
    ) else (
      some 1
    )
  ) fun v320026 =>
  pr_bd (F_X8_run q1 1 f320021) fun r320029 f320030 =>
  if r320029 = (x17 + 1) then (
    pr_bd (F_L_isPrinted q1 0 q2 q4 q6 q8 x17 (f320030 q10 (Int32.toNatClampNeg x17)) f320030) fun r320033 f320034 =>
    if r320033 = 0 then (
      some (0, f320034)
    ) else (
      pr_bd (F_L_isPrinted q1 1 q3 q5 q7 q9 x17 (f320034 q10 (Int32.toNatClampNeg x17)) f320034) fun r320037 f320038 =>
      if r320037 = 0 then (
        some (0, f320038)
      ) else (
        if (x17 - x12) < x11 then (
          pr_b1 (F_X8_seen q1 1 2 f320038) fun r320042 =>
          if r320042 = (-1000000006) then (
            pr_b1 (F_X8_seen q1 1 4 f320038) fun r320045 =>
            if r320045 = (-1000000006) then (
              J_L_law_535 sL sx q1 q2 q3 q4 q5 q6 q7 q8 q9 q10 x11 x12 (x13 + v320026) x14 x15 r320013 x17 bk f320038
            ) else (
              some (0, f320038)
            )
          ) else (
            some (0, f320038)
          )
        ) else (
          pr_gd (¬ ((x17 - x12) < 0 ∨ 48 ≤ Int32.toNatClampNeg (x17 - x12))) <|
          pr_gd (¬ (((x17 - x12) - x11) < 0 ∨ 48 ≤ Int32.toNatClampNeg ((x17 - x12) - x11))) <|
          pr_bd (F_L_isSeen q1 1 q3 q5 ((f320038 q7 (Int32.toNatClampNeg (x17 - x12))) - (f320038 q6 (Int32.toNatClampNeg ((x17 - x12) - x11)))) (f320038 q9 (Int32.toNatClampNeg (x17 - x12))) (f320038 q10 (Int32.toNatClampNeg (x17 - x12))) f320038) fun r320050 f320051 =>
          if r320050 = 0 then (
            some (0, f320051)
          ) else (
            J_L_law_535 sL sx q1 q2 q3 q4 q5 q6 q7 q8 q9 q10 x11 x12 (x13 + v320026) x14 x15 r320013 x17 bk f320051
          )
        )
      )
    )
  ) else (
    some (0, f320030)
  )
set_option maxHeartbeats 4000000 in
set_option maxRecDepth 100000 in
theorem j_L_law_319 {l : Launch} {e : pr_E0} {Y : pr_Y} {c0 : Cond} {sb sL : Nat} {sx : Nat → Int32} {q1 : Nat} {q2 : Nat} {q3 : Nat} {q4 : Nat} {q5 : Nat} {q6 : Nat} {q7 : Nat} {q8 : Nat} {q9 : Nat} {q10 : Nat} {x11 : Int32} {x12 : Int32} {x13 : Int32} {x14 : Int32} {x15 : Int32} {x16 : Int32} {x17 : Int32} {bk : Int32 → Int32 → Int32 → Int32 → Int32 → pr_M → Option (Int32 × pr_M)} {f g : pr_M} {z : Int32} (C : pr_C (pr_EC l e) Y room_1 cL_law RL 22 c0) (hsc : pr_sc (pr_EC l e) = (sb, sL, sx)) (hq1 : (pr_LE e)[q1]? = some (8, 0)) (hq2 : (pr_LE e)[q2]? = some (10, 14)) (hq3 : (pr_LE e)[q3]? = some (10, 14)) (hq4 : (pr_LE e)[q4]? = some (10, 5)) (hq5 : (pr_LE e)[q5]? = some (10, 5)) (hq6 : (pr_LE e)[q6]? = some (10, 48)) (hq7 : (pr_LE e)[q7]? = some (10, 48)) (hq8 : (pr_LE e)[q8]? = some (10, 48)) (hq9 : (pr_LE e)[q9]? = some (10, 48)) (hq10 : (pr_LE e)[q10]? = some (10, 48)) (ih : ∀ (y13 : Int32) (y14 : Int32) (y15 : Int32) (y16 : Int32) (y17 : Int32) (f : pr_M), bk y13 y14 y15 y16 y17 f = some (z, g) → (∀ pc lv, decode cL_law pc = .ok (.ireturn, 1) → pr_W (pr_EC l e) Y room_1 22 g pc lv [.int z]) → pr_W (pr_EC l e) Y room_1 22 f 111 [(0, .ref sb), (1, .ref (pr_ad (pr_EC l e) q1)), (2, .ref (pr_ad (pr_EC l e) q2)), (3, .ref (pr_ad (pr_EC l e) q3)), (4, .ref (pr_ad (pr_EC l e) q4)), (5, .ref (pr_ad (pr_EC l e) q5)), (6, .ref (pr_ad (pr_EC l e) q6)), (7, .ref (pr_ad (pr_EC l e) q7)), (8, .ref (pr_ad (pr_EC l e) q8)), (9, .ref (pr_ad (pr_EC l e) q9)), (10, .ref (pr_ad (pr_EC l e) q10)), (11, .int x11), (12, .int x12), (13, .int y13), (14, .int y14), (15, .int y15), (16, .int y16), (17, .int y17)] []) (h : J_L_law_319 sL sx q1 q2 q3 q4 q5 q6 q7 q8 q9 q10 x11 x12 x13 x14 x15 x16 x17 bk f = some (z, g)) (Z : (∀ pc lv, decode cL_law pc = .ok (.ireturn, 1) → pr_W (pr_EC l e) Y room_1 22 g pc lv [.int z])) : pr_W (pr_EC l e) Y room_1 22 f 319 [(0, .ref sb), (1, .ref (pr_ad (pr_EC l e) q1)), (2, .ref (pr_ad (pr_EC l e) q2)), (3, .ref (pr_ad (pr_EC l e) q3)), (4, .ref (pr_ad (pr_EC l e) q4)), (5, .ref (pr_ad (pr_EC l e) q5)), (6, .ref (pr_ad (pr_EC l e) q6)), (7, .ref (pr_ad (pr_EC l e) q7)), (8, .ref (pr_ad (pr_EC l e) q8)), (9, .ref (pr_ad (pr_EC l e) q9)), (10, .ref (pr_ad (pr_EC l e) q10)), (11, .int x11), (12, .int x12), (13, .int x13), (14, .int x14), (15, .int x15), (16, .int x16), (17, .int x17)] [] := by
  rw [J_L_law_319] at h
  refine pr_aload_n C dL_law_319 rfl 1 rfl ?_
  refine pr_iconst (v := 0) C dL_law_320 (by decide) ?_
  refine pr_aload_n C dL_law_321 rfl 2 rfl ?_
  obtain ⟨u320002, f320003, hc320001, h⟩ := pr_bd_some h
  refine k_L_lay C pr_w412 hq1 hq2 hc320001 (Nat.le_of_ble_eq_true rfl) (Nat.le_of_ble_eq_true rfl) (Nat.le_of_ble_eq_true rfl) dL_law_322 ?_
  refine pr_aload_n C dL_law_325 rfl 1 rfl ?_
  refine pr_iconst (v := 1) C dL_law_326 (by decide) ?_
  refine pr_aload_n C dL_law_327 rfl 3 rfl ?_
  obtain ⟨u320005, f320006, hc320004, h⟩ := pr_bd_some h
  refine k_L_lay C pr_w412 hq1 hq3 hc320004 (Nat.le_of_ble_eq_true rfl) (Nat.le_of_ble_eq_true rfl) (Nat.le_of_ble_eq_true rfl) dL_law_328 ?_
  refine pr_aload C dL_law_331 10 rfl ?_
  refine pr_iload C dL_law_333 17 rfl ?_
  refine pr_aload_n C dL_law_335 rfl 1 rfl ?_
  refine pr_iconst (v := 2) C dL_law_336 (by decide) ?_
  obtain ⟨r320008, hc320007, h⟩ := pr_b1_some h
  refine k_X8_count C pr_w414 hq1 hc320007 (Nat.le_of_ble_eq_true rfl) (Nat.le_of_ble_eq_true rfl) (Nat.le_of_ble_eq_true rfl) dL_law_337 ?_
  refine pr_iload C dL_law_340 16 rfl ?_
  refine pr_isub C dL_law_342 ?_
  obtain ⟨hg320009, h⟩ := pr_gd_some h
  refine pr_iastore C hq10 hg320009 dL_law_343 (fun f320010 e320011 => ?_)
  have h := pr_lt_at h e320011
  refine pr_aload_n C dL_law_344 rfl 1 rfl ?_
  refine pr_iconst (v := 2) C dL_law_345 (by decide) ?_
  obtain ⟨r320013, hc320012, h⟩ := pr_b1_some h
  refine k_X8_count C pr_w414 hq1 hc320012 (Nat.le_of_ble_eq_true rfl) (Nat.le_of_ble_eq_true rfl) (Nat.le_of_ble_eq_true rfl) dL_law_346 ?_
  refine pr_istore (lv' := [(16, .int r320013), (0, .ref sb), (1, .ref (pr_ad (pr_EC l e) q1)), (2, .ref (pr_ad (pr_EC l e) q2)), (3, .ref (pr_ad (pr_EC l e) q3)), (4, .ref (pr_ad (pr_EC l e) q4)), (5, .ref (pr_ad (pr_EC l e) q5)), (6, .ref (pr_ad (pr_EC l e) q6)), (7, .ref (pr_ad (pr_EC l e) q7)), (8, .ref (pr_ad (pr_EC l e) q8)), (9, .ref (pr_ad (pr_EC l e) q9)), (10, .ref (pr_ad (pr_EC l e) q10)), (11, .int x11), (12, .int x12), (13, .int x13), (14, .int x14), (15, .int x15), (17, .int x17)]) C dL_law_349 (by decide) rfl ?_
  refine pr_iload C dL_law_351 14 rfl ?_
  obtain ⟨v320014, f320015, hv, h⟩ := pr_bd_some h
  have K : pr_W (pr_EC l e) Y room_1 22 f320015 368 [(0, .ref sb), (1, .ref (pr_ad (pr_EC l e) q1)), (2, .ref (pr_ad (pr_EC l e) q2)), (3, .ref (pr_ad (pr_EC l e) q3)), (4, .ref (pr_ad (pr_EC l e) q4)), (5, .ref (pr_ad (pr_EC l e) q5)), (6, .ref (pr_ad (pr_EC l e) q6)), (7, .ref (pr_ad (pr_EC l e) q7)), (8, .ref (pr_ad (pr_EC l e) q8)), (9, .ref (pr_ad (pr_EC l e) q9)), (10, .ref (pr_ad (pr_EC l e) q10)), (11, .int x11), (12, .int x12), (13, .int x13), (14, .int x14), (15, .int x15), (16, .int r320013), (17, .int x17)] [] := by
    refine pr_iload C dL_law_368 13 rfl ?_
    refine pr_iload C dL_law_370 11 rfl ?_
    obtain ⟨v320020, f320021, hv, h⟩ := pr_bd_some h
    have K : pr_W (pr_EC l e) Y room_1 22 f320021 387 [(0, .ref sb), (1, .ref (pr_ad (pr_EC l e) q1)), (2, .ref (pr_ad (pr_EC l e) q2)), (3, .ref (pr_ad (pr_EC l e) q3)), (4, .ref (pr_ad (pr_EC l e) q4)), (5, .ref (pr_ad (pr_EC l e) q5)), (6, .ref (pr_ad (pr_EC l e) q6)), (7, .ref (pr_ad (pr_EC l e) q7)), (8, .ref (pr_ad (pr_EC l e) q8)), (9, .ref (pr_ad (pr_EC l e) q9)), (10, .ref (pr_ad (pr_EC l e) q10)), (11, .int x11), (12, .int x12), (13, .int x13), (14, .int x14), (15, .int x15), (16, .int r320013), (17, .int x17)] [] := by
      refine pr_iload C dL_law_387 13 rfl ?_
      refine pr_iload C dL_law_389 13 rfl ?_
      obtain ⟨v320026, hv, h⟩ := pr_b1_some h
      have K : pr_W (pr_EC l e) Y room_1 22 f320021 399 [(0, .ref sb), (1, .ref (pr_ad (pr_EC l e) q1)), (2, .ref (pr_ad (pr_EC l e) q2)), (3, .ref (pr_ad (pr_EC l e) q3)), (4, .ref (pr_ad (pr_EC l e) q4)), (5, .ref (pr_ad (pr_EC l e) q5)), (6, .ref (pr_ad (pr_EC l e) q6)), (7, .ref (pr_ad (pr_EC l e) q7)), (8, .ref (pr_ad (pr_EC l e) q8)), (9, .ref (pr_ad (pr_EC l e) q9)), (10, .ref (pr_ad (pr_EC l e) q10)), (11, .int x11), (12, .int x12), (14, .int x14), (15, .int x15), (16, .int r320013), (17, .int x17)] [.int v320026, .int x13] := by
        refine pr_iadd C dL_law_399 ?_
        refine pr_istore (lv' := [(13, .int (x13 + v320026)), (0, .ref sb), (1, .ref (pr_ad (pr_EC l e) q1)), (2, .ref (pr_ad (pr_EC l e) q2)), (3, .ref (pr_ad (pr_EC l e) q3)), (4, .ref (pr_ad (pr_EC l e) q4)), (5, .ref (pr_ad (pr_EC l e) q5)), (6, .ref (pr_ad (pr_EC l e) q6)), (7, .ref (pr_ad (pr_EC l e) q7)), (8, .ref (pr_ad (pr_EC l e) q8)), (9, .ref (pr_ad (pr_EC l e) q9)), (10, .ref (pr_ad (pr_EC l e) q10)), (11, .int x11), (12, .int x12), (14, .int x14), (15, .int x15), (16, .int r320013), (17, .int x17)]) C dL_law_400 (by decide) rfl ?_
        refine pr_aload_n C dL_law_402 rfl 2 rfl ?_
        refine pr_iconst (v := 1) C dL_law_403 (by decide) ?_
        obtain ⟨r320029, f320030, hc320028, h⟩ := pr_bd_some h
        refine k_X8_run C pr_w419 hq1 hc320028 (Nat.le_of_ble_eq_true rfl) (Nat.le_of_ble_eq_true rfl) (Nat.le_of_ble_eq_true rfl) dL_law_404 ?_
        refine pr_iload C dL_law_407 17 rfl ?_
        refine pr_iconst (v := 1) C dL_law_409 (by decide) ?_
        refine pr_iadd C dL_law_410 ?_
        refine pr_icmp_ne (tgt := 458) C dL_law_411 (by decide) (fun c320031 => ?_) (fun c320031 => ?_)
        · have h := pr_ifF h c320031
          refine pr_iconst (v := 0) C dL_law_458 (by decide) ?_
          obtain ⟨rfl, rfl⟩ := pr_inj h
          exact Z _ _ dL_law_459
        · have h := pr_ifT h c320031
          refine pr_aload_n C dL_law_414 rfl 2 rfl ?_
          refine pr_iconst (v := 0) C dL_law_415 (by decide) ?_
          refine pr_aload_n C dL_law_416 rfl 3 rfl ?_
          refine pr_aload C dL_law_417 5 rfl ?_
          refine pr_aload C dL_law_419 7 rfl ?_
          refine pr_aload C dL_law_421 9 rfl ?_
          refine pr_iload C dL_law_423 17 rfl ?_
          refine pr_aload C dL_law_425 11 rfl ?_
          refine pr_iload C dL_law_427 17 rfl ?_
          refine pr_iaload C hq10 hg320009 dL_law_429 ?_
          obtain ⟨r320033, f320034, hc320032, h⟩ := pr_bd_some h
          refine k_L_isPrinted C pr_w422 hq1 hq2 hq4 hq6 hq8 hc320032 (Nat.le_of_ble_eq_true rfl) (Nat.le_of_ble_eq_true rfl) (Nat.le_of_ble_eq_true rfl) dL_law_430 ?_
          refine pr_if_eq (tgt := 458) C dL_law_433 (by decide) (fun c320035 => ?_) (fun c320035 => ?_)
          · have h := pr_ifT h c320035
            refine pr_iconst (v := 0) C dL_law_458 (by decide) ?_
            obtain ⟨rfl, rfl⟩ := pr_inj h
            exact Z _ _ dL_law_459
          · have h := pr_ifF h c320035
            refine pr_aload_n C dL_law_436 rfl 2 rfl ?_
            refine pr_iconst (v := 1) C dL_law_437 (by decide) ?_
            refine pr_aload_n C dL_law_438 rfl 4 rfl ?_
            refine pr_aload C dL_law_439 6 rfl ?_
            refine pr_aload C dL_law_441 8 rfl ?_
            refine pr_aload C dL_law_443 10 rfl ?_
            refine pr_iload C dL_law_445 17 rfl ?_
            refine pr_aload C dL_law_447 11 rfl ?_
            refine pr_iload C dL_law_449 17 rfl ?_
            refine pr_iaload C hq10 hg320009 dL_law_451 ?_
            obtain ⟨r320037, f320038, hc320036, h⟩ := pr_bd_some h
            refine k_L_isPrinted C pr_w422 hq1 hq3 hq5 hq7 hq9 hc320036 (Nat.le_of_ble_eq_true rfl) (Nat.le_of_ble_eq_true rfl) (Nat.le_of_ble_eq_true rfl) dL_law_452 ?_
            refine pr_if_ne (tgt := 460) C dL_law_455 (by decide) (fun c320039 => ?_) (fun c320039 => ?_)
            · have h := pr_ifF h c320039
              refine pr_iload C dL_law_460 17 rfl ?_
              refine pr_iload C dL_law_462 13 rfl ?_
              refine pr_isub C dL_law_464 ?_
              refine pr_istore (lv' := [(21, .int (x17 - x12)), (13, .int (x13 + v320026)), (0, .ref sb), (1, .ref (pr_ad (pr_EC l e) q1)), (2, .ref (pr_ad (pr_EC l e) q2)), (3, .ref (pr_ad (pr_EC l e) q3)), (4, .ref (pr_ad (pr_EC l e) q4)), (5, .ref (pr_ad (pr_EC l e) q5)), (6, .ref (pr_ad (pr_EC l e) q6)), (7, .ref (pr_ad (pr_EC l e) q7)), (8, .ref (pr_ad (pr_EC l e) q8)), (9, .ref (pr_ad (pr_EC l e) q9)), (10, .ref (pr_ad (pr_EC l e) q10)), (11, .int x11), (12, .int x12), (14, .int x14), (15, .int x15), (16, .int r320013), (17, .int x17)]) C dL_law_465 (by decide) rfl ?_
              refine pr_iload C dL_law_467 0 rfl ?_
              refine pr_iload C dL_law_469 13 rfl ?_
              refine pr_icmp_lt (tgt := 511) C dL_law_471 (by decide) (fun c320040 => ?_) (fun c320040 => ?_)
              · have h := pr_ifT h c320040
                refine pr_aload_n C dL_law_511 rfl 3 rfl ?_
                refine pr_iconst (v := 1) C dL_law_512 (by decide) ?_
                refine pr_iconst (v := 2) C dL_law_513 (by decide) ?_
                obtain ⟨r320042, hc320041, h⟩ := pr_b1_some h
                refine k_X8_seen C pr_w366 hq1 hc320041 (Nat.le_of_ble_eq_true rfl) (Nat.le_of_ble_eq_true rfl) (Nat.le_of_ble_eq_true rfl) dL_law_514 ?_
                refine pr_ldc (v := (-1000000006)) C dL_law_517 pr_w370 ?_
                refine pr_icmp_ne (tgt := 533) C dL_law_519 (by decide) (fun c320043 => ?_) (fun c320043 => ?_)
                · have h := pr_ifF h c320043
                  refine pr_iconst (v := 0) C dL_law_533 (by decide) ?_
                  obtain ⟨rfl, rfl⟩ := pr_inj h
                  exact Z _ _ dL_law_534
                · have h := pr_ifT h c320043
                  refine pr_aload_n C dL_law_522 rfl 3 rfl ?_
                  refine pr_iconst (v := 1) C dL_law_523 (by decide) ?_
                  refine pr_iconst (v := 4) C dL_law_524 (by decide) ?_
                  obtain ⟨r320045, hc320044, h⟩ := pr_b1_some h
                  refine k_X8_seen C pr_w366 hq1 hc320044 (Nat.le_of_ble_eq_true rfl) (Nat.le_of_ble_eq_true rfl) (Nat.le_of_ble_eq_true rfl) dL_law_525 ?_
                  refine pr_ldc (v := (-1000000006)) C dL_law_528 pr_w370 ?_
                  refine pr_icmp_eq (tgt := 535) C dL_law_530 (by decide) (fun c320046 => ?_) (fun c320046 => ?_)
                  · have h := pr_ifT h c320046
                    exact pr_pick [2, 3, 4, 5, 6, 7, 8, 9, 10, 11, 12, 13, 14, 1, 15, 16, 17, 18] rfl (j_L_law_535 C hsc hq1 hq2 hq3 hq4 hq5 hq6 hq7 hq8 hq9 hq10 ih h Z)
                  · have h := pr_ifF h c320046
                    refine pr_iconst (v := 0) C dL_law_533 (by decide) ?_
                    obtain ⟨rfl, rfl⟩ := pr_inj h
                    exact Z _ _ dL_law_534
              · have h := pr_ifF h c320040
                refine pr_aload_n C dL_law_474 rfl 3 rfl ?_
                refine pr_iconst (v := 1) C dL_law_475 (by decide) ?_
                refine pr_aload_n C dL_law_476 rfl 5 rfl ?_
                refine pr_aload C dL_law_477 7 rfl ?_
                refine pr_aload C dL_law_479 9 rfl ?_
                refine pr_iload C dL_law_481 0 rfl ?_
                obtain ⟨hg320047, h⟩ := pr_gd_some h
                refine pr_iaload C hq7 hg320047 dL_law_483 ?_
                refine pr_aload C dL_law_484 8 rfl ?_
                refine pr_iload C dL_law_486 0 rfl ?_
                refine pr_iload C dL_law_488 13 rfl ?_
                refine pr_isub C dL_law_490 ?_
                obtain ⟨hg320048, h⟩ := pr_gd_some h
                refine pr_iaload C hq6 hg320048 dL_law_491 ?_
                refine pr_isub C dL_law_492 ?_
                refine pr_aload C dL_law_493 11 rfl ?_
                refine pr_iload C dL_law_495 0 rfl ?_
                refine pr_iaload C hq9 hg320047 dL_law_497 ?_
                refine pr_aload C dL_law_498 12 rfl ?_
                refine pr_iload C dL_law_500 0 rfl ?_
                refine pr_iaload C hq10 hg320047 dL_law_502 ?_
                obtain ⟨r320050, f320051, hc320049, h⟩ := pr_bd_some h
                refine k_L_isSeen C pr_w424 hq1 hq3 hq5 hc320049 (Nat.le_of_ble_eq_true rfl) (Nat.le_of_ble_eq_true rfl) (Nat.le_of_ble_eq_true rfl) dL_law_503 ?_
                refine pr_if_ne (tgt := 535) C dL_law_506 (by decide) (fun c320052 => ?_) (fun c320052 => ?_)
                · have h := pr_ifF h c320052
                  exact pr_pick [2, 3, 4, 5, 6, 7, 8, 9, 10, 11, 12, 13, 14, 1, 15, 16, 17, 18] rfl (j_L_law_535 C hsc hq1 hq2 hq3 hq4 hq5 hq6 hq7 hq8 hq9 hq10 ih h Z)
                · have h := pr_ifT h c320052
                  refine pr_iconst (v := 0) C dL_law_509 (by decide) ?_
                  obtain ⟨rfl, rfl⟩ := pr_inj h
                  exact Z _ _ dL_law_510
            · have h := pr_ifT h c320039
              refine pr_iconst (v := 0) C dL_law_458 (by decide) ?_
              obtain ⟨rfl, rfl⟩ := pr_inj h
              exact Z _ _ dL_law_459
      clear h
      have h := hv
      clear hv
      refine pr_if_lt (tgt := 398) C dL_law_391 (by decide) (fun c320027 => ?_) (fun c320027 => ?_)
      · have h := pr_ifT h c320027
        refine pr_iconst (v := 0) C dL_law_398 (by decide) ?_
        obtain rfl := pr_in1 h
        exact pr_pick [0, 1, 2, 3, 4, 5, 6, 7, 8, 9, 10, 11, 12, 14, 15, 16, 17] rfl K
      · have h := pr_ifF h c320027
        refine pr_iconst (v := 1) C dL_law_394 (by decide) ?_
        refine pr_goto (tgt := 399) C dL_law_395 (by decide) ?_
        obtain rfl := pr_in1 h
        exact pr_pick [0, 1, 2, 3, 4, 5, 6, 7, 8, 9, 10, 11, 12, 14, 15, 16, 17] rfl K
    clear h
    have h := hv
    clear hv
    refine pr_icmp_ne (tgt := 387) C dL_law_372 (by decide) (fun c320022 => ?_) (fun c320022 => ?_)
    · have h := pr_ifF h c320022
      obtain ⟨rfl, rfl⟩ := pr_inj h
      exact pr_pick [0, 1, 2, 3, 4, 5, 6, 7, 8, 9, 10, 11, 12, 13, 14, 15, 16, 17] rfl K
    · have h := pr_ifT h c320022
      refine pr_aload_n C dL_law_375 rfl 1 rfl ?_
      refine pr_iconst (v := 1) C dL_law_376 (by decide) ?_
      refine pr_aload_n C dL_law_377 rfl 3 rfl ?_
      refine pr_aload C dL_law_378 5 rfl ?_
      refine pr_iload C dL_law_380 14 rfl ?_
      refine pr_iload C dL_law_382 15 rfl ?_
      obtain ⟨u320024, f320025, hc320023, h⟩ := pr_bd_some h
      refine k_L_comes C pr_w417 hq1 hq3 hq5 hc320023 (Nat.le_of_ble_eq_true rfl) (Nat.le_of_ble_eq_true rfl) (Nat.le_of_ble_eq_true rfl) dL_law_384 ?_
      obtain ⟨rfl, rfl⟩ := pr_inj h
      exact pr_pick [0, 1, 2, 3, 4, 5, 6, 7, 8, 9, 10, 11, 12, 13, 14, 15, 16, 17] rfl K
  clear h
  have h := hv
  clear hv
  refine pr_if_ne (tgt := 368) C dL_law_353 (by decide) (fun c320016 => ?_) (fun c320016 => ?_)
  · have h := pr_ifF h c320016
    obtain ⟨rfl, rfl⟩ := pr_inj h
    exact pr_pick [1, 2, 3, 4, 5, 6, 7, 8, 9, 10, 11, 12, 13, 14, 15, 16, 0, 17] rfl K
  · have h := pr_ifT h c320016
    refine pr_aload_n C dL_law_356 rfl 2 rfl ?_
    refine pr_iconst (v := 0) C dL_law_357 (by decide) ?_
    refine pr_aload_n C dL_law_358 rfl 3 rfl ?_
    refine pr_aload C dL_law_359 5 rfl ?_
    refine pr_iload C dL_law_361 15 rfl ?_
    refine pr_iload C dL_law_363 16 rfl ?_
    obtain ⟨u320018, f320019, hc320017, h⟩ := pr_bd_some h
    refine k_L_comes C pr_w417 hq1 hq2 hq4 hc320017 (Nat.le_of_ble_eq_true rfl) (Nat.le_of_ble_eq_true rfl) (Nat.le_of_ble_eq_true rfl) dL_law_365 ?_
    obtain ⟨rfl, rfl⟩ := pr_inj h
    exact pr_pick [1, 2, 3, 4, 5, 6, 7, 8, 9, 10, 11, 12, 13, 14, 15, 16, 0, 17] rfl K
def L_L_law_111 (sL : Nat) (sx : Nat → Int32) (q1 : Nat) (q2 : Nat) (q3 : Nat) (q4 : Nat) (q5 : Nat) (q6 : Nat) (q7 : Nat) (q8 : Nat) (q9 : Nat) (q10 : Nat) (x11 : Int32) (x12 : Int32) : Nat → Int32 → Int32 → Int32 → Int32 → Int32 → pr_M → Option (Int32 × pr_M)
  | 0, _, _, _, _, _, _ => none
  | n + 1, x13, x14, x15, x16, x17, f =>
    if 40 ≤ x17 then (
      pr_b1 (F_X8_errors q1 1 60 2 f) fun r112003 =>
      if r112003 = ((40 - x12) - x11) then (
        pr_b1 (F_X8_total q1 0 f) fun r112006 =>
        pr_b1 (F_X8_total q1 2 f) fun r112008 =>
        if (r112006 + r112008) = ((40 - x12) - x11) then (
          pr_b1 (F_X8_errors q1 0 1 0 f) fun r112011 =>
          if r112011 = (-1000000001) then (
            pr_b1 (F_X8_count q1 3 f) fun r112014 =>
            pr_b1 (α := Int32) (
              if x13 < 0 then (
                some 0
              ) else (
                if x13 ≤ x11 then (
                  some ((x11 + 1) - x13)
                ) else (
                  some 0
                )
              )
            ) fun v112015 =>
            if r112014 = v112015 then (
              some (1, f)
            ) else (
              some (0, f)
            )
          ) else (
            some (0, f)
          )
        ) else (
          some (0, f)
        )
      ) else (
        some (0, f)
      )
    ) else (
      pr_b1 (F_L_cell sL sx ((3 * x17) + 26) 12 f) fun r112020 =>
      pr_b1 (F_L_cell sL sx ((3 * x17) + 27) 401 f) fun r112022 =>
      pr_b1 (F_L_cell sL sx ((3 * x17) + 28) 8 f) fun r112024 =>
      if r112020 = 0 then (
        pr_b1 (F_L_size (r112022 - 200) f) fun r112060 =>
        pr_bd (F_X8_speed q1 r112060 f) fun r112062 f112063 =>
        J_L_law_319 sL sx q1 q2 q3 q4 q5 q6 q7 q8 q9 q10 x11 x12 x13 x14 x15 x16 x17 (L_L_law_111 sL sx q1 q2 q3 q4 q5 q6 q7 q8 q9 q10 x11 x12 n) f112063
      ) else (
        if r112020 = 1 then (
          pr_bd (F_X8_disturb q1 (r112020 - 1) (r112022 - 200) (1 + r112024) f) fun r112028 f112029 =>
          pr_lt (pr_up f112029 q4 (Int32.toNatClampNeg 0) (r112022 - 200)) fun f112031 =>
          pr_lt (pr_up f112031 q4 (Int32.toNatClampNeg 1) (1 + r112024)) fun f112033 =>
          J_L_law_319 sL sx q1 q2 q3 q4 q5 q6 q7 q8 q9 q10 x11 x12 x13 x14 x15 x16 x17 (L_L_law_111 sL sx q1 q2 q3 q4 q5 q6 q7 q8 q9 q10 x11 x12 n) f112033
        ) else (
          if r112020 = 2 then (
            pr_bd (F_X8_disturb q1 (r112020 - 1) (r112022 - 200) (1 + r112024) f) fun r112052 f112053 =>
            pr_lt (pr_up f112053 q5 (Int32.toNatClampNeg 0) (r112022 - 200)) fun f112055 =>
            pr_lt (pr_up f112055 q5 (Int32.toNatClampNeg 1) (1 + r112024)) fun f112057 =>
            J_L_law_319 sL sx q1 q2 q3 q4 q5 q6 q7 q8 q9 q10 x11 x12 x13 x14 x15 x16 x17 (L_L_law_111 sL sx q1 q2 q3 q4 q5 q6 q7 q8 q9 q10 x11 x12 n) f112057
          ) else (
            if r112020 = 3 then (
              pr_bd (F_X8_hide q1 1 (1 + r112024) f) fun r112049 f112050 =>
              J_L_law_319 sL sx q1 q2 q3 q4 q5 q6 q7 q8 q9 q10 x11 x12 x13 x14 x15 x16 x17 (L_L_law_111 sL sx q1 q2 q3 q4 q5 q6 q7 q8 q9 q10 x11 x12 n) f112050
            ) else (
              if r112020 = 4 then (
                pr_bd (F_X8_falseMark q1 1 (r112022 - 200) (1 + r112024) f) fun r112044 f112045 =>
                pr_lt (pr_up f112045 q5 (Int32.toNatClampNeg 4) (r112022 - 200)) fun f112046 =>
                J_L_law_319 sL sx q1 q2 q3 q4 q5 q6 q7 q8 q9 q10 x11 x12 x13 x14 x15 x16 x17 (L_L_law_111 sL sx q1 q2 q3 q4 q5 q6 q7 q8 q9 q10 x11 x12 n) f112046
              ) else (
                if r112020 = 5 then (
                  pr_bd (F_X8_splice q1 (r112022 - 200) (1 + r112024) f) fun r112040 f112041 =>
                  if r112040 = (x11 + 1) then (
                    J_L_law_319 sL sx q1 q2 q3 q4 q5 q6 q7 q8 q9 q10 x11 x12 0 (r112022 - 200) (1 + r112024) x16 x17 (L_L_law_111 sL sx q1 q2 q3 q4 q5 q6 q7 q8 q9 q10 x11 x12 n) f112041
                  ) else (
                    some (0, f112041)
                  )
                ) else (
                  J_L_law_319 sL sx q1 q2 q3 q4 q5 q6 q7 q8 q9 q10 x11 x12 x13 x14 x15 x16 x17 (L_L_law_111 sL sx q1 q2 q3 q4 q5 q6 q7 q8 q9 q10 x11 x12 n) f
                )
              )
            )
          )
        )
      )
    )
set_option maxHeartbeats 4000000 in
set_option maxRecDepth 100000 in
theorem l_L_law_111 {l : Launch} {e : pr_E0} {Y : pr_Y} {c0 : Cond} {sb sL : Nat} {sx : Nat → Int32} {q1 : Nat} {q2 : Nat} {q3 : Nat} {q4 : Nat} {q5 : Nat} {q6 : Nat} {q7 : Nat} {q8 : Nat} {q9 : Nat} {q10 : Nat} {x11 : Int32} {x12 : Int32} {z : Int32} {g : pr_M} (C : pr_C (pr_EC l e) Y room_1 cL_law RL 22 c0) (hsc : pr_sc (pr_EC l e) = (sb, sL, sx)) (hq1 : (pr_LE e)[q1]? = some (8, 0)) (hq2 : (pr_LE e)[q2]? = some (10, 14)) (hq3 : (pr_LE e)[q3]? = some (10, 14)) (hq4 : (pr_LE e)[q4]? = some (10, 5)) (hq5 : (pr_LE e)[q5]? = some (10, 5)) (hq6 : (pr_LE e)[q6]? = some (10, 48)) (hq7 : (pr_LE e)[q7]? = some (10, 48)) (hq8 : (pr_LE e)[q8]? = some (10, 48)) (hq9 : (pr_LE e)[q9]? = some (10, 48)) (hq10 : (pr_LE e)[q10]? = some (10, 48)) : ∀ (n : Nat) (x13 : Int32) (x14 : Int32) (x15 : Int32) (x16 : Int32) (x17 : Int32) (f : pr_M), L_L_law_111 sL sx q1 q2 q3 q4 q5 q6 q7 q8 q9 q10 x11 x12 n x13 x14 x15 x16 x17 f = some (z, g) → (∀ pc lv, decode cL_law pc = .ok (.ireturn, 1) → pr_W (pr_EC l e) Y room_1 22 g pc lv [.int z]) → pr_W (pr_EC l e) Y room_1 22 f 111 [(0, .ref sb), (1, .ref (pr_ad (pr_EC l e) q1)), (2, .ref (pr_ad (pr_EC l e) q2)), (3, .ref (pr_ad (pr_EC l e) q3)), (4, .ref (pr_ad (pr_EC l e) q4)), (5, .ref (pr_ad (pr_EC l e) q5)), (6, .ref (pr_ad (pr_EC l e) q6)), (7, .ref (pr_ad (pr_EC l e) q7)), (8, .ref (pr_ad (pr_EC l e) q8)), (9, .ref (pr_ad (pr_EC l e) q9)), (10, .ref (pr_ad (pr_EC l e) q10)), (11, .int x11), (12, .int x12), (13, .int x13), (14, .int x14), (15, .int x15), (16, .int x16), (17, .int x17)] [] := by
  intro n
  induction n with
  | zero =>
    intro x13 x14 x15 x16 x17 f h
    exact absurd h (by simp [L_L_law_111])
  | succ n ih =>
    intro x13 x14 x15 x16 x17 f h Z
    rw [L_L_law_111] at h
    refine pr_iload C dL_law_111 17 rfl ?_
    refine pr_bipush (v := 40) C dL_law_113 (by decide) ?_
    refine pr_icmp_ge (tgt := 576) C dL_law_115 (by decide) (fun c112001 => ?_) (fun c112001 => ?_)
    · have h := pr_ifT h c112001
      refine pr_bipush (v := 40) C dL_law_576 (by decide) ?_
      refine pr_iload C dL_law_578 12 rfl ?_
      refine pr_isub C dL_law_580 ?_
      refine pr_iload C dL_law_581 11 rfl ?_
      refine pr_isub C dL_law_583 ?_
      refine pr_istore (lv' := [(17, .int ((40 - x12) - x11)), (0, .ref sb), (1, .ref (pr_ad (pr_EC l e) q1)), (2, .ref (pr_ad (pr_EC l e) q2)), (3, .ref (pr_ad (pr_EC l e) q3)), (4, .ref (pr_ad (pr_EC l e) q4)), (5, .ref (pr_ad (pr_EC l e) q5)), (6, .ref (pr_ad (pr_EC l e) q6)), (7, .ref (pr_ad (pr_EC l e) q7)), (8, .ref (pr_ad (pr_EC l e) q8)), (9, .ref (pr_ad (pr_EC l e) q9)), (10, .ref (pr_ad (pr_EC l e) q10)), (11, .int x11), (12, .int x12), (13, .int x13), (14, .int x14), (15, .int x15), (16, .int x16)]) C dL_law_584 (by decide) rfl ?_
      refine pr_aload_n C dL_law_586 rfl 2 rfl ?_
      refine pr_iconst (v := 1) C dL_law_587 (by decide) ?_
      refine pr_bipush (v := 60) C dL_law_588 (by decide) ?_
      refine pr_iconst (v := 2) C dL_law_590 (by decide) ?_
      obtain ⟨r112003, hc112002, h⟩ := pr_b1_some h
      refine k_X8_errors C pr_w428 hq1 hc112002 (Nat.le_of_ble_eq_true rfl) (Nat.le_of_ble_eq_true rfl) (Nat.le_of_ble_eq_true rfl) dL_law_591 ?_
      refine pr_iload C dL_law_594 0 rfl ?_
      refine pr_icmp_ne (tgt := 662) C dL_law_596 (by decide) (fun c112004 => ?_) (fun c112004 => ?_)
      · have h := pr_ifF h c112004
        refine pr_iconst (v := 0) C dL_law_662 (by decide) ?_
        obtain ⟨rfl, rfl⟩ := pr_inj h
        exact Z _ _ dL_law_663
      · have h := pr_ifT h c112004
        refine pr_aload_n C dL_law_599 rfl 2 rfl ?_
        refine pr_iconst (v := 0) C dL_law_600 (by decide) ?_
        obtain ⟨r112006, hc112005, h⟩ := pr_b1_some h
        refine k_X8_total C pr_w431 hq1 hc112005 (Nat.le_of_ble_eq_true rfl) (Nat.le_of_ble_eq_true rfl) (Nat.le_of_ble_eq_true rfl) dL_law_601 ?_
        refine pr_aload_n C dL_law_604 rfl 2 rfl ?_
        refine pr_iconst (v := 2) C dL_law_605 (by decide) ?_
        obtain ⟨r112008, hc112007, h⟩ := pr_b1_some h
        refine k_X8_total C pr_w431 hq1 hc112007 (Nat.le_of_ble_eq_true rfl) (Nat.le_of_ble_eq_true rfl) (Nat.le_of_ble_eq_true rfl) dL_law_606 ?_
        refine pr_iadd C dL_law_609 ?_
        refine pr_iload C dL_law_610 0 rfl ?_
        refine pr_icmp_ne (tgt := 662) C dL_law_612 (by decide) (fun c112009 => ?_) (fun c112009 => ?_)
        · have h := pr_ifF h c112009
          refine pr_iconst (v := 0) C dL_law_662 (by decide) ?_
          obtain ⟨rfl, rfl⟩ := pr_inj h
          exact Z _ _ dL_law_663
        · have h := pr_ifT h c112009
          refine pr_aload_n C dL_law_615 rfl 2 rfl ?_
          refine pr_iconst (v := 0) C dL_law_616 (by decide) ?_
          refine pr_iconst (v := 1) C dL_law_617 (by decide) ?_
          refine pr_iconst (v := 0) C dL_law_618 (by decide) ?_
          obtain ⟨r112011, hc112010, h⟩ := pr_b1_some h
          refine k_X8_errors C pr_w428 hq1 hc112010 (Nat.le_of_ble_eq_true rfl) (Nat.le_of_ble_eq_true rfl) (Nat.le_of_ble_eq_true rfl) dL_law_619 ?_
          refine pr_ldc (v := (-1000000001)) C dL_law_622 pr_w389 ?_
          refine pr_icmp_ne (tgt := 662) C dL_law_624 (by decide) (fun c112012 => ?_) (fun c112012 => ?_)
          · have h := pr_ifF h c112012
            refine pr_iconst (v := 0) C dL_law_662 (by decide) ?_
            obtain ⟨rfl, rfl⟩ := pr_inj h
            exact Z _ _ dL_law_663
          · have h := pr_ifT h c112012
            refine pr_aload_n C dL_law_627 rfl 2 rfl ?_
            refine pr_iconst (v := 3) C dL_law_628 (by decide) ?_
            obtain ⟨r112014, hc112013, h⟩ := pr_b1_some h
            refine k_X8_count C pr_w414 hq1 hc112013 (Nat.le_of_ble_eq_true rfl) (Nat.le_of_ble_eq_true rfl) (Nat.le_of_ble_eq_true rfl) dL_law_629 ?_
            refine pr_iload C dL_law_632 14 rfl ?_
            obtain ⟨v112015, hv, h⟩ := pr_b1_some h
            have K : pr_W (pr_EC l e) Y room_1 22 f 655 [] [.int v112015, .int r112014] := by
              refine pr_icmp_ne (tgt := 662) C dL_law_655 (by decide) (fun c112018 => ?_) (fun c112018 => ?_)
              · have h := pr_ifF h c112018
                refine pr_iconst (v := 0) C dL_law_662 (by decide) ?_
                obtain ⟨rfl, rfl⟩ := pr_inj h
                exact Z _ _ dL_law_663
              · have h := pr_ifT h c112018
                refine pr_iconst (v := 1) C dL_law_658 (by decide) ?_
                refine pr_goto (tgt := 663) C dL_law_659 (by decide) ?_
                obtain ⟨rfl, rfl⟩ := pr_inj h
                exact Z _ _ dL_law_663
            clear h
            have h := hv
            clear hv
            refine pr_if_lt (tgt := 644) C dL_law_634 (by decide) (fun c112016 => ?_) (fun c112016 => ?_)
            · have h := pr_ifT h c112016
              refine pr_iconst (v := 0) C dL_law_644 (by decide) ?_
              refine pr_goto (tgt := 655) C dL_law_645 (by decide) ?_
              obtain rfl := pr_in1 h
              exact pr_pick [] rfl K
            · have h := pr_ifF h c112016
              refine pr_iload C dL_law_637 14 rfl ?_
              refine pr_iload C dL_law_639 12 rfl ?_
              refine pr_icmp_le (tgt := 648) C dL_law_641 (by decide) (fun c112017 => ?_) (fun c112017 => ?_)
              · have h := pr_ifT h c112017
                refine pr_iload C dL_law_648 12 rfl ?_
                refine pr_iconst (v := 1) C dL_law_650 (by decide) ?_
                refine pr_iadd C dL_law_651 ?_
                refine pr_iload C dL_law_652 14 rfl ?_
                refine pr_isub C dL_law_654 ?_
                obtain rfl := pr_in1 h
                exact pr_pick [] rfl K
              · have h := pr_ifF h c112017
                refine pr_iconst (v := 0) C dL_law_644 (by decide) ?_
                refine pr_goto (tgt := 655) C dL_law_645 (by decide) ?_
                obtain rfl := pr_in1 h
                exact pr_pick [] rfl K
    · have h := pr_ifF h c112001
      refine pr_aload_n C dL_law_118 rfl 0 rfl ?_
      refine pr_iconst (v := 3) C dL_law_119 (by decide) ?_
      refine pr_iload C dL_law_120 17 rfl ?_
      refine pr_imul C dL_law_122 ?_
      refine pr_bipush (v := 26) C dL_law_123 (by decide) ?_
      refine pr_iadd C dL_law_125 ?_
      refine pr_bipush (v := 12) C dL_law_126 (by decide) ?_
      obtain ⟨r112020, hc112019, h⟩ := pr_b1_some h
      refine k_L_cell C pr_w377 hsc hc112019 (Nat.le_of_ble_eq_true rfl) (Nat.le_of_ble_eq_true rfl) (Nat.le_of_ble_eq_true rfl) dL_law_128 ?_
      refine pr_istore (lv' := [(18, .int r112020), (0, .ref sb), (1, .ref (pr_ad (pr_EC l e) q1)), (2, .ref (pr_ad (pr_EC l e) q2)), (3, .ref (pr_ad (pr_EC l e) q3)), (4, .ref (pr_ad (pr_EC l e) q4)), (5, .ref (pr_ad (pr_EC l e) q5)), (6, .ref (pr_ad (pr_EC l e) q6)), (7, .ref (pr_ad (pr_EC l e) q7)), (8, .ref (pr_ad (pr_EC l e) q8)), (9, .ref (pr_ad (pr_EC l e) q9)), (10, .ref (pr_ad (pr_EC l e) q10)), (11, .int x11), (12, .int x12), (13, .int x13), (14, .int x14), (15, .int x15), (16, .int x16), (17, .int x17)]) C dL_law_131 (by decide) rfl ?_
      refine pr_aload_n C dL_law_133 rfl 1 rfl ?_
      refine pr_iconst (v := 3) C dL_law_134 (by decide) ?_
      refine pr_iload C dL_law_135 18 rfl ?_
      refine pr_imul C dL_law_137 ?_
      refine pr_bipush (v := 27) C dL_law_138 (by decide) ?_
      refine pr_iadd C dL_law_140 ?_
      refine pr_sipush (v := 401) C dL_law_141 (by decide) ?_
      obtain ⟨r112022, hc112021, h⟩ := pr_b1_some h
      refine k_L_cell C pr_w377 hsc hc112021 (Nat.le_of_ble_eq_true rfl) (Nat.le_of_ble_eq_true rfl) (Nat.le_of_ble_eq_true rfl) dL_law_144 ?_
      refine pr_sipush (v := 200) C dL_law_147 (by decide) ?_
      refine pr_isub C dL_law_150 ?_
      refine pr_istore (lv' := [(19, .int (r112022 - 200)), (18, .int r112020), (0, .ref sb), (1, .ref (pr_ad (pr_EC l e) q1)), (2, .ref (pr_ad (pr_EC l e) q2)), (3, .ref (pr_ad (pr_EC l e) q3)), (4, .ref (pr_ad (pr_EC l e) q4)), (5, .ref (pr_ad (pr_EC l e) q5)), (6, .ref (pr_ad (pr_EC l e) q6)), (7, .ref (pr_ad (pr_EC l e) q7)), (8, .ref (pr_ad (pr_EC l e) q8)), (9, .ref (pr_ad (pr_EC l e) q9)), (10, .ref (pr_ad (pr_EC l e) q10)), (11, .int x11), (12, .int x12), (13, .int x13), (14, .int x14), (15, .int x15), (16, .int x16), (17, .int x17)]) C dL_law_151 (by decide) rfl ?_
      refine pr_iconst (v := 1) C dL_law_153 (by decide) ?_
      refine pr_aload_n C dL_law_154 rfl 2 rfl ?_
      refine pr_iconst (v := 3) C dL_law_155 (by decide) ?_
      refine pr_iload C dL_law_156 19 rfl ?_
      refine pr_imul C dL_law_158 ?_
      refine pr_bipush (v := 28) C dL_law_159 (by decide) ?_
      refine pr_iadd C dL_law_161 ?_
      refine pr_bipush (v := 8) C dL_law_162 (by decide) ?_
      obtain ⟨r112024, hc112023, h⟩ := pr_b1_some h
      refine k_L_cell C pr_w377 hsc hc112023 (Nat.le_of_ble_eq_true rfl) (Nat.le_of_ble_eq_true rfl) (Nat.le_of_ble_eq_true rfl) dL_law_164 ?_
      refine pr_iadd C dL_law_167 ?_
      refine pr_istore (lv' := [(20, .int (1 + r112024)), (19, .int (r112022 - 200)), (18, .int r112020), (0, .ref sb), (1, .ref (pr_ad (pr_EC l e) q1)), (2, .ref (pr_ad (pr_EC l e) q2)), (3, .ref (pr_ad (pr_EC l e) q3)), (4, .ref (pr_ad (pr_EC l e) q4)), (5, .ref (pr_ad (pr_EC l e) q5)), (6, .ref (pr_ad (pr_EC l e) q6)), (7, .ref (pr_ad (pr_EC l e) q7)), (8, .ref (pr_ad (pr_EC l e) q8)), (9, .ref (pr_ad (pr_EC l e) q9)), (10, .ref (pr_ad (pr_EC l e) q10)), (11, .int x11), (12, .int x12), (13, .int x13), (14, .int x14), (15, .int x15), (16, .int x16), (17, .int x17)]) C dL_law_168 (by decide) rfl ?_
      refine pr_iload C dL_law_170 2 rfl ?_
      refine pr_if_ne (tgt := 188) C dL_law_172 (by decide) (fun c112025 => ?_) (fun c112025 => ?_)
      · have h := pr_ifF h c112025
        refine pr_iload C dL_law_188 2 rfl ?_
        refine pr_iconst (v := 1) C dL_law_190 (by decide) ?_
        refine pr_icmp_eq (tgt := 200) C dL_law_191 (by decide) (fun c112026 => ?_) (fun c112026 => ?_)
        · have h := pr_ifT h c112026
          refine pr_aload_n C dL_law_200 rfl 4 rfl ?_
          refine pr_iload C dL_law_201 2 rfl ?_
          refine pr_iconst (v := 1) C dL_law_203 (by decide) ?_
          refine pr_isub C dL_law_204 ?_
          refine pr_iload C dL_law_205 1 rfl ?_
          refine pr_iload C dL_law_207 0 rfl ?_
          obtain ⟨r112028, f112029, hc112027, h⟩ := pr_bd_some h
          refine k_X8_disturb C pr_w400 hq1 hc112027 (Nat.le_of_ble_eq_true rfl) (Nat.le_of_ble_eq_true rfl) (Nat.le_of_ble_eq_true rfl) dL_law_209 ?_
          refine pr_pop C dL_law_212 rfl ?_
          refine pr_iload C dL_law_213 2 rfl ?_
          refine pr_iconst (v := 1) C dL_law_215 (by decide) ?_
          refine pr_icmp_ne (tgt := 224) C dL_law_216 (by decide) (fun c112030 => absurd c112026 c112030) (fun _ => ?_)
          refine pr_aload C dL_law_219 7 rfl ?_
          refine pr_goto (tgt := 226) C dL_law_221 (by decide) ?_
          refine pr_astore (lv' := [(21, .ref (pr_ad (pr_EC l e) q4)), (20, .int (1 + r112024)), (19, .int (r112022 - 200)), (18, .int r112020), (0, .ref sb), (1, .ref (pr_ad (pr_EC l e) q1)), (2, .ref (pr_ad (pr_EC l e) q2)), (3, .ref (pr_ad (pr_EC l e) q3)), (4, .ref (pr_ad (pr_EC l e) q4)), (5, .ref (pr_ad (pr_EC l e) q5)), (6, .ref (pr_ad (pr_EC l e) q6)), (7, .ref (pr_ad (pr_EC l e) q7)), (8, .ref (pr_ad (pr_EC l e) q8)), (9, .ref (pr_ad (pr_EC l e) q9)), (10, .ref (pr_ad (pr_EC l e) q10)), (11, .int x11), (12, .int x12), (13, .int x13), (14, .int x14), (15, .int x15), (16, .int x16), (17, .int x17)]) C dL_law_226 (by decide) rfl ?_
          refine pr_aload C dL_law_228 0 rfl ?_
          refine pr_iconst (v := 0) C dL_law_230 (by decide) ?_
          refine pr_iload C dL_law_231 2 rfl ?_
          refine pr_iastore C hq4 (pr_inlit (by decide +kernel)) dL_law_233 (fun f112031 e112032 => ?_)
          have h := pr_lt_at h e112032
          refine pr_aload C dL_law_234 0 rfl ?_
          refine pr_iconst (v := 1) C dL_law_236 (by decide) ?_
          refine pr_iload C dL_law_237 1 rfl ?_
          refine pr_iastore C hq4 (pr_inlit (by decide +kernel)) dL_law_239 (fun f112033 e112034 => ?_)
          have h := pr_lt_at h e112034
          refine pr_goto (tgt := 319) C dL_law_240 (by decide) ?_
          exact pr_pick [4, 5, 6, 7, 8, 9, 10, 11, 12, 13, 14, 15, 16, 17, 18, 19, 20, 21] rfl (j_L_law_319 C hsc hq1 hq2 hq3 hq4 hq5 hq6 hq7 hq8 hq9 hq10 ih h Z)
        · have h := pr_ifF h c112026
          refine pr_iload C dL_law_194 2 rfl ?_
          refine pr_iconst (v := 2) C dL_law_196 (by decide) ?_
          refine pr_icmp_ne (tgt := 243) C dL_law_197 (by decide) (fun c112035 => ?_) (fun c112035 => ?_)
          · have h := pr_ifF h c112035
            refine pr_iload C dL_law_243 2 rfl ?_
            refine pr_iconst (v := 3) C dL_law_245 (by decide) ?_
            refine pr_icmp_ne (tgt := 260) C dL_law_246 (by decide) (fun c112036 => ?_) (fun c112036 => ?_)
            · have h := pr_ifF h c112036
              refine pr_iload C dL_law_260 2 rfl ?_
              refine pr_iconst (v := 4) C dL_law_262 (by decide) ?_
              refine pr_icmp_ne (tgt := 285) C dL_law_263 (by decide) (fun c112037 => ?_) (fun c112037 => ?_)
              · have h := pr_ifF h c112037
                refine pr_iload C dL_law_285 2 rfl ?_
                refine pr_iconst (v := 5) C dL_law_287 (by decide) ?_
                refine pr_icmp_ne (tgt := 319) C dL_law_288 (by decide) (fun c112038 => ?_) (fun c112038 => ?_)
                · have h := pr_ifF h c112038
                  exact pr_pick [3, 4, 5, 6, 7, 8, 9, 10, 11, 12, 13, 14, 15, 16, 17, 18, 19, 20] rfl (j_L_law_319 C hsc hq1 hq2 hq3 hq4 hq5 hq6 hq7 hq8 hq9 hq10 ih h Z)
                · have h := pr_ifT h c112038
                  refine pr_aload_n C dL_law_291 rfl 4 rfl ?_
                  refine pr_iload C dL_law_292 1 rfl ?_
                  refine pr_iload C dL_law_294 0 rfl ?_
                  obtain ⟨r112040, f112041, hc112039, h⟩ := pr_bd_some h
                  refine k_X8_splice C pr_w409 hq1 hc112039 (Nat.le_of_ble_eq_true rfl) (Nat.le_of_ble_eq_true rfl) (Nat.le_of_ble_eq_true rfl) dL_law_296 ?_
                  refine pr_iload C dL_law_299 14 rfl ?_
                  refine pr_iconst (v := 1) C dL_law_301 (by decide) ?_
                  refine pr_iadd C dL_law_302 ?_
                  refine pr_icmp_eq (tgt := 308) C dL_law_303 (by decide) (fun c112042 => ?_) (fun c112042 => ?_)
                  · have h := pr_ifT h c112042
                    refine pr_iconst (v := 0) C dL_law_308 (by decide) ?_
                    refine pr_istore (lv' := [(13, .int 0), (20, .int (1 + r112024)), (19, .int (r112022 - 200)), (18, .int r112020), (0, .ref sb), (1, .ref (pr_ad (pr_EC l e) q1)), (2, .ref (pr_ad (pr_EC l e) q2)), (3, .ref (pr_ad (pr_EC l e) q3)), (4, .ref (pr_ad (pr_EC l e) q4)), (5, .ref (pr_ad (pr_EC l e) q5)), (6, .ref (pr_ad (pr_EC l e) q6)), (7, .ref (pr_ad (pr_EC l e) q7)), (8, .ref (pr_ad (pr_EC l e) q8)), (9, .ref (pr_ad (pr_EC l e) q9)), (10, .ref (pr_ad (pr_EC l e) q10)), (11, .int x11), (12, .int x12), (14, .int x14), (15, .int x15), (16, .int x16), (17, .int x17)]) C dL_law_309 (by decide) rfl ?_
                    refine pr_iload C dL_law_311 2 rfl ?_
                    refine pr_istore (lv' := [(14, .int (r112022 - 200)), (13, .int 0), (20, .int (1 + r112024)), (19, .int (r112022 - 200)), (18, .int r112020), (0, .ref sb), (1, .ref (pr_ad (pr_EC l e) q1)), (2, .ref (pr_ad (pr_EC l e) q2)), (3, .ref (pr_ad (pr_EC l e) q3)), (4, .ref (pr_ad (pr_EC l e) q4)), (5, .ref (pr_ad (pr_EC l e) q5)), (6, .ref (pr_ad (pr_EC l e) q6)), (7, .ref (pr_ad (pr_EC l e) q7)), (8, .ref (pr_ad (pr_EC l e) q8)), (9, .ref (pr_ad (pr_EC l e) q9)), (10, .ref (pr_ad (pr_EC l e) q10)), (11, .int x11), (12, .int x12), (15, .int x15), (16, .int x16), (17, .int x17)]) C dL_law_313 (by decide) rfl ?_
                    refine pr_iload C dL_law_315 2 rfl ?_
                    refine pr_istore (lv' := [(15, .int (1 + r112024)), (14, .int (r112022 - 200)), (13, .int 0), (20, .int (1 + r112024)), (19, .int (r112022 - 200)), (18, .int r112020), (0, .ref sb), (1, .ref (pr_ad (pr_EC l e) q1)), (2, .ref (pr_ad (pr_EC l e) q2)), (3, .ref (pr_ad (pr_EC l e) q3)), (4, .ref (pr_ad (pr_EC l e) q4)), (5, .ref (pr_ad (pr_EC l e) q5)), (6, .ref (pr_ad (pr_EC l e) q6)), (7, .ref (pr_ad (pr_EC l e) q7)), (8, .ref (pr_ad (pr_EC l e) q8)), (9, .ref (pr_ad (pr_EC l e) q9)), (10, .ref (pr_ad (pr_EC l e) q10)), (11, .int x11), (12, .int x12), (16, .int x16), (17, .int x17)]) C dL_law_317 (by decide) rfl ?_
                    exact pr_pick [6, 7, 8, 9, 10, 11, 12, 13, 14, 15, 16, 17, 18, 2, 1, 0, 19, 20] rfl (j_L_law_319 C hsc hq1 hq2 hq3 hq4 hq5 hq6 hq7 hq8 hq9 hq10 ih h Z)
                  · have h := pr_ifF h c112042
                    refine pr_iconst (v := 0) C dL_law_306 (by decide) ?_
                    obtain ⟨rfl, rfl⟩ := pr_inj h
                    exact Z _ _ dL_law_307
              · have h := pr_ifT h c112037
                refine pr_aload_n C dL_law_266 rfl 4 rfl ?_
                refine pr_iconst (v := 1) C dL_law_267 (by decide) ?_
                refine pr_iload C dL_law_268 1 rfl ?_
                refine pr_iload C dL_law_270 0 rfl ?_
                obtain ⟨r112044, f112045, hc112043, h⟩ := pr_bd_some h
                refine k_X8_falseMark C pr_w406 hq1 hc112043 (Nat.le_of_ble_eq_true rfl) (Nat.le_of_ble_eq_true rfl) (Nat.le_of_ble_eq_true rfl) dL_law_272 ?_
                refine pr_pop C dL_law_275 rfl ?_
                refine pr_aload C dL_law_276 8 rfl ?_
                refine pr_iconst (v := 4) C dL_law_278 (by decide) ?_
                refine pr_iload C dL_law_279 1 rfl ?_
                refine pr_iastore C hq5 (pr_inlit (by decide +kernel)) dL_law_281 (fun f112046 e112047 => ?_)
                have h := pr_lt_at h e112047
                refine pr_goto (tgt := 319) C dL_law_282 (by decide) ?_
                exact pr_pick [3, 4, 5, 6, 7, 8, 9, 10, 11, 12, 13, 14, 15, 16, 17, 18, 19, 20] rfl (j_L_law_319 C hsc hq1 hq2 hq3 hq4 hq5 hq6 hq7 hq8 hq9 hq10 ih h Z)
            · have h := pr_ifT h c112036
              refine pr_aload_n C dL_law_249 rfl 4 rfl ?_
              refine pr_iconst (v := 1) C dL_law_250 (by decide) ?_
              refine pr_iload C dL_law_251 0 rfl ?_
              obtain ⟨r112049, f112050, hc112048, h⟩ := pr_bd_some h
              refine k_X8_hide C pr_w403 hq1 hc112048 (Nat.le_of_ble_eq_true rfl) (Nat.le_of_ble_eq_true rfl) (Nat.le_of_ble_eq_true rfl) dL_law_253 ?_
              refine pr_pop C dL_law_256 rfl ?_
              refine pr_goto (tgt := 319) C dL_law_257 (by decide) ?_
              exact pr_pick [3, 4, 5, 6, 7, 8, 9, 10, 11, 12, 13, 14, 15, 16, 17, 18, 19, 20] rfl (j_L_law_319 C hsc hq1 hq2 hq3 hq4 hq5 hq6 hq7 hq8 hq9 hq10 ih h Z)
          · have h := pr_ifT h c112035
            refine pr_aload_n C dL_law_200 rfl 4 rfl ?_
            refine pr_iload C dL_law_201 2 rfl ?_
            refine pr_iconst (v := 1) C dL_law_203 (by decide) ?_
            refine pr_isub C dL_law_204 ?_
            refine pr_iload C dL_law_205 1 rfl ?_
            refine pr_iload C dL_law_207 0 rfl ?_
            obtain ⟨r112052, f112053, hc112051, h⟩ := pr_bd_some h
            refine k_X8_disturb C pr_w400 hq1 hc112051 (Nat.le_of_ble_eq_true rfl) (Nat.le_of_ble_eq_true rfl) (Nat.le_of_ble_eq_true rfl) dL_law_209 ?_
            refine pr_pop C dL_law_212 rfl ?_
            refine pr_iload C dL_law_213 2 rfl ?_
            refine pr_iconst (v := 1) C dL_law_215 (by decide) ?_
            refine pr_icmp_ne (tgt := 224) C dL_law_216 (by decide) (fun _ => ?_) (fun c112054 => absurd c112054 c112026)
            refine pr_aload C dL_law_224 8 rfl ?_
            refine pr_astore (lv' := [(21, .ref (pr_ad (pr_EC l e) q5)), (20, .int (1 + r112024)), (19, .int (r112022 - 200)), (18, .int r112020), (0, .ref sb), (1, .ref (pr_ad (pr_EC l e) q1)), (2, .ref (pr_ad (pr_EC l e) q2)), (3, .ref (pr_ad (pr_EC l e) q3)), (4, .ref (pr_ad (pr_EC l e) q4)), (5, .ref (pr_ad (pr_EC l e) q5)), (6, .ref (pr_ad (pr_EC l e) q6)), (7, .ref (pr_ad (pr_EC l e) q7)), (8, .ref (pr_ad (pr_EC l e) q8)), (9, .ref (pr_ad (pr_EC l e) q9)), (10, .ref (pr_ad (pr_EC l e) q10)), (11, .int x11), (12, .int x12), (13, .int x13), (14, .int x14), (15, .int x15), (16, .int x16), (17, .int x17)]) C dL_law_226 (by decide) rfl ?_
            refine pr_aload C dL_law_228 0 rfl ?_
            refine pr_iconst (v := 0) C dL_law_230 (by decide) ?_
            refine pr_iload C dL_law_231 2 rfl ?_
            refine pr_iastore C hq5 (pr_inlit (by decide +kernel)) dL_law_233 (fun f112055 e112056 => ?_)
            have h := pr_lt_at h e112056
            refine pr_aload C dL_law_234 0 rfl ?_
            refine pr_iconst (v := 1) C dL_law_236 (by decide) ?_
            refine pr_iload C dL_law_237 1 rfl ?_
            refine pr_iastore C hq5 (pr_inlit (by decide +kernel)) dL_law_239 (fun f112057 e112058 => ?_)
            have h := pr_lt_at h e112058
            refine pr_goto (tgt := 319) C dL_law_240 (by decide) ?_
            exact pr_pick [4, 5, 6, 7, 8, 9, 10, 11, 12, 13, 14, 15, 16, 17, 18, 19, 20, 21] rfl (j_L_law_319 C hsc hq1 hq2 hq3 hq4 hq5 hq6 hq7 hq8 hq9 hq10 ih h Z)
      · have h := pr_ifT h c112025
        refine pr_aload_n C dL_law_175 rfl 4 rfl ?_
        refine pr_iload C dL_law_176 1 rfl ?_
        obtain ⟨r112060, hc112059, h⟩ := pr_b1_some h
        refine k_L_size C pr_w371  hc112059 (Nat.le_of_ble_eq_true rfl) (Nat.le_of_ble_eq_true rfl) (Nat.le_of_ble_eq_true rfl) dL_law_178 ?_
        obtain ⟨r112062, f112063, hc112061, h⟩ := pr_bd_some h
        refine k_X8_speed C pr_w397 hq1 hc112061 (Nat.le_of_ble_eq_true rfl) (Nat.le_of_ble_eq_true rfl) (Nat.le_of_ble_eq_true rfl) dL_law_181 ?_
        refine pr_pop C dL_law_184 rfl ?_
        refine pr_goto (tgt := 319) C dL_law_185 (by decide) ?_
        exact pr_pick [3, 4, 5, 6, 7, 8, 9, 10, 11, 12, 13, 14, 15, 16, 17, 18, 19, 20] rfl (j_L_law_319 C hsc hq1 hq2 hq3 hq4 hq5 hq6 hq7 hq8 hq9 hq10 ih h Z)
def F_L_main (sL : Nat) (sx : Nat → Int32) (q1 : Nat) (q2 : Nat) (q3 : Nat) (q4 : Nat) (q5 : Nat) (q6 : Nat) (q7 : Nat) (q8 : Nat) (q9 : Nat) (q10 : Nat) (f : pr_M) : Option (Int32 × pr_M) :=
  pr_b1 (F_X8_state q1 1 13 f) fun r2 =>
  pr_b1 (F_X8_get q1 1 1 f) fun r4 =>
  L_L_law_111 sL sx q1 q2 q3 q4 q5 q6 q7 q8 q9 q10 r2 r4 pr_fuel (-1) 0 1 0 0 f
set_option maxHeartbeats 4000000 in
set_option maxRecDepth 100000 in
theorem l_main {l : Launch} {e : pr_E0} {Y : pr_Y} {c0 : Cond} {sb sL : Nat} {sx : Nat → Int32} {q1 : Nat} {q2 : Nat} {q3 : Nat} {q4 : Nat} {q5 : Nat} {q6 : Nat} {q7 : Nat} {q8 : Nat} {q9 : Nat} {q10 : Nat} {f g : pr_M} {r : Int32} (C : pr_C (pr_EC l e) Y room_1 cL_law RL 22 c0) (hsc : pr_sc (pr_EC l e) = (sb, sL, sx)) (hq1 : (pr_LE e)[q1]? = some (8, 0)) (hq2 : (pr_LE e)[q2]? = some (10, 14)) (hq3 : (pr_LE e)[q3]? = some (10, 14)) (hq4 : (pr_LE e)[q4]? = some (10, 5)) (hq5 : (pr_LE e)[q5]? = some (10, 5)) (hq6 : (pr_LE e)[q6]? = some (10, 48)) (hq7 : (pr_LE e)[q7]? = some (10, 48)) (hq8 : (pr_LE e)[q8]? = some (10, 48)) (hq9 : (pr_LE e)[q9]? = some (10, 48)) (hq10 : (pr_LE e)[q10]? = some (10, 48)) (h : F_L_main sL sx q1 q2 q3 q4 q5 q6 q7 q8 q9 q10 f = some (r, g)) (Z : (∀ pc lv, decode cL_law pc = .ok (.ireturn, 1) → pr_W (pr_EC l e) Y room_1 22 g pc lv [.int r])) : pr_W (pr_EC l e) Y room_1 22 f 79 [(10, .ref (pr_ad (pr_EC l e) q10)), (9, .ref (pr_ad (pr_EC l e) q9)), (8, .ref (pr_ad (pr_EC l e) q8)), (7, .ref (pr_ad (pr_EC l e) q7)), (6, .ref (pr_ad (pr_EC l e) q6)), (5, .ref (pr_ad (pr_EC l e) q5)), (4, .ref (pr_ad (pr_EC l e) q4)), (3, .ref (pr_ad (pr_EC l e) q3)), (2, .ref (pr_ad (pr_EC l e) q2)), (1, .ref (pr_ad (pr_EC l e) q1)), (0, .ref sb)] [] := by
  rw [F_L_main] at h
  refine pr_aload_n C dL_law_79 rfl 9 rfl ?_
  refine pr_iconst (v := 1) C dL_law_80 (by decide) ?_
  refine pr_bipush (v := 13) C dL_law_81 (by decide) ?_
  obtain ⟨r2, hc1, h⟩ := pr_b1_some h
  refine k_X8_state C pr_w355 hq1 hc1 (Nat.le_of_ble_eq_true rfl) (Nat.le_of_ble_eq_true rfl) (Nat.le_of_ble_eq_true rfl) dL_law_83 ?_
  refine pr_istore (lv' := [(11, .int r2), (10, .ref (pr_ad (pr_EC l e) q10)), (9, .ref (pr_ad (pr_EC l e) q9)), (8, .ref (pr_ad (pr_EC l e) q8)), (7, .ref (pr_ad (pr_EC l e) q7)), (6, .ref (pr_ad (pr_EC l e) q6)), (5, .ref (pr_ad (pr_EC l e) q5)), (4, .ref (pr_ad (pr_EC l e) q4)), (3, .ref (pr_ad (pr_EC l e) q3)), (2, .ref (pr_ad (pr_EC l e) q2)), (1, .ref (pr_ad (pr_EC l e) q1)), (0, .ref sb)]) C dL_law_86 (by decide) rfl ?_
  refine pr_aload_n C dL_law_88 rfl 10 rfl ?_
  refine pr_iconst (v := 1) C dL_law_89 (by decide) ?_
  refine pr_iconst (v := 1) C dL_law_90 (by decide) ?_
  obtain ⟨r4, hc3, h⟩ := pr_b1_some h
  refine k_X8_get C pr_w363 hq1 hc3 (Nat.le_of_ble_eq_true rfl) (Nat.le_of_ble_eq_true rfl) (Nat.le_of_ble_eq_true rfl) dL_law_91 ?_
  refine pr_istore (lv' := [(12, .int r4), (11, .int r2), (10, .ref (pr_ad (pr_EC l e) q10)), (9, .ref (pr_ad (pr_EC l e) q9)), (8, .ref (pr_ad (pr_EC l e) q8)), (7, .ref (pr_ad (pr_EC l e) q7)), (6, .ref (pr_ad (pr_EC l e) q6)), (5, .ref (pr_ad (pr_EC l e) q5)), (4, .ref (pr_ad (pr_EC l e) q4)), (3, .ref (pr_ad (pr_EC l e) q3)), (2, .ref (pr_ad (pr_EC l e) q2)), (1, .ref (pr_ad (pr_EC l e) q1)), (0, .ref sb)]) C dL_law_94 (by decide) rfl ?_
  refine pr_iconst (v := (-1)) C dL_law_96 (by decide) ?_
  refine pr_istore (lv' := [(13, .int (-1)), (12, .int r4), (11, .int r2), (10, .ref (pr_ad (pr_EC l e) q10)), (9, .ref (pr_ad (pr_EC l e) q9)), (8, .ref (pr_ad (pr_EC l e) q8)), (7, .ref (pr_ad (pr_EC l e) q7)), (6, .ref (pr_ad (pr_EC l e) q6)), (5, .ref (pr_ad (pr_EC l e) q5)), (4, .ref (pr_ad (pr_EC l e) q4)), (3, .ref (pr_ad (pr_EC l e) q3)), (2, .ref (pr_ad (pr_EC l e) q2)), (1, .ref (pr_ad (pr_EC l e) q1)), (0, .ref sb)]) C dL_law_97 (by decide) rfl ?_
  refine pr_iconst (v := 0) C dL_law_99 (by decide) ?_
  refine pr_istore (lv' := [(14, .int 0), (13, .int (-1)), (12, .int r4), (11, .int r2), (10, .ref (pr_ad (pr_EC l e) q10)), (9, .ref (pr_ad (pr_EC l e) q9)), (8, .ref (pr_ad (pr_EC l e) q8)), (7, .ref (pr_ad (pr_EC l e) q7)), (6, .ref (pr_ad (pr_EC l e) q6)), (5, .ref (pr_ad (pr_EC l e) q5)), (4, .ref (pr_ad (pr_EC l e) q4)), (3, .ref (pr_ad (pr_EC l e) q3)), (2, .ref (pr_ad (pr_EC l e) q2)), (1, .ref (pr_ad (pr_EC l e) q1)), (0, .ref sb)]) C dL_law_100 (by decide) rfl ?_
  refine pr_iconst (v := 1) C dL_law_102 (by decide) ?_
  refine pr_istore (lv' := [(15, .int 1), (14, .int 0), (13, .int (-1)), (12, .int r4), (11, .int r2), (10, .ref (pr_ad (pr_EC l e) q10)), (9, .ref (pr_ad (pr_EC l e) q9)), (8, .ref (pr_ad (pr_EC l e) q8)), (7, .ref (pr_ad (pr_EC l e) q7)), (6, .ref (pr_ad (pr_EC l e) q6)), (5, .ref (pr_ad (pr_EC l e) q5)), (4, .ref (pr_ad (pr_EC l e) q4)), (3, .ref (pr_ad (pr_EC l e) q3)), (2, .ref (pr_ad (pr_EC l e) q2)), (1, .ref (pr_ad (pr_EC l e) q1)), (0, .ref sb)]) C dL_law_103 (by decide) rfl ?_
  refine pr_iconst (v := 0) C dL_law_105 (by decide) ?_
  refine pr_istore (lv' := [(16, .int 0), (15, .int 1), (14, .int 0), (13, .int (-1)), (12, .int r4), (11, .int r2), (10, .ref (pr_ad (pr_EC l e) q10)), (9, .ref (pr_ad (pr_EC l e) q9)), (8, .ref (pr_ad (pr_EC l e) q8)), (7, .ref (pr_ad (pr_EC l e) q7)), (6, .ref (pr_ad (pr_EC l e) q6)), (5, .ref (pr_ad (pr_EC l e) q5)), (4, .ref (pr_ad (pr_EC l e) q4)), (3, .ref (pr_ad (pr_EC l e) q3)), (2, .ref (pr_ad (pr_EC l e) q2)), (1, .ref (pr_ad (pr_EC l e) q1)), (0, .ref sb)]) C dL_law_106 (by decide) rfl ?_
  refine pr_iconst (v := 0) C dL_law_108 (by decide) ?_
  refine pr_istore (lv' := [(17, .int 0), (16, .int 0), (15, .int 1), (14, .int 0), (13, .int (-1)), (12, .int r4), (11, .int r2), (10, .ref (pr_ad (pr_EC l e) q10)), (9, .ref (pr_ad (pr_EC l e) q9)), (8, .ref (pr_ad (pr_EC l e) q8)), (7, .ref (pr_ad (pr_EC l e) q7)), (6, .ref (pr_ad (pr_EC l e) q6)), (5, .ref (pr_ad (pr_EC l e) q5)), (4, .ref (pr_ad (pr_EC l e) q4)), (3, .ref (pr_ad (pr_EC l e) q3)), (2, .ref (pr_ad (pr_EC l e) q2)), (1, .ref (pr_ad (pr_EC l e) q1)), (0, .ref sb)]) C dL_law_109 (by decide) rfl ?_
  exact pr_pick [17, 16, 15, 14, 13, 12, 11, 10, 9, 8, 7, 6, 5, 4, 3, 2, 1, 0] rfl (l_L_law_111 C hsc hq1 hq2 hq3 hq4 hq5 hq6 hq7 hq8 hq9 hq10 pr_fuel _ _ _ _ _ _ h Z)
