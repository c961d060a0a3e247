/-! ===== the law's repeat, in its pieces ===== -/
def j_aft (sL : Nat) (sx : Nat → Int32) (x11 x12 x13 x14 x15 x17 v y : Int32) (bk : Int32 → Int32 → Int32 → Int32 → Int32 → pr_M → Option (Int32 × pr_M)) (r320029 : Int32) (f320030 : pr_M) : Option (Int32 × pr_M) :=
  if r320029 = (x17 + 1) then (
    pr_bd (F_L_isPrinted 0 0 201 203 205 207 x17 (f320030 209 (Int32.toNatClampNeg x17)) f320030) fun r320033 f320034 =>
    if r320033 = 0 then (
      some (0, f320034)
    ) else (
      pr_bd (F_L_isPrinted 0 1 202 204 206 208 x17 (f320034 209 (Int32.toNatClampNeg x17)) f320034) fun r320037 f320038 =>
      if r320037 = 0 then (
        some (0, f320038)
      ) else (
        if (x17 - x12) < x11 then (
          pr_b1 (F_X8_seen 0 1 2 f320038) fun r320042 =>
          if r320042 = (-1000000006) then (
            pr_b1 (F_X8_seen 0 1 4 f320038) fun r320045 =>
            if r320045 = (-1000000006) then (
              J_L_law_535 sL sx 0 201 202 203 204 205 206 207 208 209 x11 x12 (x13 + v) x14 x15 y x17 bk f320038
            ) else (
              some (0, f320038)
            )
          ) else (
            some (0, f320038)
          )
        ) else (
          pr_gd (¬ ((x17 - x12) < 0 ∨ 48 ≤ Int32.toNatClampNeg (x17 - x12))) <|
          pr_gd (¬ (((x17 - x12) - x11) < 0 ∨ 48 ≤ Int32.toNatClampNeg ((x17 - x12) - x11))) <|
          pr_bd (F_L_isSeen 0 1 202 204 ((f320038 206 (Int32.toNatClampNeg (x17 - x12))) - (f320038 205 (Int32.toNatClampNeg ((x17 - x12) - x11)))) (f320038 208 (Int32.toNatClampNeg (x17 - x12))) (f320038 209 (Int32.toNatClampNeg (x17 - x12))) f320038) fun r320050 f320051 =>
          if r320050 = 0 then (
            some (0, f320051)
          ) else (
            J_L_law_535 sL sx 0 201 202 203 204 205 206 207 208 209 x11 x12 (x13 + v) x14 x15 y x17 bk f320051
          )
        )
      )
    )
  ) else (
    some (0, f320030)
  )
theorem j_eq (sL : Nat) (sx : Nat → Int32) (x11 x12 x13 x14 x15 x16 x17 : Int32) (bk : Int32 → Int32 → Int32 → Int32 → Int32 → pr_M → Option (Int32 × pr_M)) (f : pr_M) : J_L_law_319 sL sx 0 201 202 203 204 205 206 207 208 209 x11 x12 x13 x14 x15 x16 x17 bk f =
  pr_bd (F_L_lay 0 0 201 f) fun u320002 f320003 =>
  pr_bd (F_L_lay 0 1 202 f320003) fun u320005 f320006 =>
  pr_b1 (F_X8_count 0 2 f320006) fun r320008 =>
  pr_gd (¬ (x17 < 0 ∨ 48 ≤ Int32.toNatClampNeg x17)) <|
  pr_lt (pr_up f320006 209 (Int32.toNatClampNeg x17) (r320008 - x16)) fun f320010 =>
  pr_b1 (F_X8_count 0 2 f320010) fun y =>
  pr_bd (α := Unit) (
    if x13 = 0 then (
      pr_bd (F_L_comes 0 0 201 203 x14 x15 f320010) fun u320018 f320019 =>
      some ((), f320019)
    ) else (
      some ((), f320010)
    )
  ) fun v320014 f320015 =>
  pr_bd (α := Unit) (
    if x13 = x11 then (
      pr_bd (F_L_comes 0 1 202 204 x14 x15 f320015) fun u320024 f320025 =>
      some ((), f320025)
    ) else (
      some ((), f320015)
    )
  ) fun v320020 f5 =>
  pr_b1 (α := Int32) (
    if x13 < 0 then (
      some 0
    ) else (
      some 1
    )
  ) fun v =>
  pr_bd (F_X8_run 0 1 f5) (j_aft sL sx x11 x12 x13 x14 x15 x17 v y bk) := rfl
