/-! ===== the law: what a sensor sees, and what comes of it ===== -/
def l_C (u : Int32) (z w : Nat) (r65 r67 r69 m k : Int32) (f62 : pr_M) : Option (Int32 × pr_M) :=
  pr_b1 (F_L_size m f62) fun r75 =>
  pr_bd (α := Unit) (
    if r75 ≤ r65 then (
      some ((), f62)
    ) else (
      pr_b1 (F_L_limited ((f62 z (Int32.toNatClampNeg 4)) + m) 20000 f62) fun r80 =>
      pr_lt (pr_up f62 z (Int32.toNatClampNeg 4) r80) fun f81 =>
      pr_b1 (F_X8_get 0 u 5 f81) fun r84 =>
      pr_b1 (F_L_limited ((-((r67 * m) + (r84 * (f81 z (Int32.toNatClampNeg 4))))) / 256) r69 f81) fun r86 =>
      pr_b1 (F_L_limited ((f62 z (Int32.toNatClampNeg 0)) + r86) 5000 f81) fun r88 =>
      pr_lt (pr_up f81 z (Int32.toNatClampNeg 0) r88) fun f89 =>
      some ((), f89)
    )
  ) fun v76 f77 =>
  pr_b1 (F_L_size k f77) fun r92 =>
  pr_bd (α := Unit) (
    if r92 ≤ r65 then (
      some ((), f77)
    ) else (
      pr_b1 (F_L_limited ((-(r67 * k)) / 256) r69 f77) fun r97 =>
      pr_b1 (F_L_limited ((f62 z (Int32.toNatClampNeg 1)) + r97) 3000 f77) fun r99 =>
      pr_lt (pr_up f77 z (Int32.toNatClampNeg 1) r99) fun f100 =>
      some ((), f100)
    )
  ) fun v93 f94 =>
  pr_lt (pr_up f94 w (Int32.toNatClampNeg 2) ((f94 z (Int32.toNatClampNeg 0)) - (f62 z (Int32.toNatClampNeg 0)))) fun f102 =>
  pr_lt (pr_up f102 w (Int32.toNatClampNeg 3) ((f102 z (Int32.toNatClampNeg 1)) - (f62 z (Int32.toNatClampNeg 1)))) fun f104 =>
  pr_b1 (F_X8_get 0 u 1 f104) fun r107 =>
  pr_lt (pr_up f104 z (Int32.toNatClampNeg 5) (r107 + 1)) fun f108 =>
  some (1, f108)
def l_T (u : Int32) (z w : Nat) (m k : Int32) (f62 : pr_M) : Option (Int32 × pr_M) :=
  pr_b1 (F_X8_get 0 u 6 f62) fun r65 =>
  pr_b1 (F_X8_get 0 u 4 f62) fun r67 =>
  pr_b1 (F_X8_get 0 u 7 f62) fun r69 =>
  if (f62 z (Int32.toNatClampNeg 5)) = 0 then (
    pr_b1 (F_L_size m f62) fun r72 =>
    if r65 < r72 then (
      l_C u z w r65 r67 r69 m k f62
    ) else (
      pr_b1 (F_L_size k f62) fun r111 =>
      if r111 ≤ r65 then (
        some (1, f62)
      ) else (
        l_C u z w r65 r67 r69 m k f62
      )
    )
  ) else (
    some (1, f62)
  )
def l_Lr (u : Int32) (z w : Nat) (m k ch : Int32) (f45 : pr_M) : Option (Int32 × pr_M) :=
  pr_b1 (F_X8_get 0 u 8 f45) fun r48 =>
  pr_b1 (F_L_size ch f45) fun r50 =>
  pr_bd (α := Unit) (
    if r50 ≤ 9 then (
      some ((), f45)
    ) else (
      if r48 ≤ 0 then (
        some ((), f45)
      ) else (
        pr_gd (¬ ch = 0) <|
        pr_b1 (F_L_limited ((f45 z (Int32.toNatClampNeg 3)) + (((((m - (f45 z (Int32.toNatClampNeg 8))) * 100) / ch) * r48) / 256)) 500 f45) fun r57 =>
        pr_lt (pr_up f45 z (Int32.toNatClampNeg 3) r57) fun f58 =>
        some ((), f58)
      )
    )
  ) fun v51 f52 =>
  pr_lt (pr_up f52 z (Int32.toNatClampNeg 8) m) fun f60 =>
  pr_lt (pr_up f60 z (Int32.toNatClampNeg 9) k) fun f62 =>
  l_T u z w m k f62
theorem l_seen_eq (u : Int32) (z w : Nat) (err sk ch : Int32) (f : pr_M) : F_L_isSeen 0 u z w err sk ch f =
  pr_b1 (F_X8_get 0 u 2 f) fun r2 =>
  pr_b1 (F_X8_get 0 u 3 f) fun r4 =>
  pr_b1 (α := Int32) (
    if r4 ≤ (f z (Int32.toNatClampNeg 6)) then (
      some 4
    ) else (
      if (f z (Int32.toNatClampNeg 7)) ≤ 0 then (
        some 1
      ) else (
        some 4
      )
    )
  ) fun v5 =>
  pr_b1 (F_L_size (err - (f z (Int32.toNatClampNeg 8))) f) fun r9 =>
  pr_b1 (F_L_size ((f w (Int32.toNatClampNeg 4)) - (f z (Int32.toNatClampNeg 8))) f) fun r11 =>
  pr_b1 (α := Int32) (
    if (f z (Int32.toNatClampNeg 11)) = 0 then (
      if (r2 * v5) < r9 then (
        some 0
      ) else (
        some 1
      )
    ) else (
      some 0
    )
  ) fun v12 =>
  pr_b1 (α := Int32) (
    if (f z (Int32.toNatClampNeg 12)) ≤ 0 then (
      some 0
    ) else (
      if (r2 * v5) < r11 then (
        some 0
      ) else (
        some 1
      )
    )
  ) fun v15 =>
  pr_b1 (α := Int32) (
    if v12 = 0 then (
      if v15 = 0 then (
        some 0
      ) else (
        some 2
      )
    ) else (
      if v15 = 0 then (
        some 1
      ) else (
        if r11 < r9 then (
          some 2
        ) else (
          some 1
        )
      )
    )
  ) fun v18 =>
  pr_b1 (F_X8_seen 0 u 2 f) fun r26 =>
  if r26 = err then (
    pr_b1 (F_X8_seen 0 u 3 f) fun r29 =>
    if r29 = sk then (
      pr_b1 (F_X8_seen 0 u 4 f) fun r32 =>
      if r32 = v18 then (
        if v18 = 0 then (
          pr_lt (pr_up f z (Int32.toNatClampNeg 6) ((f z (Int32.toNatClampNeg 6)) + 1)) fun f149 =>
          pr_b1 (F_X8_seen 0 u 5 f149) fun r152 =>
          if r152 = (-1000000006) then (
            pr_b1 (F_X8_seen 0 u 6 f149) fun r155 =>
            if r155 = (-1000000006) then (
              some (1, f149)
            ) else (
              some (0, f149)
            )
          ) else (
            some (0, f149)
          )
        ) else (
          pr_b1 (α := Int32) (
            if v18 = 1 then (
              some err
            ) else (
              some (f w (Int32.toNatClampNeg 4))
            )
          ) fun m =>
          pr_b1 (α := Int32) (
            if v18 = 1 then (
              some sk
            ) else (
              some (f z (Int32.toNatClampNeg 9))
            )
          ) fun k =>
          pr_b1 (F_X8_seen 0 u 5 f) fun r40 =>
          if r40 = m then (
            pr_b1 (F_X8_seen 0 u 6 f) fun r43 =>
            if r43 = k then (
              pr_lt (pr_up f z (Int32.toNatClampNeg 6) 0) fun f45 =>
              l_Lr u z w m k ch f45
            ) else (
              some (0, f)
            )
          ) else (
            some (0, f)
          )
        )
      ) else (
        some (0, f)
      )
    ) else (
      some (0, f)
    )
  ) else (
    some (0, f)
  ) := rfl
