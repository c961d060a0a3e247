/-! ===== what the law's picture owes ===== -/
/-- the class's cells, and the law's arrays as they are made -/
def fz (g : pr_M) : pr_M := fun c j => if c < 201 then g c j else 0
def lk_ok (L : Nat) (xs : Nat → Int32) : Prop := ∀ g0, F_X3_begin 1 3 (fun _ _ => 0) = some ((), g0) → ∃ r1 g1 g2 g3 g', F_X8_setUp 0 2 g0 = some (r1, g1) ∧ F_L_settings 0 L xs 0 0 g1 = some ((), g2) ∧ F_L_settings 0 L xs 1 13 g2 = some ((), g3) ∧ F_L_main L xs 0 201 202 203 204 205 206 207 208 209 (fz g3) = some (1, g')
