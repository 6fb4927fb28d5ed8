theorem pure_law (xs : Nat → Int32) (L : Nat) (hL : L ≤ 2560) : L_law_L23 xs L 513 0 zS zS (fun _ => 0) zS = some 1 := sorry
