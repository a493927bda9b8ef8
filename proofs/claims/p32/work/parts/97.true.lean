theorem law_true (xs : Nat → Int32) (L : Nat) (hL : L ≤ 260) : m_L_law_32 100000 xs L 120 0 0 0 0 0 0 (fun _ => 0) (fun _ => 0) (fun _ => 0) 5 2 1 4 0 (fun _ => 0) 0 (fun _ => 0) 0 (fun _ => 0) (fun _ => 0) (fun _ => 0) (fun _ => 0) (fun _ => 0) (upd (upd (upd (fun _ => 0) (Int32.toNatClampNeg 0) 5) (Int32.toNatClampNeg 1) 2) (Int32.toNatClampNeg 2) 1) (fun _ => 0) = some 1 := by
  sorry
