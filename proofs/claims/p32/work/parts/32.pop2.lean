/-- Integer.bitCount -/
theorem bc32 {n : Nat} (h : n < 2 ^ 31) : m_J6_bitCount_0f7a4 (nI n) = nI (pc n) := by
  have k5 : mk5 4 = 1431655765 := by decide
  have k3 : mk3 4 = 858993459 := by decide
  have kf : mkf 4 = 252645135 := by decide
  have e1 : m_J6_bitCount_0f7a4_s1 (nI n) = nI (sw1 (mk5 4) n) := by
    rw [m_J6_bitCount_0f7a4_s1, pk_ushrN (n := n) (by omega) (1 : Int32) 1 (by decide), show (1431655765 : Int32) = nI 1431655765 from rfl, fa_and, pk_sub (Nat.le_trans Nat.and_le_left (Nat.div_le_self _ _)), sw1, k5, Nat.pow_one]
  have h1 : sw1 (mk5 4) n ≤ n := by unfold sw1; omega
  generalize e2 : sw1 (mk5 4) n = a at e1 h1
  have e3 : m_J6_bitCount_0f7a4_s2 (nI a) = nI (sw2 (mk3 4) a) := by
    rw [m_J6_bitCount_0f7a4_s2, pk_ushrN (n := a) (by omega) (2 : Int32) 2 (by decide), show (858993459 : Int32) = nI 858993459 from rfl, fa_and, fa_and, nI_add, sw2, k3]
  have h2 : sw2 (mk3 4) a ≤ 858993459 + 858993459 := by
    unfold sw2; rw [k3]
    have := @Nat.and_le_right a 858993459
    have := @Nat.and_le_right (a / 4) 858993459
    omega
  generalize e4 : sw2 (mk3 4) a = b at e3 h2
  have e5 : m_J6_bitCount_0f7a4_s3 (nI b) = nI (sw3 (mkf 4) b) := by
    rw [m_J6_bitCount_0f7a4_s3, pk_ushrN (n := b) (by omega) (4 : Int32) 4 (by decide), show (252645135 : Int32) = nI 252645135 from rfl, nI_add, fa_and, sw3, kf]
  have e6 : sw3 (mkf 4) b = byc 4 n := by rw [← e4, ← e2]; exact sw_all 4 n (by omega)
  rw [m_J6_bitCount_0f7a4, e1, e3, e5, e6]
  have hp : pc n = pcb 32 n := pc_of 32 (by decide) (by omega)
  have q0 := pcb_bytes 4 n
  have q1 := pcb_bytes 3 (n / 256)
  have q2 := pcb_bytes 2 (n / 256 / 256)
  have q3 := pcb_bytes 1 (n / 256 / 256 / 256)
  have q4 := pcb_bytes 0 (n / 256 / 256 / 256 / 256)
  dsimp only at q0 q1 q2 q3 q4
  have z : byc 4 n = pcb 8 (n % 256) + 256 * (pcb 8 (n / 256 % 256) + 256 * (pcb 8 (n / 256 / 256 % 256) + 256 * (pcb 8 (n / 256 / 256 / 256 % 256) + 256 * 0))) := rfl
  have b0 := pcb_le 8 (n % 256)
  have b1 := pcb_le 8 (n / 256 % 256)
  have b2 := pcb_le 8 (n / 256 / 256 % 256)
  have b3 := pcb_le 8 (n / 256 / 256 / 256 % 256)
  generalize pcb 8 (n % 256) = c0 at *
  generalize pcb 8 (n / 256 % 256) = c1 at *
  generalize pcb 8 (n / 256 / 256 % 256) = c2 at *
  generalize pcb 8 (n / 256 / 256 / 256 % 256) = c3 at *
  generalize byc 4 n = y at *
  obtain ⟨z3, hz3⟩ : ∃ z3, z3 = c3 := ⟨_, rfl⟩
  obtain ⟨z2, hz2⟩ : ∃ z2, z2 = c2 + 256 * z3 := ⟨_, rfl⟩
  obtain ⟨z1, hz1⟩ : ∃ z1, z1 = c1 + 256 * z2 := ⟨_, rfl⟩
  have hy : y = c0 + 256 * z1 := by omega
  have e7 : m_J6_bitCount_0f7a4_s4 (nI y) = nI (y + z1) := by
    rw [m_J6_bitCount_0f7a4_s4, pk_ushrN (n := y) (by omega) (8 : Int32) 8 (by decide), nI_add, show y / 2 ^ 8 = z1 by omega]
  have e8 : m_J6_bitCount_0f7a4_s5 (nI (y + z1)) = nI (y + z1 + (z2 + z3)) := by
    rw [m_J6_bitCount_0f7a4_s5, pk_ushrN (n := y + z1) (by omega) (16 : Int32) 16 (by decide), nI_add, show (y + z1) / 2 ^ 16 = z2 + z3 by omega]
  rw [e7, e8, show (63 : Int32) = nI (2 ^ 6 - 1) from rfl, fa_mask]
  refine congrArg nI ?_
  have hq : pc n = c0 + (c1 + (c2 + (c3 + 0))) := by
    rw [hp, show (32 : Nat) = 8 * 4 from rfl, q0, q1, q2, q3, q4]
  omega
theorem lsh {n : Nat} (h : n < 2 ^ 64) (k : Nat) (hk : k < 64) : (Int64.toUInt64 (lN n) >>> (Int64.toUInt64 (Int32.toInt64 (nI k)) &&& Int64.toUInt64 63)).toInt64 = lN (n / 2 ^ k) := wb_shr h hk
/-- Long.bitCount -/
theorem bc64 {n : Nat} (h : n < 2 ^ 62) : m_J13_bitCount_95d88 (lN n) = nI (pc n) := by
  have k5 : mk5 8 = 6148914691236517205 := by decide
  have k3 : mk3 8 = 3689348814741910323 := by decide
  have kf : mkf 8 = 1085102592571150095 := by decide
  have e1 : m_J13_bitCount_95d88_s1 (lN n) = lN (sw1 (mk5 8) n) := by
    rw [m_J13_bitCount_95d88_s1, show (1 : Int32) = nI 1 from rfl, lsh (by omega) 1 (by decide), show (6148914691236517205 : Int64) = lN 6148914691236517205 from rfl, fb_andL, lN_sub (Nat.le_trans Nat.and_le_left (Nat.div_le_self _ _)), sw1, k5, Nat.pow_one]
  have h1 : sw1 (mk5 8) n ≤ n := by unfold sw1; omega
  generalize e2 : sw1 (mk5 8) n = a at e1 h1
  have e3 : m_J13_bitCount_95d88_s2 (lN a) = lN (sw2 (mk3 8) a) := by
    rw [m_J13_bitCount_95d88_s2, show (2 : Int32) = nI 2 from rfl, lsh (by omega) 2 (by decide), show (3689348814741910323 : Int64) = lN 3689348814741910323 from rfl, fb_andL, fb_andL, lN_add, sw2, k3]
  have h2 : sw2 (mk3 8) a ≤ 3689348814741910323 + 3689348814741910323 := by
    unfold sw2; rw [k3]
    have := @Nat.and_le_right a 3689348814741910323
    have := @Nat.and_le_right (a / 4) 3689348814741910323
    omega
  generalize e4 : sw2 (mk3 8) a = b at e3 h2
  have e5 : m_J13_bitCount_95d88_s3 (lN b) = lN (sw3 (mkf 8) b) := by
    rw [m_J13_bitCount_95d88_s3, show (4 : Int32) = nI 4 from rfl, lsh (by omega) 4 (by decide), show (1085102592571150095 : Int64) = lN 1085102592571150095 from rfl, lN_add, fb_andL, sw3, kf]
  have e6 : sw3 (mkf 8) b = byc 8 n := by rw [← e4, ← e2]; exact sw_all 8 n (by omega)
  rw [m_J13_bitCount_95d88, e1, e3, e5, e6]
  have q0 := pcb_bytes 8 n
  have q1 := pcb_bytes 7 (n / 256)
  have q2 := pcb_bytes 6 (n / 256 / 256)
  have q3 := pcb_bytes 5 (n / 256 / 256 / 256)
  have q4 := pcb_bytes 4 (n / 256 / 256 / 256 / 256)
  have q5 := pcb_bytes 3 (n / 256 / 256 / 256 / 256 / 256)
  have q6 := pcb_bytes 2 (n / 256 / 256 / 256 / 256 / 256 / 256)
  have q7 := pcb_bytes 1 (n / 256 / 256 / 256 / 256 / 256 / 256 / 256)
  have q8 := pcb_bytes 0 (n / 256 / 256 / 256 / 256 / 256 / 256 / 256 / 256)
  dsimp only at q0 q1 q2 q3 q4 q5 q6 q7 q8
  have z : byc 8 n = pcb 8 (n % 256) + 256 * (pcb 8 (n / 256 % 256) + 256 * (pcb 8 (n / 256 / 256 % 256) + 256 * (pcb 8 (n / 256 / 256 / 256 % 256) + 256 * (pcb 8 (n / 256 / 256 / 256 / 256 % 256) + 256 * (pcb 8 (n / 256 / 256 / 256 / 256 / 256 % 256) + 256 * (pcb 8 (n / 256 / 256 / 256 / 256 / 256 / 256 % 256) + 256 * (pcb 8 (n / 256 / 256 / 256 / 256 / 256 / 256 / 256 % 256) + 256 * 0))))))) := rfl
  have b0 := pcb_le 8 (n % 256)
  have b1 := pcb_le 8 (n / 256 % 256)
  have b2 := pcb_le 8 (n / 256 / 256 % 256)
  have b3 := pcb_le 8 (n / 256 / 256 / 256 % 256)
  have b4 := pcb_le 8 (n / 256 / 256 / 256 / 256 % 256)
  have b5 := pcb_le 8 (n / 256 / 256 / 256 / 256 / 256 % 256)
  have b6 := pcb_le 8 (n / 256 / 256 / 256 / 256 / 256 / 256 % 256)
  have b7 := pcb_le 8 (n / 256 / 256 / 256 / 256 / 256 / 256 / 256 % 256)
  generalize pcb 8 (n % 256) = c0 at *
  generalize pcb 8 (n / 256 % 256) = c1 at *
  generalize pcb 8 (n / 256 / 256 % 256) = c2 at *
  generalize pcb 8 (n / 256 / 256 / 256 % 256) = c3 at *
  generalize pcb 8 (n / 256 / 256 / 256 / 256 % 256) = c4 at *
  generalize pcb 8 (n / 256 / 256 / 256 / 256 / 256 % 256) = c5 at *
  generalize pcb 8 (n / 256 / 256 / 256 / 256 / 256 / 256 % 256) = c6 at *
  generalize pcb 8 (n / 256 / 256 / 256 / 256 / 256 / 256 / 256 % 256) = c7 at *
  have hp : pc n = c0 + (c1 + (c2 + (c3 + (c4 + (c5 + (c6 + (c7 + 0))))))) := by
    unfold pc
    rw [show (64 : Nat) = 8 * 8 from rfl, q0, q1, q2, q3, q4, q5, q6, q7, q8]
  clear q0 q1 q2 q3 q4 q5 q6 q7 q8 e1 e2 e3 e4 e5 e6
  generalize byc 8 n = y at *
  obtain ⟨z7, hz7⟩ : ∃ z7, z7 = c7 := ⟨_, rfl⟩
  obtain ⟨z6, hz6⟩ : ∃ z6, z6 = c6 + 256 * z7 := ⟨_, rfl⟩
  obtain ⟨z5, hz5⟩ : ∃ z5, z5 = c5 + 256 * z6 := ⟨_, rfl⟩
  obtain ⟨z4, hz4⟩ : ∃ z4, z4 = c4 + 256 * z5 := ⟨_, rfl⟩
  obtain ⟨z3, hz3⟩ : ∃ z3, z3 = c3 + 256 * z4 := ⟨_, rfl⟩
  obtain ⟨z2, hz2⟩ : ∃ z2, z2 = c2 + 256 * z3 := ⟨_, rfl⟩
  obtain ⟨z1, hz1⟩ : ∃ z1, z1 = c1 + 256 * z2 := ⟨_, rfl⟩
  have hy : y = c0 + 256 * z1 := by omega
  have hb : y ≤ 8 + 256 * (8 + 256 * (8 + 256 * (8 + 256 * (8 + 256 * (8 + 256 * (8 + 256 * 8)))))) := by omega
  have e7 : m_J13_bitCount_95d88_s4 (lN y) = lN (y + z1) := by
    rw [m_J13_bitCount_95d88_s4, show (8 : Int32) = nI 8 from rfl, lsh (by omega) 8 (by decide), lN_add, show y / 2 ^ 8 = z1 by omega]
  have e8 : m_J13_bitCount_95d88_s5 (lN (y + z1)) = lN (y + z1 + (z2 + z3)) := by
    rw [m_J13_bitCount_95d88_s5, show (16 : Int32) = nI 16 from rfl, lsh (by omega) 16 (by decide), lN_add, show (y + z1) / 2 ^ 16 = z2 + z3 by omega]
  have e9 : m_J13_bitCount_95d88_s6 (lN (y + z1 + (z2 + z3))) = lN (y + z1 + (z2 + z3) + (z4 + z5 + (z6 + z7))) := by
    rw [m_J13_bitCount_95d88_s6, show (32 : Int32) = nI 32 from rfl, lsh (by omega) 32 (by decide), lN_add, show (y + z1 + (z2 + z3)) / 2 ^ 32 = z4 + z5 + (z6 + z7) by omega]
  rw [e7, e8, e9, lN_i, show (127 : Int32) = nI (2 ^ 7 - 1) from rfl, fa_mask]
  refine congrArg nI ?_
  omega
