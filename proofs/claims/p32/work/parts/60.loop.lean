-- all events
theorem ev_all {g : Nat → Int32} {rm : Nat → Int32} {op : Nat → Int32} {rc : Int32} {ec : Int32} {su : Int32} {pe : Int32} {qt : Int32} {rs : Nat → Int32} {rn : Int32} (hST : ST g rm op rc ec su pe qt rs rn) {pr st : Nat → Int32} (hPR : PR pr op) (hSE : SE st rc ec su) {fu : Nat} (hf : 20000 ≤ fu) (xs : Nat → Int32) (L : Nat) (v4 v5 x : Int32) (n : Nat) (cs : Nat → Int32) (cn : Int32) (lc : Nat → Int64) (hc : Nat → Int64) (lg : Nat → Int64) (hh : Nat → Int64) {k : Nat} (hk : k ≤ 12) : NX fu xs L v4 v5 (n + 2) (m_L_law_32 fu xs L (n + 2) 1 v4 v5 x (nI k) 0 g rm op rc ec su pe qt rs rn cs cn lc hc lg hh pr st (fun _ => 0)) := by
  rcases (show k = 0 ∨ k = 1 ∨ k = 2 ∨ k = 3 ∨ k = 4 ∨ k = 5 ∨ k = 6 ∨ k = 7 ∨ k = 8 ∨ k = 9 ∨ k = 10 ∨ k = 11 ∨ k = 12 by omega) with rfl | rfl | rfl | rfl | rfl | rfl | rfl | rfl | rfl | rfl | rfl | rfl | rfl
  · exact ev_0 hST hPR hSE hf xs L v4 v5 x n cs cn lc hc lg hh
  · exact ev_1 hST hPR hSE hf xs L v4 v5 x n cs cn lc hc lg hh
  · exact ev_2 hST hPR hSE hf xs L v4 v5 x n cs cn lc hc lg hh
  · exact ev_3 hST hPR hSE hf xs L v4 v5 x n cs cn lc hc lg hh
  · exact ev_4 hST hPR hSE hf xs L v4 v5 x n cs cn lc hc lg hh
  · exact ev_5 hST hPR hSE hf xs L v4 v5 x n cs cn lc hc lg hh
  · exact ev_6 hST hPR hSE hf xs L v4 v5 x n cs cn lc hc lg hh
  · exact ev_7 hST hPR hSE hf xs L v4 v5 x n cs cn lc hc lg hh
  · exact ev_8 hST hPR hSE hf xs L v4 v5 x n cs cn lc hc lg hh
  · exact ev_9 hST hPR hSE hf xs L v4 v5 x n cs cn lc hc lg hh
  · exact ev_10 hST hPR hSE hf xs L v4 v5 x n cs cn lc hc lg hh
  · exact ev_11 hST hPR hSE hf xs L v4 v5 x n cs cn lc hc lg hh
  · exact ev_12 hST hPR hSE hf xs L v4 v5 x n cs cn lc hc lg hh
theorem cell_is (xs : Nat → Int32) {L k : Nat} (hL : L ≤ 260) (hk : k < 2 ^ 31) : ∃ r, m_L_cell xs L (nI k) = some r := by
  rw [m_L_cell]
  by_cases h : nI L ≤ nI k
  · exact ⟨_, if_pos h⟩
  · have hlt : k < L := by
      rcases Nat.lt_or_ge k L with q | q
      · exact q
      · exact absurd (nI_le q hk) h
    exact ⟨xs k, by rw [if_neg h, ixI hlt (by omega), clI hk]⟩
theorem HO_0 (g : Nat → Int32) : HO g 0 = 255 := by
  apply Nat.eq_of_testBit_eq
  intro i
  rw [HO_bit, show (255 : Nat) = 2 ^ 8 - 1 from rfl, Nat.testBit_two_pow_sub_one]
  apply decide_eq_decide.mpr
  exact ⟨fun h => h.1, fun h => ⟨h, Nat.and_zero _⟩⟩
theorem c15 {n : Nat} (hn : n ≤ 255) : (15 : Int32) ≤ nI n ↔ ¬ n ≤ 14 := (nI_leI (a := 15) (by decide) (by omega)).trans ⟨fun h => by omega, fun h => by omega⟩
theorem ev_end {g : Nat → Int32} {rm : Nat → Int32} {op : Nat → Int32} {rc : Int32} {ec : Int32} {su : Int32} {pe : Int32} {qt : Int32} {rs : Nat → Int32} {rn : Int32} (hST : ST g rm op rc ec su pe qt rs rn) {pr st : Nat → Int32} (hPR : PR pr op) (hSE : SE st rc ec su) {fu : Nat} (hf : 20000 ≤ fu) (xs : Nat → Int32) (L M : Nat) (cs : Nat → Int32) (cn : Int32) (lc : Nat → Int64) (hc : Nat → Int64) (lg : Nat → Int64) (hh : Nat → Int64) : m_L_law_32 fu xs L (M + 1) 0 (nI 26) 0 0 0 0 g rm op rc ec su pe qt rs rn cs cn lc hc lg hh pr st (fun _ => 0) = some 1 := by
  obtain ⟨hg, ho, hi, ⟨r, hr, rfl⟩, ⟨e, he, rfl⟩, ⟨s, hs1, hs8, rfl⟩, ⟨p, hp1, hp8, rfl⟩, ⟨t, ht, rfl, hrm⟩, q, Q, rfl, hQ⟩ := hST
  obtain ⟨-, m, R, -, -, -, hC, -⟩ := findCandidates_eq hg ho.1 (s := s) (by omega) (fu := fu) (by omega) cs cn lc hc lg hh
  have hm := hC.1
  obtain ⟨cs1, lc1, hc1, lg1, hg1, e1⟩ := v_candidates hg ho.1 hs8 hC hf cs cn lc hc lg hh
  obtain ⟨cs2, cn2, lc2, hc2, lg2, hg2, e2⟩ := v_costOf0 hg ho.1 hs8 hC hf (nI r) (nI e) cs1 (nI m) lc1 hc1 lg1 hg1
  obtain ⟨cs3, cn3, lc3, hc3, lg3, hg3, e3⟩ := v_costOf_neg hg ho.1 hs8 hC hf (nI r) (nI e) cs2 cn2 lc2 hc2 lg2 hg2
  have v_h0 : m_X0_holders fu g 0 = some (.inr (nI 255)) := by
    have h := v_holders hg (S := 0) (by decide) hf
    rw [HO_0] at h
    exact h
  have v_h1 : m_X0_holders fu g 4096 = some (.inl IAE) := by rw [m_X0_holders, if_pos (show m_X0_isPermissionSet 4096 = 0 by decide)]
  have v_h2 : m_X0_setGrants fu g rm (nI t) 8 (-1) = some (.inl IOE, g, rm) := by rw [m_X0_setGrants, if_pos (show m_X0_isUser 8 = 0 by decide)]
  have v_h3 : m_X0_review g rm (nI t) 0 12 = some (.inl IOE, rm) := by rw [m_X0_review, if_neg (show ¬ m_X0_isUser 0 = 0 by decide), if_pos (show m_X0_isPermission 12 = 0 by decide)]
  have v_h4 : m_X0_setConflict op 3 3 1 = some (.inl IAE, op) := by rw [m_X0_setConflict, if_neg (show ¬ m_X0_isPermission 3 = 0 by decide), if_neg (show ¬ m_X0_isPermission 3 = 0 by decide), if_pos rfl]
  rw [m_L_law_32, if_pos rfl, if_pos (show (26 : Int32) ≤ nI 26 by decide), e1, bnd7]
  dsimp only
  by_cases h14 : m ≤ 14
  · rw [if_pos h14] at e2 e3
    rw [if_neg (fun z => (c15 hm).mp z h14), e2, bw6, v_grants hg hf, bnd1, wr2_r, show Int32.toNatClampNeg 1 = 1 from by decide +kernel, hSE.2.1, if_pos rfl, e3, bw6, if_pos (Or.inr rfl), wr2_2 (by decide +kernel), if_pos rfl, v_h0, bw0, wr1_r, if_pos (show nI 255 = 255 from rfl), v_h1, bw0, if_pos (Or.inl rfl), wr1_l, if_pos rfl, v_h2, bw2, if_pos (Or.inl rfl), wr2_1, if_pos rfl, v_h3, bw1, if_pos (Or.inl rfl), wr2_1, if_pos rfl, v_h4, bw1, if_pos (Or.inr rfl), wb2_2 (by decide +kernel), if_pos rfl]
  · rw [if_neg h14] at e2 e3
    rw [if_pos ((c15 hm).mpr h14), e2, bw6, if_pos (Or.inl rfl), wr2_1, if_pos rfl, e3, bw6, if_pos (Or.inl rfl), wr2_1, if_pos rfl, v_h0, bw0, wr1_r, if_pos (show nI 255 = 255 from rfl), v_h1, bw0, if_pos (Or.inl rfl), wr1_l, if_pos rfl, v_h2, bw2, if_pos (Or.inl rfl), wr2_1, if_pos rfl, v_h3, bw1, if_pos (Or.inl rfl), wr2_1, if_pos rfl, v_h4, bw1, if_pos (Or.inr rfl), wb2_2 (by decide +kernel), if_pos rfl]
theorem ev_loop {fu : Nat} (hf : 60000 ≤ fu) (xs : Nat → Int32) {L : Nat} (hL : L ≤ 260) : ∀ (d j M : Nat) (g : Nat → Int32) (rm : Nat → Int32) (op : Nat → Int32) (rc : Int32) (ec : Int32) (su : Int32) (pe : Int32) (qt : Int32) (rs : Nat → Int32) (rn : Int32) (cs : Nat → Int32) (cn : Int32) (lc : Nat → Int64) (hc : Nat → Int64) (lg : Nat → Int64) (hh : Nat → Int64) (pr st : Nat → Int32), j + d = 26 → 4 * d + 1 ≤ M → ST g rm op rc ec su pe qt rs rn → PR pr op → SE st rc ec su → m_L_law_32 fu xs L M 0 (nI j) 0 0 0 0 g rm op rc ec su pe qt rs rn cs cn lc hc lg hh pr st (fun _ => 0) = some 1 := by
  intro d
  induction d with
  | zero =>
    intro j M g rm op rc ec su pe qt rs rn cs cn lc hc lg hh pr st h1 h2 hST hPR hSE
    obtain ⟨M, rfl⟩ : ∃ M', M = M' + 1 := ⟨M - 1, by omega⟩
    obtain rfl : j = 26 := by omega
    exact ev_end hST hPR hSE (by omega) xs L M cs cn lc hc lg hh
  | succ d ih =>
    intro j M g rm op rc ec su pe qt rs rn cs cn lc hc lg hh pr st h1 h2 hST hPR hSE
    obtain ⟨n, rfl⟩ : ∃ n, M = (n + 2) + 1 := ⟨M - 3, by omega⟩
    obtain ⟨G, eG⟩ := cell_is xs (L := L) (k := 2 * j) hL (by omega)
    obtain ⟨X, eX⟩ := cell_is xs (L := L) (k := 2 * j + 1) hL (by omega)
    have e2 : (2 : Int32) * nI j = nI (2 * j) := by rw [fa_lit 2, nI_mulI]
    have key : ∀ k : Nat, k ≤ 12 → m_L_law_32 fu xs L (n + 2) 1 (nI j) G X (nI k) 0 g rm op rc ec su pe qt rs rn cs cn lc hc lg hh pr st (fun _ => 0) = some 1 := by
      intro k hk
      obtain ⟨M2, g1, rm1, op1, rc1, ec1, su1, pe1, qt1, rs1, rn1, cs1, cn1, lc1, hc1, lg1, hh1, pr1, st1, hM, e, hST1, hPR1, hSE1⟩ := ev_all hST hPR hSE (fu := fu) (by omega) xs L (nI j) G X n cs cn lc hc lg hh hk
      rw [e]
      obtain ⟨M3, rfl⟩ : ∃ M3, M2 = M3 + 1 := ⟨M2 - 1, by omega⟩
      obtain ⟨hg, ho, hi, -, -, ⟨s, hs1, hs8, rfl⟩, -, -, q, Q, rfl, hQ⟩ := id hST1
      rw [m_L_law_32, if_neg (by decide), if_neg (by decide), if_neg (by decide), show Int32.toNatClampNeg 0 = 0 from by decide +kernel, show Int32.toNatClampNeg 1 = 1 from by decide +kernel, show Int32.toNatClampNeg 2 = 2 from by decide +kernel, hSE1.1, hSE1.2.1, hSE1.2.2, l_users hg ho hi hPR1 rc1 ec1 pe1 qt1 hQ (by omega), bnd1, if_neg n10, nI_1]
      by_cases z : m_L_low G 6 = 0
      · obtain ⟨cs2, cn2, lc2, hc2, lg2, hg2, e5⟩ := l_candidates hg ho.1 hPR1 hs1 hs8 (fu := fu) hf cs1 cn1 lc1 hc1 lg1 hh1
        rw [if_pos z, e5, bnd7]
        dsimp only
        rw [if_neg n10]
        exact ih (j + 1) M3 _ _ _ _ _ _ _ _ _ _ _ _ _ _ _ _ _ _ (by omega) (by omega) hST1 hPR1 hSE1
      · rw [if_neg z]
        exact ih (j + 1) M3 _ _ _ _ _ _ _ _ _ _ _ _ _ _ _ _ _ _ (by omega) (by omega) hST1 hPR1 hSE1
    rw [m_L_law_32, if_pos rfl, if_neg (fun z => by have := (nI_leI (a := 26) (b := j) (by decide) (by omega)).mp z; omega), e2, eG, bnd1, nI_1, eX, bnd1]
    obtain ⟨k, hk, ek⟩ := low_is (n := 13) (by decide) (by decide) (b := 13) rfl (G >>> (3 &&& 31))
    split
    · rw [ek]
      exact key k (by omega)
    · exact key 0 (by decide)
theorem va_0 {N B : Nat} (hB : 0 < B) : VA (fun _ => 0) N B := fun k _ => by
  rw [nv, show Int32.toNatClampNeg 0 = 0 from by decide +kernel]
  exact ⟨hB, rfl⟩
theorem nv_0 (i : Nat) : nv (fun _ => 0) i = 0 := by
  rw [nv, show Int32.toNatClampNeg 0 = 0 from by decide +kernel]
theorem ST_0 : ST (fun _ => 0) (fun _ => 0) (fun _ => 0) 5 2 1 4 0 (fun _ => 0) 0 := ⟨va_0 (by decide), ⟨va_0 (by decide), fun i j _ _ => by rw [nv_0, nv_0, Nat.zero_testBit, Nat.zero_testBit]⟩, fun i _ => by rw [nv_0, Nat.zero_testBit], ⟨5, by decide, rfl⟩, ⟨2, by decide, rfl⟩, ⟨1, by decide, by decide, rfl⟩, ⟨4, by decide, by decide, rfl⟩, ⟨0, by decide, rfl, fun i _ => ⟨0, Nat.le_refl 0, rfl⟩⟩, 0, (fun _ => 0), rfl, ⟨by decide, fun i h => absurd h (Nat.not_lt_zero i)⟩⟩
theorem law_true (xs : Nat → Int32) (L : Nat) (hL : L ≤ 260) : m_L_law_32 100000 xs L 120 0 0 0 0 0 0 (fun _ => 0) (fun _ => 0) (fun _ => 0) 5 2 1 4 0 (fun _ => 0) 0 (fun _ => 0) 0 (fun _ => 0) (fun _ => 0) (fun _ => 0) (fun _ => 0) (fun _ => 0) (upd (upd (upd (fun _ => 0) (Int32.toNatClampNeg 0) 5) (Int32.toNatClampNeg 1) 2) (Int32.toNatClampNeg 2) 1) (fun _ => 0) = some 1 := by
  have c0 : Int32.toNatClampNeg 0 = 0 := by decide +kernel
  have c1 : Int32.toNatClampNeg 1 = 1 := by decide +kernel
  have c2 : Int32.toNatClampNeg 2 = 2 := by decide +kernel
  rw [c0, c1, c2]
  exact ev_loop (fu := 100000) (by decide) xs hL 26 0 120 _ _ _ _ _ _ _ _ _ _ _ _ _ _ _ _ _ _ (by decide) (by decide) ST_0 (fun _ _ => rfl) ⟨rfl, rfl, rfl⟩
