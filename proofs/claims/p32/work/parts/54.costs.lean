-- what choices and roles cost
theorem le32_refl (a : Int32) : a ≤ a := by rw [fa_le]; omega
theorem le32_trans {a b c : Int32} (h1 : a ≤ b) (h2 : b ≤ c) : a ≤ c := by rw [fa_le] at *; omega
theorem bnew_le {K : Nat → Int32} {c b : Nat} : K (bnew K c b) ≤ K c ∧ K (bnew K c b) ≤ K b := by
  unfold bnew
  split
  · next h => exact ⟨le32_refl _, (fa_of_lt h).1⟩
  · next h =>
    split
    · next h2 =>
      split
      · exact ⟨by rw [h2]; exact le32_refl _, le32_refl _⟩
      · exact ⟨le32_refl _, by rw [h2]; exact le32_refl _⟩
    · exact ⟨fa_of_nlt h, le32_refl _⟩
theorem bsel_le {K : Nat → Int32} : ∀ (d c b : Nat), K (bsel K d c b) ≤ K b ∧ ∀ x, c ≤ x → x < c + d → K (bsel K d c b) ≤ K x
  | 0, c, b => ⟨le32_refl _, fun x h1 h2 => by omega⟩
  | d + 1, c, b => by
    obtain ⟨h1, h2⟩ := bsel_le (K := K) d (c + 1) (bnew K c b)
    have h3 := bnew_le (K := K) (c := c) (b := b)
    rw [bsel]
    refine ⟨le32_trans h1 h3.2, fun x h4 h5 => ?_⟩
    by_cases e : x = c
    · subst e; exact le32_trans h1 h3.1
    · exact h2 x (by omega) (by omega)
/-- the choice of the least cost -/
def BST (g : Nat → Int32) (R : Nat → Nat) (n : Nat) (rc ec : Int32) : Nat := bsel (cst g R n rc ec) (2 ^ n - 1) 1 0
theorem BST_lt (g : Nat → Int32) (R : Nat → Nat) (n : Nat) (rc ec : Int32) : BST g R n rc ec < 2 ^ n := by
  have := Nat.two_pow_pos n
  exact bsel_lt (2 ^ n - 1) 1 0 (by omega) this
theorem BST_le (g : Nat → Int32) (R : Nat → Nat) (n : Nat) (rc ec : Int32) {x : Nat} (hx : x < 2 ^ n) : cst g R n rc ec (BST g R n rc ec) ≤ cst g R n rc ec x := by
  obtain ⟨h1, h2⟩ := bsel_le (K := cst g R n rc ec) (2 ^ n - 1) 1 0
  rcases Nat.eq_zero_or_pos x with q | q
  · subst q; exact h1
  · exact h2 x q (by omega)
theorem cst_nI (g : Nat → Int32) (R : Nat → Nat) (n r e ch : Nat) : cst g R n (nI r) (nI e) ch = nI (r * pc ch + e * cntL (LF g R n ch)) := by
  rw [cst, nI_mulI, nI_mulI, nI_add]
theorem cntL_le {L : Nat → Nat} (hL : ∀ u, u < 8 → L u < 4096) : cntL L ≤ 96 := by
  have := fb_sm_bound (f := fun u => pc (L u)) (c := 12) (n := 8) (fun u hu => pc_lt 12 (by decide) (hL u hu))
  exact this
theorem cntL_gr8 (g : Nat → Int32) : cntL (gr8 g) = fb_sm (GRt g) 8 := fb_sm_cong (fun u hu => by show pc (gr8 g u) = pc (nv g u); rw [gr8, if_pos hu])
theorem pc_ct {x n : Nat} (hn : n ≤ 64) (hx : x < 2 ^ n) : pc x = fb_ct (fun i => x.testBit i) n := by
  rw [pc_of n hn hx, pcb_bits]
  clear hx
  induction n with
  | zero => rfl
  | succ n ih => rw [fb_sm_succ, fb_ct_succ, ih (by omega), tb_if]
theorem JRn_bit (g : Nat → Int32) (R : Nat → Nat) (u : Nat) : ∀ k p : Nat, (JRn g R u k).testBit p = true ↔ ∃ j, j < k ∧ hold g u (R j) ∧ (R j).testBit p = true
  | 0, p => by
    rw [JRn, Nat.zero_testBit]
    exact ⟨fun h => absurd h (by decide), fun ⟨j, h, _⟩ => by omega⟩
  | k + 1, p => by
    have ih := JRn_bit g R u k p
    rw [JRn]
    by_cases h : hold g u (R k)
    · rw [if_pos h, Nat.testBit_or, Bool.or_eq_true, ih]
      constructor
      · rintro (⟨j, a, b⟩ | q)
        · exact ⟨j, by omega, b⟩
        · exact ⟨k, by omega, h, q⟩
      · rintro ⟨j, a, b, c⟩
        by_cases q : j = k
        · subst q; exact Or.inr c
        · exact Or.inl ⟨j, by omega, b, c⟩
    · rw [if_neg h, ih]
      constructor
      · rintro ⟨j, a, b⟩
        exact ⟨j, by omega, b⟩
      · rintro ⟨j, a, b, c⟩
        by_cases q : j = k
        · subst q; exact absurd b h
        · exact ⟨j, by omega, b, c⟩
theorem cvr_bit {g : Nat → Int32} {S u p : Nat} (hu : u < 8) : (cvr g S u).testBit p = true ↔ hold g u S ∧ S.testBit p = true := by
  unfold cvr
  by_cases h : hold g u S
  · rw [if_pos ⟨hu, h⟩]
    exact ⟨fun q => ⟨h, q⟩, fun q => q.2⟩
  · rw [if_neg (fun q => h q.2), Nat.zero_testBit]
    exact ⟨fun q => absurd q (by decide), fun q => absurd q.1 h⟩
/-- what users have by the roles of a choice is what the choice covers -/
theorem join_union {g : Nat → Int32} {R : Nat → Nat} {P : Nat → Prop} {n q : Nat} {Q : Nat → Nat} {u C : Nat} (hu : u < 8) (h : Cho R P n Q q) (hC : ∀ p, C.testBit p = true ↔ ∃ k, k < n ∧ P k ∧ (cvr g (R k) u).testBit p = true) : JRn g Q u q = C := by
  apply Nat.eq_of_testBit_eq
  intro p
  rw [Bool.eq_iff_iff, JRn_bit, hC]
  constructor
  · rintro ⟨j, a, b, c⟩
    obtain ⟨i, h1, h2, h3⟩ := (h.2.2.2 (Q j)).mp ⟨j, a, rfl⟩
    exact ⟨i, h1, h2, by rw [h3]; exact (cvr_bit hu).mpr ⟨b, c⟩⟩
  · rintro ⟨i, h1, h2, h3⟩
    obtain ⟨j, a, b⟩ := (h.2.2.2 (R i)).mpr ⟨i, h1, h2, rfl⟩
    obtain ⟨c1, c2⟩ := (cvr_bit hu).mp h3
    exact ⟨j, a, by rw [b]; exact c1, by rw [b]; exact c2⟩
theorem Cho_make {R : Nat → Nat} {P : Nat → Prop} {n : Nat} (hinc : Inc R n) (hR : ∀ i, i < n → R i < 4096) (p : Nat → Bool) (hp : ∀ i, i < n → (p i = true ↔ P i)) : ∀ k, k ≤ n → ∃ Q, Cho R P k Q (fb_ct p k) := by
  intro k
  induction k with
  | zero => intro _; exact ⟨fun _ => 0, Cho_0 R P _⟩
  | succ k ih =>
    intro hk
    obtain ⟨Q, h⟩ := ih (by omega)
    have hkn : k < n := by omega
    rw [fb_ct_succ]
    by_cases t : p k = true
    · have hnew := Cho_new hinc hkn h
      obtain ⟨e2, e5⟩ := app_inc h.2.1 hnew
      refine ⟨fun i => if i = fb_ct p k then R k else Q i, ?_⟩
      rw [if_pos t]
      refine Cho_take h ((hp k hkn).mp t) e2 (fun i hi => ?_) e5
      by_cases z : i = fb_ct p k
      · rw [if_pos z]; exact hR k hkn
      · rw [if_neg z]; exact h.2.2.1 i (by omega)
    · refine ⟨Q, ?_⟩
      rw [if_neg t, Nat.add_zero]
      exact Cho_skip h (fun q => t ((hp k hkn).mpr q))
theorem Cho_count {R : Nat → Nat} {P : Nat → Prop} {n q : Nat} {Q : Nat → Nat} (hinc : Inc R n) (hR : ∀ i, i < n → R i < 4096) (h : Cho R P n Q q) (p : Nat → Bool) (hp : ∀ i, i < n → (p i = true ↔ P i)) : q = fb_ct p n := by
  obtain ⟨Q0, h0⟩ := Cho_make hinc hR p hp n (Nat.le_refl n)
  exact (Cho_one h h0).1
/-- the cost of the roles of a choice is the choice's -/
theorem choice_cost {g : Nat → Int32} {R : Nat → Nat} {n q : Nat} {Q : Nat → Nat} (hn : n ≤ 64) (hinc : Inc R n) (hR : ∀ i, i < n → R i < 4096) (rc ec : Int32) {ch : Nat} (hch : ch < 2 ^ n) (h : Cho R (fun i => ch.testBit i = true) n Q q) : rc * nI q + ec * nI (fb_sm (EXt g Q q) 8) = cst g R n rc ec ch := by
  have e1 : q = pc ch := by
    rw [pc_ct hn hch]
    exact Cho_count hinc hR h (fun i => ch.testBit i) (fun i _ => Iff.rfl)
  have e2 : fb_sm (EXt g Q q) 8 = cntL (LF g R n ch) := fb_sm_cong (fun u hu => by
    show pc (an (nv g u) (JRn g Q u q)) = pc (an (gr8 g u) (CV g R ch n u))
    rw [gr8, if_pos hu, join_union hu h (fun p => CV_bit g R ch n u p)])
  rw [cst, ← e1, e2]
-- the calls
theorem v_leastCost {g o : Nat → Int32} (hg : VA g 8 4096) (ho : VA o 12 4096) {s n : Nat} {R : Nat → Nat} (hs : s ≤ 8) (hC : CandOK g o s n R) {fu : Nat} (hf : 20000 ≤ fu) (rc ec : Int32) (cs : Nat → Int32) (cn : Int32) (lc hc lg hg2 : Nat → Int64) :
    ∃ (cs' : Nat → Int32) (cn' : Int32) (lc' hc' lg' hg' : Nat → Int64), m_X0_leastCost fu g o rc ec (nI s) cs cn lc hc lg hg2 = some (if n ≤ 14 then .inr (cst g R n rc ec (BST g R n rc ec)) else .inl ISE, cs', cn', lc', hc', lg', hg') := by
  obtain ⟨cs', lc', hc', lg', hg', e0, hcs, hcov, hal⟩ := find_R hg ho hs hC hf cs cn lc hc lg hg2
  have hn := hC.1
  rw [m_X0_leastCost, e0, bnd6]
  by_cases h14 : n ≤ 14
  · have hN : 2 ^ n ≤ 2 ^ 14 := Nat.pow_le_pow_right (by decide) h14
    obtain ⟨lg2, hg3, eb, hal2⟩ := bestChoice_eq hg h14 hC.2.2.1 rc ec hcov hal hf
    have hbs := BST_lt g R n rc ec
    have ex := costOfChoice_eq hg h14 hC.2.2.1 rc ec hcov hal2 (ch := BST g R n rc ec) (by omega) (fu := fu) (by omega)
    refine ⟨cs', nI n, lc', hc', lg2, hg3, ?_⟩
    rw [if_pos h14, if_pos ((c14 hn).mpr h14), eb, bnd3]
    show bnd1 (m_X0_costOfChoice fu rc ec (nI n) lc' hc' lg2 hg3 (nI (BST g R n rc ec))) _ = _
    rw [ex, bnd1]
  · refine ⟨cs', nI n, lc', hc', lg', hg', ?_⟩
    rw [if_neg h14, if_neg (fun z => h14 ((c14 hn).mp z))]
theorem v_mineBest {g o : Nat → Int32} (hg : VA g 8 4096) (ho : VA o 12 4096) {s n : Nat} {R : Nat → Nat} (hs : s ≤ 8) (hC : CandOK g o s n R) {fu : Nat} (hf : 20000 ≤ fu) (rc ec : Int32) (rs : Nat → Int32) (rn : Int32) (cs : Nat → Int32) (cn : Int32) (lc hc lg hg2 : Nat → Int64) :
    ∃ (rs' : Nat → Int32) (rn' : Int32) (cs' : Nat → Int32) (cn' : Int32) (lc' hc' lg' hg' : Nat → Int64), m_X0_mineBest fu g o rc ec (nI s) rs rn cs cn lc hc lg hg2 = some (if n ≤ 14 then .inr (cst g R n rc ec (BST g R n rc ec)) else .inl ISE, rs', rn', cs', cn', lc', hc', lg', hg') ∧
      (¬ n ≤ 14 → rs' = rs ∧ rn' = rn) ∧ (n ≤ 14 → ∃ (q : Nat) (Q : Nat → Nat), rn' = nI q ∧ Cho R (fun i => (BST g R n rc ec).testBit i = true) n Q q ∧ ∀ i, i < q → rs' i = nI (Q i)) := by
  obtain ⟨cs', lc', hc', lg', hg', e0, hcs, hcov, hal⟩ := find_R hg ho hs hC hf cs cn lc hc lg hg2
  have hn := hC.1
  rw [m_X0_mineBest, e0, bnd6]
  by_cases h14 : n ≤ 14
  · have hN : 2 ^ n ≤ 2 ^ 14 := Nat.pow_le_pow_right (by decide) h14
    obtain ⟨lg2, hg3, eb, hal2⟩ := bestChoice_eq hg h14 hC.2.2.1 rc ec hcov hal hf
    have hbs := BST_lt g R n rc ec
    obtain ⟨rs', qx, Qx, ex, hcx, hrx⟩ := xlay_loop (o := o) hg h14 hC.2.1 hC.2.2.1 rc ec (nI s) hcs hcov hal2 (ch := BST g R n rc ec) (by omega) (fu := fu) (by omega) fu 0 0 (fun _ => 0) rs (Nat.zero_le n) (by omega) (Cho_0 _ _ _) (fun i h => by omega)
    refine ⟨rs', nI qx, cs', nI n, lc', hc', lg2, hg3, ?_, fun q => absurd h14 q, fun _ => ⟨qx, Qx, rfl, hcx, hrx⟩⟩
    rw [if_pos h14, if_pos ((c14 hn).mpr h14), eb, bnd3]
    exact ex
  · refine ⟨rs, rn, cs', nI n, lc', hc', lg', hg', ?_, fun _ => ⟨rfl, rfl⟩, fun q => absurd q h14⟩
    rw [if_neg h14, if_neg (fun z => h14 ((c14 hn).mp z))]
theorem v_costOf0 {g o : Nat → Int32} (hg : VA g 8 4096) (ho : VA o 12 4096) {s n : Nat} {R : Nat → Nat} (hs : s ≤ 8) (hC : CandOK g o s n R) {fu : Nat} (hf : 20000 ≤ fu) (rc ec : Int32) (cs : Nat → Int32) (cn : Int32) (lc hc lg hg2 : Nat → Int64) :
    ∃ (cs' : Nat → Int32) (cn' : Int32) (lc' hc' lg' hg' : Nat → Int64), m_X0_costOf fu g o rc ec (nI s) cs cn lc hc lg hg2 0 = some (if n ≤ 14 then .inr (ec * nI (fb_sm (GRt g) 8)) else .inl ISE, cs', cn', lc', hc', lg', hg') := by
  obtain ⟨cs', lc', hc', lg', hg', e0, hcs, hcov, hal⟩ := find_R hg ho hs hC hf cs cn lc hc lg hg2
  have hn := hC.1
  refine ⟨cs', nI n, lc', hc', lg', hg', ?_⟩
  rw [m_X0_costOf, e0, bnd6]
  by_cases h14 : n ≤ 14
  · have hp := Nat.two_pow_pos n
    have hN : 2 ^ n ≤ 2 ^ 14 := Nat.pow_le_pow_right (by decide) h14
    have ex := costOfChoice_eq hg h14 hC.2.2.1 rc ec hcov hal (ch := 0) (by decide) (fu := fu) (by omega)
    have ez : cst g R n rc ec 0 = ec * nI (fb_sm (GRt g) 8) := by
      rw [cst, pc_0, LF_z, cntL_gr8, nI_0, Int32.mul_zero, Int32.zero_add]
    rw [if_pos h14, if_pos ((c14 hn).mpr h14), end_eq h14, if_neg (by decide), if_pos (show (0 : Int32) < nI (2 ^ n) from (nI_ltI (a := 0) (b := 2 ^ n) (by decide) (by omega)).mpr hp)]
    show bnd1 (m_X0_costOfChoice fu rc ec (nI n) lc' hc' lg' hg' (nI 0)) _ = _
    rw [ex, bnd1, ez]
  · rw [if_neg h14, if_neg (fun z => h14 ((c14 hn).mp z))]
theorem v_costOf_neg {g o : Nat → Int32} (hg : VA g 8 4096) (ho : VA o 12 4096) {s n : Nat} {R : Nat → Nat} (hs : s ≤ 8) (hC : CandOK g o s n R) {fu : Nat} (hf : 20000 ≤ fu) (rc ec : Int32) (cs : Nat → Int32) (cn : Int32) (lc hc lg hg2 : Nat → Int64) :
    ∃ (cs' : Nat → Int32) (cn' : Int32) (lc' hc' lg' hg' : Nat → Int64), m_X0_costOf fu g o rc ec (nI s) cs cn lc hc lg hg2 (-1) = some (if n ≤ 14 then .inl IAE else .inl ISE, cs', cn', lc', hc', lg', hg') := by
  obtain ⟨cs', lc', hc', lg', hg', e0, hcs, hcov, hal⟩ := find_R hg ho hs hC hf cs cn lc hc lg hg2
  have hn := hC.1
  refine ⟨cs', nI n, lc', hc', lg', hg', ?_⟩
  rw [m_X0_costOf, e0, bnd6]
  by_cases h14 : n ≤ 14
  · rw [if_pos h14, if_pos ((c14 hn).mpr h14), if_pos (by decide)]
  · rw [if_neg h14, if_neg (fun z => h14 ((c14 hn).mp z))]
