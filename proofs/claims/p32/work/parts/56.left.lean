-- roles that were just laid
theorem l_laid_loop {g op rs : Nat → Int32} (hg : VA g 8 4096) (ho : VA op 12 4096) {s n q : Nat} {R Q : Nat → Nat} (hs : s ≤ 8) (hC : CandOK g op s n R) (hQ : RO rs q Q) (hi : Inc Q q) {fu : Nat} (hf : 20000 ≤ fu) : ∀ (d c k m : Nat) (cs : Nat → Int32) (cn : Int32) (lc hc lg hg2 : Nat → Int64), c + d = n → d < m → k ≤ q → (∀ j, k ≤ j → j < q → ∃ i, c ≤ i ∧ i < n ∧ R i = Q j) →
    ∃ (cs' : Nat → Int32) (cn' : Int32) (lc' hc' lg' hg' : Nat → Int64), m_L_laid_4 fu g op (nI s) rs (nI q) m (nI k) (nI c) cs cn lc hc lg hg2 = some (1, cs', cn', lc', hc', lg', hg') := by
  have hn := hC.1
  have hq := hQ.1
  intro d
  induction d with
  | zero =>
    intro c k m cs cn lc hc lg hg2 h1 h2 h3 h4
    obtain ⟨m, rfl⟩ : ∃ m', m = m' + 1 := ⟨m - 1, by omega⟩
    obtain ⟨cs1, lc1, hc1, lg1, hg1, e1⟩ := v_candidates hg ho hs hC hf cs cn lc hc lg hg2
    have hk : k = q := by
      rcases Nat.lt_or_ge k q with z | z
      · obtain ⟨i, a, b, _⟩ := h4 k (Nat.le_refl k) z
        omega
      · omega
    subst hk
    refine ⟨cs1, nI n, lc1, hc1, lg1, hg1, ?_⟩
    rw [m_L_laid_4, e1, bnd7]
    dsimp only
    rw [if_pos (nI_le (by omega) (by omega)), m_X0_roles, if_pos rfl, v_role_out hq, bw0, if_pos (Or.inl rfl), wr1_l, if_pos rfl]
  | succ d ih =>
    intro c k m cs cn lc hc lg hg2 h1 h2 h3 h4
    obtain ⟨m, rfl⟩ : ∃ m', m = m' + 1 := ⟨m - 1, by omega⟩
    have hcn : c < n := by omega
    obtain ⟨cs1, lc1, hc1, lg1, hg1, e1⟩ := v_candidates hg ho hs hC hf cs cn lc hc lg hg2
    by_cases hk : k = q
    · subst hk
      refine ⟨cs1, nI n, lc1, hc1, lg1, hg1, ?_⟩
      rw [m_L_laid_4, e1, bnd7]
      dsimp only
      rw [if_neg (nI_ge hcn (by omega)), m_X0_roles, if_pos (nI_le (Nat.le_refl k) (by omega)), if_pos rfl, v_role_out hq, bw0, if_pos (Or.inl rfl), wr1_l, if_pos rfl]
    · have hkq : k < q := by omega
      obtain ⟨cs2, cn2, lc2, hc2, lg2, hg3, e2⟩ := v_candidate hg ho hs hC hf cs1 (nI n) lc1 hc1 lg1 hg1 hcn
      have hRc := hC.2.2.1 c hcn
      have hQk := (hQ.2 k hkq).1
      rw [m_L_laid_4, e1, bnd7]
      dsimp only
      rw [if_neg (nI_ge hcn (by omega)), m_X0_roles, if_neg (nI_ge hkq (by omega)), e2, br6, v_role hQ hkq, br0, nI_1, nI_1, Int32.add_zero]
      by_cases e : R c = Q k
      · rw [if_pos (show nI (R c) = nI (Q k) by rw [e])]
        refine ih (c + 1) (k + 1) m cs2 cn2 lc2 hc2 lg2 hg3 (by omega) (by omega) (by omega) (fun j hj hjq => ?_)
        obtain ⟨i, a, b, f⟩ := h4 j (by omega) hjq
        have hlt := hi k j (by omega) hjq
        refine ⟨i, ?_, b, f⟩
        rcases Nat.lt_or_ge c i with z | z
        · exact z
        · rw [show i = c by omega] at f; omega
      · rw [if_neg (fun z => e ((nI_eq (by omega) (by omega)).mp z))]
        refine ih (c + 1) k m cs2 cn2 lc2 hc2 lg2 hg3 (by omega) (by omega) h3 (fun j hj hjq => ?_)
        obtain ⟨i, a, b, f⟩ := h4 j hj hjq
        refine ⟨i, ?_, b, f⟩
        rcases Nat.lt_or_ge c i with z | z
        · exact z
        · have hic : i = c := by omega
          subst hic
          by_cases hjk : j = k
          · subst hjk; exact absurd f e
          · obtain ⟨i2, a2, b2, f2⟩ := h4 k (Nat.le_refl k) hkq
            have hlt := hi k j (by omega) hjq
            rcases Nat.lt_or_ge i i2 with w | w
            · have := hC.2.1 i i2 w b2; omega
            · rw [show i2 = i by omega] at f2; exact absurd f2 e
theorem l_laid {g op rs : Nat → Int32} (hg : VA g 8 4096) (ho : VA op 12 4096) {s n q : Nat} {R Q : Nat → Nat} (hs : s ≤ 8) (hC : CandOK g op s n R) (hQ : RO rs q Q) (hi : Inc Q q) (hsub : ∀ j, j < q → Im R n (Q j)) {fu : Nat} (hf : 20000 ≤ fu) (cs : Nat → Int32) (cn : Int32) (lc hc lg hg2 : Nat → Int64) :
    ∃ (cs' : Nat → Int32) (cn' : Int32) (lc' hc' lg' hg' : Nat → Int64), m_L_laid fu g op (nI s) rs (nI q) cs cn lc hc lg hg2 = some (1, cs', cn', lc', hc', lg', hg') := by
  have hn := hC.1
  exact l_laid_loop hg ho hs hC hQ hi hf n 0 0 fu cs cn lc hc lg hg2 (by omega) (by omega) (Nat.zero_le q) (fun j _ hj => by
    obtain ⟨i, a, b⟩ := hsub j hj
    exact ⟨i, Nat.zero_le i, a, b⟩)
-- what an act leaves
theorem cst_lt {g : Nat → Int32} (hg : VA g 8 4096) {R : Nat → Nat} {n r e ch : Nat} (hr : r ≤ 100) (he : e ≤ 100) (hn : n ≤ 14) (hch : ch < 2 ^ n) : r * pc ch + e * cntL (LF g R n ch) ≤ 11000 := by
  have h1 := pc_lt n (by omega) hch
  have h2 := cntL_le (L := LF g R n ch) (fun u _ => LF_lt hg R n ch u)
  have h3 := Nat.mul_le_mul hr (Nat.le_trans h1 hn)
  have h4 := Nat.mul_le_mul he h2
  omega
theorem ix40 {α : Type} {k : Nat} {A : Option α} (h : k < 40) : ix (nI k) 40 A = A := ixI h (by decide)
theorem l_left_mine {g op rs b4 b5 : Nat → Int32} (hg : VA g 8 4096) (ho : VA op 12 4096) {s n q r e x : Nat} {R Q : Nat → Nat} (hs : s ≤ 8) (hr : r ≤ 100) (he : e ≤ 100) (hC : CandOK g op s n R) (hQ : RO rs q Q) (hi : Inc Q q) (hsub : ∀ j, j < q → Im R n (Q j)) {fu : Nat} (hf : 20000 ≤ fu) (qt a2 : Int32) (h5 : b5 1 = nI e) (hx : nI r * nI q + nI e * nI (fb_sm (EXt g Q q) 8) = nI x) (hxg : x ≤ e * fb_sm (GRt g) 8) (cs : Nat → Int32) (cn : Int32) (lc hc lg hg2 : Nat → Int64) {k : Int32} (hk : (k = 10 ∧ (n ≤ 14 → cst g R n (nI r) (nI e) (BST g R n (nI r) (nI e)) ≤ nI x)) ∨ (k = 11 ∧ (n ≤ 14 → cst g R n (nI r) (nI e) (BST g R n (nI r) (nI e)) = nI x))) :
    ∃ (cs' : Nat → Int32) (cn' : Int32) (lc' hc' lg' hg' : Nat → Int64), m_L_left fu g op (nI r) (nI e) (nI s) qt rs (nI q) cs cn lc hc lg hg2 b4 b5 k a2 (nI x) = some (1, cs', cn', lc', hc', lg', hg') := by
  have hG := GR_le hg 8 (Nat.le_refl 8)
  have hG2 := Nat.mul_le_mul he hG
  obtain ⟨cs1, cn1, lc1, hc1, lg1, hg1, e1⟩ := v_leastCost hg ho hs hC hf (nI r) (nI e) cs cn lc hc lg hg2
  obtain ⟨cs2, cn2, lc2, hc2, lg2, hg3, e2⟩ := l_laid hg ho hs hC hQ hi hsub hf cs1 cn1 lc1 hc1 lg1 hg1
  have hcost := v_cost hg hQ (nI r) (nI e) hf
  have hgr := v_grants hg hf
  have c1 : Int32.toNatClampNeg 1 = 1 := by decide +kernel
  have hle : ¬ nI e * nI (fb_sm (GRt g) 8) < nI x := fun z => by
    rw [nI_mulI] at z
    have := (nI_ltI (by omega) (by omega)).mp z
    omega
  refine ⟨cs2, cn2, lc2, hc2, lg2, hg3, ?_⟩
  rw [m_L_left]
  rcases hk with ⟨rfl, hk⟩ | ⟨rfl, hk⟩
  · rw [if_pos rfl, e1]
    by_cases h14 : n ≤ 14
    · have hB := cst_lt hg (R := R) hr he h14 (BST_lt g R n (nI r) (nI e))
      have hpos : ¬ cst g R n (nI r) (nI e) (BST g R n (nI r) (nI e)) < 0 := by rw [cst_nI]; exact nI_pos (by omega)
      have hnl : ¬ nI x < cst g R n (nI r) (nI e) (BST g R n (nI r) (nI e)) := fun z => by
        have := hk h14
        rw [fa_le] at this; rw [fa_lt] at z; omega
      rw [if_pos h14, bw6, hcost, bnd1, hx, if_pos rfl, e2, bnd7]
      dsimp only
      rw [if_neg n10, wr1_r, if_neg hpos, if_neg (show ¬ (10 : Int32) = 11 by decide), if_neg hnl, hgr, bnd1, c1, h5, if_neg hle]
    · rw [if_neg h14, bw6, if_pos (Or.inl rfl), hcost, bnd1, hx, if_pos rfl, e2, bnd7]
      dsimp only
      rw [if_neg n10, wr1_l, if_pos (show (-4 : Int32) < 0 by decide), hgr, bnd1, c1, h5, if_neg hle]
  · rw [if_neg (show ¬ (11 : Int32) = 10 by decide), if_pos rfl, e1]
    by_cases h14 : n ≤ 14
    · have hB := cst_lt hg (R := R) hr he h14 (BST_lt g R n (nI r) (nI e))
      have hpos : ¬ cst g R n (nI r) (nI e) (BST g R n (nI r) (nI e)) < 0 := by rw [cst_nI]; exact nI_pos (by omega)
      rw [if_pos h14, bw6, hcost, bnd1, hx, if_pos rfl, e2, bnd7]
      dsimp only
      rw [if_neg n10, wr1_r, if_neg hpos, if_pos (hk h14).symm, hgr, bnd1, c1, h5, if_neg hle]
    · rw [if_neg h14, bw6, if_pos (Or.inl rfl), hcost, bnd1, hx, if_pos rfl, e2, bnd7]
      dsimp only
      rw [if_neg n10, wr1_l, if_pos (show (-4 : Int32) < 0 by decide), hgr, bnd1, c1, h5, if_neg hle]
theorem l_left_90 {g0 g op rs b4 b5 : Nat → Int32} (hg : VA g 8 4096) {D : Nat → Nat} (hD : ∀ u, u < 8 → D u < 4096) (hgg : ∀ u, u < 8 → nv g u = an (nv g0 u) (D u)) (h4 : ∀ u, u < 8 → b4 u = nI (nv g0 u) ∧ b4 (8 + u) = nI (D u)) (rc ec su qt rn a1 a2 : Int32) (hq : qt = b4 32 + 1) {fu : Nat} (hf : 20000 ≤ fu) (cs : Nat → Int32) (cn : Int32) (lc hc lg hg2 : Nat → Int64) : ∀ m k : Nat, k ≤ 8 → 8 < k + m → m_L_left_90 fu g op rc ec su qt rs rn b4 b5 a1 a2 (nI (fb_sm (fun u => pc (D u)) 8)) m (nI (fb_sm (fun u => pc (D u)) k)) (nI k) cs cn lc hc lg hg2 = some (1, cs, cn, lc, hc, lg, hg2) := by
  intro m
  induction m with
  | zero => intro k h1 h2; omega
  | succ m ih =>
    intro k h1 h2
    rw [m_L_left_90]
    by_cases hk : k = 8
    · subst hk
      rw [if_pos ((c8 (by decide)).mpr (Nat.le_refl 8)), if_pos rfl, m_X0_quarter, show Int32.toNatClampNeg 32 = 32 from by decide +kernel, if_pos hq]
    · have hk8 : k < 8 := by omega
      obtain ⟨a, b⟩ := h4 k hk8
      have := ih (k + 1) (by omega) (by omega)
      rw [fb_sm_succ] at this
      rw [if_neg (fun q => hk (by have := (c8 (k := k) (by omega)).mp q; omega)), show (8 : Int32) + nI k = nI (8 + k) from nI_add 8 k, ix40 (show 8 + k < 40 by omega), clI (k := 8 + k) (by omega), b, l_size hf (hD k hk8), bnd1, v_permissions hg hk8, br0, ix40 (show k < 40 by omega), clI (k := k) (by omega), a, anI, hgg k hk8, if_pos rfl, nI_add, nI_1]
      exact this
theorem l_left_9 {g0 g op rs b4 b5 : Nat → Int32} (hg : VA g 8 4096) {D : Nat → Nat} (hD : ∀ u, u < 8 → D u < 4096) (hgg : ∀ u, u < 8 → nv g u = an (nv g0 u) (D u)) (h4 : ∀ u, u < 8 → b4 u = nI (nv g0 u) ∧ b4 (8 + u) = nI (D u)) (rc ec su qt rn a2 : Int32) (hq : qt = b4 32 + 1) {fu : Nat} (hf : 20000 ≤ fu) (cs : Nat → Int32) (cn : Int32) (lc hc lg hg2 : Nat → Int64) : m_L_left fu g op rc ec su qt rs rn cs cn lc hc lg hg2 b4 b5 9 a2 (nI (fb_sm (fun u => pc (D u)) 8)) = some (1, cs, cn, lc, hc, lg, hg2) := by
  rw [m_L_left, if_neg (show ¬ (9 : Int32) = 10 by decide), if_neg (show ¬ (9 : Int32) = 11 by decide), if_pos rfl]
  exact l_left_90 hg hD hgg h4 rc ec su qt rn 9 a2 hq hf cs cn lc hc lg hg2 fu 0 (by decide) (by omega)
theorem l_left_12 {g op rs b4 b5 : Nat → Int32} (rc ec su qt a2 t : Int32) (h : t = b4 33) {fu : Nat} (cs : Nat → Int32) (cn : Int32) (lc hc lg hg2 : Nat → Int64) : m_L_left fu g op rc ec su qt rs 0 cs cn lc hc lg hg2 b4 b5 12 a2 t = some (1, cs, cn, lc, hc, lg, hg2) := by
  rw [m_L_left, if_neg (show ¬ (12 : Int32) = 10 by decide), if_neg (show ¬ (12 : Int32) = 11 by decide), if_neg (show ¬ (12 : Int32) = 9 by decide), if_pos rfl, show Int32.toNatClampNeg 33 = 33 from by decide +kernel, if_pos h, m_X0_roles, if_pos rfl]
theorem l_left_lo {g op rs b4 b5 : Nat → Int32} (rc ec su qt rn a2 t : Int32) {k : Nat} (hk : k ≤ 3) (h32 : qt = b4 32) (h33 : rn = b4 33) (ht : ¬ 12 < t) {fu : Nat} (cs : Nat → Int32) (cn : Int32) (lc hc lg hg2 : Nat → Int64) : m_L_left fu g op rc ec su qt rs rn cs cn lc hc lg hg2 b4 b5 (nI k) a2 t = some (1, cs, cn, lc, hc, lg, hg2) := by
  have ne : ∀ j : Nat, j < 2 ^ 31 → k ≠ j → ¬ nI k = nI j := fun j hj h z => h ((nI_eq (by omega) hj).mp z)
  rw [m_L_left, if_neg (show ¬ nI k = 10 from ne 10 (by decide) (by omega)), if_neg (show ¬ nI k = 11 from ne 11 (by decide) (by omega)), if_neg (show ¬ nI k = 9 from ne 9 (by decide) (by omega)), if_neg (show ¬ nI k = 12 from ne 12 (by decide) (by omega)), m_X0_quarter, show Int32.toNatClampNeg 32 = 32 from by decide +kernel, if_pos h32, m_X0_roles, show Int32.toNatClampNeg 33 = 33 from by decide +kernel, if_pos h33, if_pos (show nI k ≤ 3 from (nI_leI (b := 3) (by omega) (by decide)).mpr hk), if_neg ht]
theorem l_left_mid {g op rs b4 b5 : Nat → Int32} (hg : VA g 8 4096) (rc ec su qt rn a2 t : Int32) {k : Nat} (hk : 4 ≤ k) (hk8 : k ≤ 8) (h32 : qt = b4 32) (h33 : rn = b4 33) (h35 : b4 35 = nI (fb_sm (GRt g) 8)) {fu : Nat} (hf : 20000 ≤ fu) (cs : Nat → Int32) (cn : Int32) (lc hc lg hg2 : Nat → Int64) : m_L_left fu g op rc ec su qt rs rn cs cn lc hc lg hg2 b4 b5 (nI k) a2 t = some (1, cs, cn, lc, hc, lg, hg2) := by
  have ne : ∀ j : Nat, j < 2 ^ 31 → k ≠ j → ¬ nI k = nI j := fun j hj h z => h ((nI_eq (by omega) hj).mp z)
  rw [m_L_left, if_neg (show ¬ nI k = 10 from ne 10 (by decide) (by omega)), if_neg (show ¬ nI k = 11 from ne 11 (by decide) (by omega)), if_neg (show ¬ nI k = 9 from ne 9 (by decide) (by omega)), if_neg (show ¬ nI k = 12 from ne 12 (by decide) (by omega)), m_X0_quarter, show Int32.toNatClampNeg 32 = 32 from by decide +kernel, if_pos h32, m_X0_roles, show Int32.toNatClampNeg 33 = 33 from by decide +kernel, if_pos h33, if_neg (fun z => by have := (nI_leI (a := k) (b := 3) (by omega) (by decide)).mp z; omega), v_grants hg hf, bnd1, show Int32.toNatClampNeg 35 = 35 from by decide +kernel, if_pos h35.symm]
