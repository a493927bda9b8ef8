-- one call on both sides: what lapses, sets, conflicts
theorem or0 (x : Nat) : nI x ||| 0 = nI x := by rw [fa_lit 0, fa_or, Nat.or_zero]
def LPn (g rm : Nat → Int32) (pe qt : Int32) (u : Nat) : Nat → Nat
  | 0 => 0
  | k + 1 => if (nv g u).testBit k = true ∧ ¬ qt - rm (12 * u + k) < pe then LPn g rm pe qt u k ||| 2 ^ k else LPn g rm pe qt u k
theorem LPn_lt (g rm : Nat → Int32) (pe qt : Int32) (u : Nat) : ∀ k, k ≤ 12 → LPn g rm pe qt u k < 4096 := by
  intro k
  induction k with
  | zero => intro _; exact (by decide : 0 < 4096)
  | succ k ih =>
    intro h
    rw [LPn]
    split
    · exact set_bit_lt (ih (by omega)) (by omega)
    · exact ih (by omega)
theorem lapse_loop {g : Nat → Int32} (hg : VA g 8 4096) (rm : Nat → Int32) (pe qt : Int32) {u : Nat} (hu : u < 8) (fu : Nat) : ∀ m k : Nat, k ≤ 12 → 12 < k + m → m_X0_lapsingIn_5 fu g rm pe qt (nI u) m (nI (LPn g rm pe qt u k)) (nI k) = some (nI (LPn g rm pe qt u 12)) ∧ m_X1_old_5 fu g rm pe (nI u) qt m (nI (LPn g rm pe qt u k)) (nI k) = some (nI (LPn g rm pe qt u 12)) := by
  obtain ⟨ha, hb⟩ := hg u hu
  intro m
  induction m with
  | zero => intro k h1 h2; omega
  | succ m ih =>
    intro k h1 h2
    rw [m_X0_lapsingIn_5, m_X1_old_5]
    by_cases hk : k = 12
    · subst hk
      rw [if_pos ((c12 (by decide)).mpr (Nat.le_refl 12))]
      exact ⟨rfl, rfl⟩
    · have hn : ¬ (12 : Int32) ≤ nI k := fun q => hk (by have := (c12 (k := k) (by omega)).mp q; omega)
      have := ih (k + 1) (by omega) (by omega)
      rw [LPn] at this
      rw [if_neg hn, if_neg hn, gi_eq, gi1_eq, ixI (k := 12 * u + k) (by omega) (by decide), ixI (k := 12 * u + k) (by omega) (by decide), ixI hu (by decide), ixI hu (by decide), clI (k := 12 * u + k) (by omega), clI (k := u) (by omega), hb, has_eq (by omega) (by omega), isIn_eq (by omega) (by omega), ifb, ifb, nI_1, or0, bit1 (by omega), fa_or]
      by_cases t : (nv g u).testBit k = true
      · rw [if_pos t, if_pos t]
        by_cases l : qt - rm (12 * u + k) < pe
        · rw [if_pos l, if_pos l]
          rw [if_neg (fun q => q.2 l)] at this
          exact this
        · rw [if_neg l, if_neg l]
          rw [if_pos ⟨t, l⟩] at this
          exact this
      · rw [if_neg t, if_neg t]
        rw [if_neg (fun q => t q.1)] at this
        exact this
def LSP (g rm : Nat → Int32) (pe qt : Int32) (u : Nat) : Nat := LPn g rm pe qt u 12
theorem LSP_lt (g rm : Nat → Int32) (pe qt : Int32) (u : Nat) : LSP g rm pe qt u < 4096 := LPn_lt g rm pe qt u 12 (Nat.le_refl 12)
theorem lapse_eq {g : Nat → Int32} (hg : VA g 8 4096) (rm : Nat → Int32) (pe qt : Int32) {u : Nat} (hu : u < 8) {fu : Nat} (hf : 13 ≤ fu) : m_X0_lapsingIn fu g rm pe qt (nI u) = some (nI (LSP g rm pe qt u)) ∧ m_X1_old fu g rm pe (nI u) qt = some (nI (LSP g rm pe qt u)) := lapse_loop hg rm pe qt hu fu fu 0 (by decide) (by omega)
theorem s_due {g : Nat → Int32} (hg : VA g 8 4096) (rm : Nat → Int32) (pe qt th a : Int32) {fu : Nat} (hf : 13 ≤ fu) : ∃ r0 rb th', m_X0_due fu g rm pe qt a = some r0 ∧ m_X1_due fu g rm pe qt th a = some (rb, th') ∧ OC r0 rb th' IOE IOE := by
  rcases isUser_is a with ⟨h0, h1⟩ | ⟨u, hu, rfl, h0, h1⟩
  · refine ⟨.inl IOE, -1, 1, ?_, ?_, OC_1⟩
    · rw [m_X0_due, if_pos h0]
    · rw [m_X1_due, if_pos h1, hd1, bnd2, if_neg n10]
  · obtain ⟨e0, e1⟩ := lapse_eq hg rm pe (qt + 1) hu hf
    refine ⟨.inr (nI (LSP g rm pe (qt + 1) u)), nI (LSP g rm pe (qt + 1) u), 0, ?_, ?_, OC_0⟩
    · rw [m_X0_due, if_neg h0, e0, bnd1]
    · rw [m_X1_due, if_neg h1, hd0, bnd2, if_pos p00, e1, bnd1]
theorem quarter_loop (rm : Nat → Int32) (pe qt th : Int32) {fu : Nat} (hf : 40 ≤ fu) : ∀ (m k : Nat) (g : Nat → Int32) (v : Int32), VA g 8 4096 → k ≤ 8 → 8 < k + m → ∃ v' g', m_X0_nextQuarter_33 fu rm pe m v (nI k) g qt = some (.inr v', g', qt) ∧ m_X1_nextQuarter_37 fu rm pe m v (nI k) g qt th = some (v', g', qt, th) ∧ VA g' 8 4096 := by
  intro m
  induction m with
  | zero => intro k g v hg h1 h2; omega
  | succ m ih =>
    intro k g v hg h1 h2
    rw [m_X0_nextQuarter_33, m_X1_nextQuarter_37]
    by_cases hk : k = 8
    · subst hk
      rw [if_pos ((c8 (by decide)).mpr (Nat.le_refl 8))]
      exact ⟨v, g, rfl, if_pos ((c8 (by decide)).mpr (Nat.le_refl 8)), hg⟩
    · have hn : ¬ (8 : Int32) ≤ nI k := fun q => hk (by have := (c8 (k := k) (by omega)).mp q; omega)
      obtain ⟨ha, hb⟩ := hg k (by omega)
      obtain ⟨e0, e1⟩ := lapse_eq hg rm pe qt (u := k) (by omega) (fu := fu) (by omega)
      have hl := LSP_lt g rm pe qt k
      rw [if_neg hn, if_neg hn, e0, e1, bnd1, bnd1, size_eq (by omega) (by omega), bnd1, ixI (by omega) (by decide), ixI (by omega) (by decide), bc32 (by omega), clI (by omega), hb, anI, nI_1]
      exact ih (k + 1) _ _ (VA_upd hg (an_lt (k := 12) ha) (by decide)) (by omega) (by omega)
theorem s_nextQuarter {g : Nat → Int32} (hg : VA g 8 4096) (rm : Nat → Int32) (pe qt th : Int32) (hq : ∃ t, t ≤ 100 ∧ qt = nI t) {fu : Nat} (hf : 40 ≤ fu) : ∃ r0 g' qt' rb th', m_X0_nextQuarter fu g rm pe qt = some (r0, g', qt') ∧ m_X1_nextQuarter fu g rm pe qt th = some (rb, g', qt', th') ∧ VA g' 8 4096 ∧ (∃ t, t ≤ 100 ∧ qt' = nI t) ∧ OC r0 rb th' ISE ISE := by
  obtain ⟨t, ht, rfl⟩ := hq
  by_cases h : t < 100
  · obtain ⟨v, g', e0, e1, h'⟩ := quarter_loop rm pe (nI t + 1) 0 hf fu 0 g 0 hg (by decide) (by omega)
    refine ⟨.inr v, g', nI t + 1, v, 0, ?_, ?_, h', ⟨t + 1, by omega, nI_1 t⟩, OC_0⟩
    · rw [m_X0_nextQuarter, if_pos (show nI t < (100 : Int32) from (nI_ltI (b := 100) (by omega) (by decide)).mpr h)]
      exact e0
    · rw [m_X1_nextQuarter, if_neg (show ¬ nI t = (100 : Int32) from fun q => by have := (nI_eq (a := t) (b := 100) (by omega) (by decide)).mp q; omega), hd0, bnd2, if_pos p00]
      exact e1
  · have e : t = 100 := by omega
    subst e
    refine ⟨.inl ISE, g, nI 100, -1, 1, ?_, ?_, hg, ⟨100, ht, rfl⟩, OC_1⟩
    · rw [m_X0_nextQuarter, if_neg (show ¬ nI 100 < (100 : Int32) from by decide)]
    · rw [m_X1_nextQuarter, if_pos (show nI 100 = (100 : Int32) from rfl), hd1, bnd2, if_neg n10]
theorem viol_loop {g o : Nat → Int32} (hg : VA g 8 4096) (ho : VA o 12 4096) {u : Nat} (hu : u < 8) (th : Int32) {fu : Nat} (hf : 40 ≤ fu) : ∀ (m k : Nat) (v : Int32), k ≤ 12 → 12 < k + m → ∃ v', m_X0_violations_21 fu g o (nI u) m v (nI k) = some (.inr v') ∧ m_X1_violations_26 fu g o (nI u) m v (nI k) th = some (v', th) := by
  obtain ⟨ha, hb⟩ := hg u hu
  intro m
  induction m with
  | zero => intro k v h1 h2; omega
  | succ m ih =>
    intro k v h1 h2
    rw [m_X0_violations_21, m_X1_violations_26]
    by_cases hk : k = 12
    · subst hk
      rw [if_pos ((c12 (by decide)).mpr (Nat.le_refl 12))]
      exact ⟨v / 2, rfl, if_pos ((c12 (by decide)).mpr (Nat.le_refl 12))⟩
    · have hn : ¬ (12 : Int32) ≤ nI k := fun q => hk (by have := (c12 (k := k) (by omega)).mp q; omega)
      obtain ⟨hc, hd⟩ := ho k (by omega)
      have hx : nv o k &&& nv g u < 2 ^ 31 := Nat.lt_of_le_of_lt Nat.and_le_left (by omega)
      rw [if_neg hn, if_neg hn, ixI hu (by decide), ixI hu (by decide), ixI (k := k) (by omega) (by decide), ixI (k := k) (by omega) (by decide), clI (k := u) (by omega), clI (k := k) (by omega), hb, hd, has_eq (by omega) (by omega), isIn_eq (by omega) (by omega), ifb, ifb, fa_and, size_eq (by omega) hx, bc32 hx, bnd1, Int32.add_zero, nI_1]
      by_cases t : (nv g u).testBit k = true
      · rw [if_pos t, if_pos t]
        exact ih (k + 1) _ (by omega) (by omega)
      · rw [if_neg t, if_neg t]
        exact ih (k + 1) _ (by omega) (by omega)
theorem s_violations {g o : Nat → Int32} (hg : VA g 8 4096) (ho : VA o 12 4096) (th a : Int32) {fu : Nat} (hf : 40 ≤ fu) : ∃ r0 rb th', m_X0_violations fu g o a = some r0 ∧ m_X1_violations fu g o th a = some (rb, th') ∧ OC r0 rb th' IOE IOE := by
  rcases isUser_is a with ⟨h0, h1⟩ | ⟨u, hu, rfl, h0, h1⟩
  · refine ⟨.inl IOE, -1, 1, ?_, ?_, OC_1⟩
    · rw [m_X0_violations, if_pos h0]
    · rw [m_X1_violations, if_pos h1, hd1, bnd2, if_neg n10]
  · obtain ⟨v, e0, e1⟩ := viol_loop hg ho hu 0 hf fu 0 0 (by decide) (by omega)
    refine ⟨.inr v, v, 0, ?_, ?_, OC_0⟩
    · rw [m_X0_violations, if_neg h0]
      exact e0
    · rw [m_X1_violations, if_neg h1, hd0, bnd2, if_pos p00]
      exact e1
theorem grants_loop {g : Nat → Int32} (hg : VA g 8 4096) (fu : Nat) : ∀ m k : Nat, k ≤ 8 → 8 < k + m → m_X0_grants_4 fu g m (nI (fb_sm (fun u => pc (nv g u)) k)) (nI k) = some (nI (fb_sm (fun u => pc (nv g u)) 8)) := by
  intro m
  induction m with
  | zero => intro k h1 h2; omega
  | succ m ih =>
    intro k h1 h2
    rw [m_X0_grants_4]
    by_cases hk : k = 8
    · subst hk
      rw [if_pos ((c8 (by decide)).mpr (Nat.le_refl 8))]
    · have hn : ¬ (8 : Int32) ≤ nI k := fun q => hk (by have := (c8 (k := k) (by omega)).mp q; omega)
      obtain ⟨ha, hb⟩ := hg k (by omega)
      have := ih (k + 1) (by omega) (by omega)
      rw [fb_sm_succ] at this
      rw [if_neg hn, ixI (by omega) (by decide), clI (by omega), hb, bc32 (by omega), nI_add, nI_1]
      exact this
theorem s_grants {g : Nat → Int32} (hg : VA g 8 4096) (cv : Nat → Int32) (th : Int32) {fu : Nat} (hf : 40 ≤ fu) : ∃ r cv', m_X0_grants fu g = some r ∧ m_X1_grants fu g cv th = some (r, cv', 0) := by
  obtain ⟨cv', e, h⟩ := uncover_eq (fu := fu) (by omega) cv
  refine ⟨nI (fb_sm (fun u => pc (nv g u)) 8), cv', grants_loop hg fu fu 0 (by decide) (by omega), ?_⟩
  rw [m_X1_grants, e, bnd1, uncovered_eq hg h hf, bnd1, cntL, show fb_sm (fun u => pc (an (gr8 g u) 0)) 8 = fb_sm (fun u => pc (nv g u)) 8 from fb_sm_cong (fun k hk => by rw [an, Nat.and_zero, Nat.xor_zero, gr8, if_pos hk])]
theorem setg_loop {g : Nat → Int32} (qt : Int32) {u S x : Nat} (hu : u < 8) (hS : S < 4096) (hx : x < 4096) (c th : Int32) (fu : Nat) : ∀ (m k y : Nat) (hs rm : Nat → Int32), k ≤ 12 → 12 < k + m → (∀ w, upd hs u w = upd g u w) → hs u = nI y → y < 4096 → (∀ i, k ≤ i → y.testBit i = x.testBit i) →
    ∃ rm', m_X0_setGrants_44 fu qt (nI u) (nI S) m (nI x) (nI k) g rm = some (.inr (nI (pc (x ^^^ S))), upd g u (nI S), rm') ∧ m_X1_setGrants_54 fu qt (nI u) (nI S) m c (nI k) hs rm th = some (c, upd g u (nI S), rm', th) := by
  intro m
  induction m with
  | zero => intro k y hs rm h1 h2; omega
  | succ m ih =>
    intro k y hs rm h1 h2 h3 h4 h5 h6
    rw [m_X0_setGrants_44, m_X1_setGrants_54]
    by_cases hk : k = 12
    · subst hk
      have hp : (12 : Int32) ≤ nI 12 := (c12 (by decide)).mpr (Nat.le_refl 12)
      have hxs : x ^^^ S < 2 ^ 12 := Nat.xor_lt_two_pow hx hS
      rw [if_pos hp, if_pos hp, ixI hu (by decide), ixI hu (by decide), clI (by omega), fb_xorI, bc32 (by omega), h3]
      exact ⟨rm, rfl, rfl⟩
    · have hn : ¬ (12 : Int32) ≤ nI k := fun q => hk (by have := (c12 (k := k) (by omega)).mp q; omega)
      have hab : (an S y).testBit k = (an S x).testBit k := by rw [an_bit, an_bit, h6 k (Nat.le_refl k)]
      have l1 : an S x < 2 ^ 12 := an_lt hS
      have l2 : an S y < 2 ^ 12 := an_lt hS
      rw [if_neg hn, if_neg hn, ixI hu (by decide), clI (k := u) (by omega), h4, anI, anI, has_eq (by omega) (by omega), isIn_eq (by omega) (by omega), ifb, ifb, hab, nI_1]
      by_cases t : (an S x).testBit k = true
      · rw [if_pos t, if_pos t, m_X1_give, gi_eq, gi1_eq, ixI (k := 12 * u + k) (by omega) (by decide), ixI (k := 12 * u + k) (by omega) (by decide), ixI hu (by decide), bnd2, clI (k := 12 * u + k) (by omega), clI (k := u) (by omega), h4, bit1 (by omega), fa_or]
        refine ih (k + 1) (y ||| 2 ^ k) _ _ (by omega) (by omega) (fun w => by rw [fa_upd_twice]; exact h3 w) (if_pos rfl) (set_bit_lt h5 (by omega)) (fun i hi => ?_)
        rw [fb_bit_set, h6 i (by omega), decide_eq_false (by omega), Bool.or_false]
      · rw [if_neg t, if_neg t]
        exact ih (k + 1) y hs rm (by omega) (by omega) h3 h4 h5 (fun i hi => h6 i (by omega))
theorem s_setGrants {g : Nat → Int32} (hg : VA g 8 4096) (rm : Nat → Int32) (qt th a b : Int32) {fu : Nat} (hf : 40 ≤ fu) : ∃ r0 g' rm' rb th', m_X0_setGrants fu g rm qt a b = some (r0, g', rm') ∧ m_X1_setGrants fu g rm qt th a b = some (rb, g', rm', th') ∧ VA g' 8 4096 ∧ OC r0 rb th' IOE IAE := by
  rcases isUser_is a with ⟨h0, h1⟩ | ⟨u, hu, rfl, h0, h1⟩
  · refine ⟨.inl IOE, g, rm, -1, 1, ?_, ?_, hg, OC_1⟩
    · rw [m_X0_setGrants, if_pos h0]
    · rw [m_X1_setGrants, if_pos h1, hd1, bnd2, if_neg n10]
  · rcases isSet_is b with ⟨k0, k1⟩ | ⟨S, hS, rfl, k0, k1⟩
    · refine ⟨.inl IAE, g, rm, -1, 2, ?_, ?_, hg, OC_2⟩
      · rw [m_X0_setGrants, if_neg h0, if_pos k0]
      · rw [m_X1_setGrants, if_neg h1, if_pos k1, hd2, bnd2, if_neg n10]
    · obtain ⟨ha, hb⟩ := hg u hu
      have hxs : nv g u ^^^ S < 2 ^ 12 := Nat.xor_lt_two_pow ha hS
      obtain ⟨rm', e0, e1⟩ := setg_loop (g := g) qt hu hS ha (nI (pc (nv g u ^^^ S))) 0 fu fu 0 (nv g u) g rm (by decide) (by omega) (fun _ => rfl) hb ha (fun _ _ => rfl)
      refine ⟨.inr (nI (pc (nv g u ^^^ S))), upd g u (nI S), rm', nI (pc (nv g u ^^^ S)), 0, ?_, ?_, VA_upd hg hS (by decide), OC_0⟩
      · rw [m_X0_setGrants, if_neg h0, if_neg k0, ixI hu (by decide), clI (by omega), hb]
        exact e0
      · rw [m_X1_setGrants, if_neg h1, if_neg k1, hd0, bnd2, if_pos p00, ixI hu (by decide), clI (by omega), hb, fb_xorI, size_eq (by omega) (by omega), bnd1]
        exact e1
theorem cf_no {x q : Nat} (h : x.testBit q = false) : an x (2 ^ q) = x ∧ x ||| 2 ^ q = x ^^^ 2 ^ q := by
  constructor
  · apply Nat.eq_of_testBit_eq
    intro i
    rw [an_bit, Nat.testBit_two_pow]
    by_cases e : q = i
    · subst e; simp [h]
    · simp [e]
  · apply Nat.eq_of_testBit_eq
    intro i
    rw [fb_bit_set, fb_bit_flip]
    by_cases e : i = q
    · subst e; simp [h]
    · simp [e]
theorem cf_yes {x q : Nat} (h : x.testBit q = true) : an x (2 ^ q) = x ^^^ 2 ^ q ∧ x ||| 2 ^ q = x := by
  constructor
  · apply Nat.eq_of_testBit_eq
    intro i
    rw [an_bit, Nat.testBit_two_pow, fb_bit_flip]
    by_cases e : i = q
    · subst e; simp [h]
    · simp [e, Ne.symm e]
  · apply Nat.eq_of_testBit_eq
    intro i
    rw [fb_bit_set]
    by_cases e : i = q
    · subst e; simp [h]
    · simp [e]
def VO (o : Nat → Int32) : Prop := VA o 12 4096 ∧ ∀ i j, i < 12 → j < 12 → (nv o i).testBit j = (nv o j).testBit i
def XF (o : Nat → Int32) (p q : Nat) : Nat → Int32 := upd (upd o p (nI (nv o p ^^^ 2 ^ q))) q (nI (nv o q ^^^ 2 ^ p))
theorem VO_XF {o : Nat → Int32} (h : VO o) {p q : Nat} (hp : p < 12) (hq : q < 12) (hpq : p ≠ q) : VO (XF o p q) := by
  obtain ⟨ho, hs⟩ := h
  have lx : nv o p ^^^ 2 ^ q < 4096 := Nat.xor_lt_two_pow (n := 12) (ho p hp).1 (Nat.pow_lt_pow_right (by decide) hq)
  have ly : nv o q ^^^ 2 ^ p < 4096 := Nat.xor_lt_two_pow (n := 12) (ho q hq).1 (Nat.pow_lt_pow_right (by decide) hp)
  refine ⟨VA_upd (VA_upd ho lx (by decide)) ly (by decide), ?_⟩
  have hb : ∀ i j, (nv (XF o p q) i).testBit j = ((nv o i).testBit j ^^ decide ((i = p ∧ j = q) ∨ (i = q ∧ j = p))) := by
    intro i j
    by_cases e1 : i = q
    · subst e1
      rw [nv, XF, show upd (upd o p (nI (nv o p ^^^ 2 ^ i))) i (nI (nv o i ^^^ 2 ^ p)) i = nI (nv o i ^^^ 2 ^ p) from if_pos rfl, clI (by omega), fb_bit_flip]
      congr 1
      apply decide_eq_decide.mpr
      omega
    · by_cases e2 : i = p
      · subst e2
        rw [nv, XF, show upd (upd o i (nI (nv o i ^^^ 2 ^ q))) q (nI (nv o q ^^^ 2 ^ i)) i = nI (nv o i ^^^ 2 ^ q) from (if_neg e1).trans (if_pos rfl), clI (by omega), fb_bit_flip]
        congr 1
        apply decide_eq_decide.mpr
        omega
      · rw [nv, XF, show upd (upd o p (nI (nv o p ^^^ 2 ^ q))) q (nI (nv o q ^^^ 2 ^ p)) i = o i from (if_neg e1).trans (if_neg e2), decide_eq_false (by omega), Bool.xor_false]
        rfl
  intro i j hi hj
  rw [hb, hb, hs i j hi hj]
  congr 1
  apply decide_eq_decide.mpr
  omega
theorem s_setConflict {o : Nat → Int32} (h : VO o) (th a b c : Int32) (hc : c = 0 ∨ c = 1) : ∃ r0 o' rb th', m_X0_setConflict o a b c = some (r0, o') ∧ m_X1_setConflict o th a b c = some (rb, o', th') ∧ VO o' ∧ OC r0 rb th' IOE IAE := by
  rcases isPerm_is a with ⟨h0, h1⟩ | ⟨p, hp, rfl, h0, h1⟩
  · refine ⟨.inl IOE, o, 0, 1, ?_, ?_, h, OC_1⟩
    · rw [m_X0_setConflict, if_pos h0]
    · rw [m_X1_setConflict, if_pos h1, hd1, bnd2, if_neg n10]
  · rcases isPerm_is b with ⟨k0, k1⟩ | ⟨q, hq, rfl, k0, k1⟩
    · refine ⟨.inl IOE, o, 0, 1, ?_, ?_, h, OC_1⟩
      · rw [m_X0_setConflict, if_neg h0, if_pos k0]
      · rw [m_X1_setConflict, if_neg h1, if_pos k1, hd1, bnd2, if_neg n10]
    · by_cases e : p = q
      · subst e
        refine ⟨.inl IAE, o, 0, 2, ?_, ?_, h, OC_2⟩
        · rw [m_X0_setConflict, if_neg h0, if_neg k0, if_pos rfl]
        · rw [m_X1_setConflict, if_neg h1, if_neg k1, if_pos rfl, hd2, bnd2, if_neg n10]
      · have hne : ¬ nI p = nI q := fun z => e ((nI_eq (by omega) (by omega)).mp z)
        obtain ⟨ha, hb⟩ := h.1 p hp
        obtain ⟨ha2, hb2⟩ := h.1 q hq
        have hu : ∀ w, upd o p w q = o q := fun w => if_neg (Ne.symm e)
        have e0 : m_X0_setConflict o (nI p) (nI q) c = if c = 0 then some (.inr (if (nv o p).testBit q = true then 1 else 0), upd (upd o p (nI (an (nv o p) (2 ^ q)))) q (nI (an (nv o q) (2 ^ p)))) else some (.inr (if (nv o p).testBit q = true then 1 else 0), upd (upd o p (nI (nv o p ||| 2 ^ q))) q (nI (nv o q ||| 2 ^ p))) := by
          rw [m_X0_setConflict, if_neg h0, if_neg k0, if_neg hne, ixI hp (by decide), ixI hq (by decide), ixI hq (by decide), clI (k := p) (by omega), clI (k := q) (by omega), hu, hu, hb, hb2, has_eq (by omega) (by omega), bit1 (by omega), bit1 (by omega), anI, anI, fa_or, fa_or]
        have e1 : m_X1_setConflict o th (nI p) (nI q) c = if (if (nv o p).testBit q = true then (1 : Int32) else 0) = c then some ((if (nv o p).testBit q = true then 1 else 0), o, 0) else some ((if (nv o p).testBit q = true then 1 else 0), XF o p q, 0) := by
          rw [m_X1_setConflict, if_neg h1, if_neg k1, if_neg hne, hd0, bnd2, if_pos p00, ixI hp (by decide), ixI hq (by decide), clI (k := p) (by omega), clI (k := q) (by omega), hu, hb, hb2, isIn_eq (by omega) (by omega), bit1 (by omega), bit1 (by omega), fb_xorI, fb_xorI, XF]
        have hsame : upd (upd o p (nI (nv o p))) q (nI (nv o q)) = o := by
          rw [fa_upd_same (i := p) hb, fa_upd_same (i := q) hb2]
        by_cases t : (nv o p).testBit q = true
        · have t2 : (nv o q).testBit p = true := (h.2 q p hq hp).trans t
          rw [if_pos t] at e0 e1
          rcases hc with rfl | rfl
          · refine ⟨_, _, _, _, e0.trans (if_pos rfl), e1.trans ?_, ?_, OC_0⟩
            · rw [if_neg n10, (cf_yes t).1, (cf_yes t2).1, XF]
            · rw [(cf_yes t).1, (cf_yes t2).1]
              exact VO_XF h hp hq e
          · refine ⟨_, _, _, _, e0.trans (if_neg n10), e1.trans ?_, ?_, OC_0⟩
            · rw [if_pos rfl, (cf_yes t).2, (cf_yes t2).2, hsame]
            · rw [(cf_yes t).2, (cf_yes t2).2, hsame]
              exact h
        · have t1 : (nv o p).testBit q = false := by simpa using t
          have t2 : (nv o q).testBit p = false := (h.2 q p hq hp).trans t1
          rw [if_neg t] at e0 e1
          rcases hc with rfl | rfl
          · refine ⟨_, _, _, _, e0.trans (if_pos rfl), e1.trans ?_, ?_, OC_0⟩
            · rw [if_pos rfl, (cf_no t1).1, (cf_no t2).1, hsame]
            · rw [(cf_no t1).1, (cf_no t2).1, hsame]
              exact h
          · refine ⟨_, _, _, _, e0.trans (if_neg n10), e1.trans ?_, ?_, OC_0⟩
            · rw [if_neg (by decide), (cf_no t1).2, (cf_no t2).2, XF]
            · rw [(cf_no t1).2, (cf_no t2).2]
              exact VO_XF h hp hq e
