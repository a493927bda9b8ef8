-- the check of the candidates
theorem wr1_l {c : Int32} {e : String} : wr1 c (.inl e) = c := rfl
theorem wr1_r {c r : Int32} : wr1 c (.inr r) = r := rfl
theorem isCq {g o : Nat → Int32} {s y : Nat} (hs : 1 ≤ s) : isC g o s y ↔ 1 ≤ y ∧ s ≤ pc (HO g y) ∧ SH g (HO g y) = y ∧ prop o y := by
  constructor
  · rintro ⟨V, h1, h2, h3, h4, h5, h6, rfl⟩
    rw [h3]
    exact ⟨by omega, h5, rfl, h6⟩
  · rintro ⟨h1, h2, h3, h4⟩
    have hV : HO g y ≠ 0 := fun q => by rw [q, pc_0] at h2; omega
    exact ⟨HO g y, by omega, HO_lt g y, by rw [h3], by rw [h3]; omega, h2, by rw [h3]; exact h4, h3⟩
theorem c4096 {k : Nat} (hk : k < 2 ^ 31) : (4096 : Int32) ≤ nI k ↔ 4096 ≤ k := nI_leI (a := 4096) (by decide) hk
theorem bit_cond {S k : Nat} (hS : S < 2 ^ 31) (hk : k < 31) : ((nI S >>> (nI k &&& 31)) &&& 1 = 1 ↔ S.testBit k = true) ∧ ((nI S >>> (nI k &&& 31)) &&& 1 = 0 ↔ ¬ S.testBit k = true) := by
  rw [shr1 hS hk, tb_div S k]
  rcases Nat.mod_two_eq_zero_or_one (S / 2 ^ k) with q | q
  · rw [q]; decide
  · rw [q]; decide
theorem propN_step {o : Nat → Int32} {S k : Nat} (hk : k < 12) : propN o S k ↔ (S.testBit k = true → nv o k &&& S = 0) ∧ propN o S (k + 1) := by
  constructor
  · intro h
    exact ⟨fun t => h k hk (Nat.le_refl k) t, fun p h1 h2 h3 => h p h1 (by omega) h3⟩
  · rintro ⟨h1, h2⟩ p h3 h4 h5
    by_cases e : p = k
    · subst e; exact h1 h5
    · exact h2 p h3 (by omega) h5
/-- a set without a pair in conflict: the walk over its permissions -/
theorem c1_inner {g op b1 : Nat → Int32} (ho : VA op 12 4096) (hb : ∀ i, i < 12 → b1 i = op i) (su a2 V v5 : Int32) {S : Nat} (hS : S < 4096) (fu : Nat) (cs : Nat → Int32) (cn : Int32) (lc hc lg hg : Nat → Int64) : ∀ d k m : Nat, k + d = 12 → propN op S k → m_L_candidates_11 fu g op su b1 a2 (m + d + 1) 1 V 0 v5 (nI S) (nI k) cs cn lc hc lg hg = m_L_candidates_11 fu g op su b1 a2 m 0 V (nI S) (v5 + 1) 0 0 cs cn lc hc lg hg := by
  intro d
  induction d with
  | zero =>
    intro k m h1 h2
    rw [m_L_candidates_11, if_neg (by decide), if_pos ((c12 (by omega)).mpr (by omega))]
  | succ d ih =>
    intro k m h1 h2
    have hk : k < 12 := by omega
    obtain ⟨h3, h4⟩ := (propN_step hk).mp h2
    have := ih (k + 1) m (by omega) h4
    obtain ⟨hc1, hc2⟩ := ho k hk
    have hx : S &&& nv op k < 2 ^ 31 := Nat.lt_of_le_of_lt Nat.and_le_left (by omega)
    rw [show m + (d + 1) + 1 = (m + d + 1) + 1 by omega, m_L_candidates_11, if_neg (by decide), if_neg (fun q => by have := (c12 (k := k) (by omega)).mp q; omega), ixI hk (by decide), clI (by omega), hb k hk, hc2, fa_and, nI_1]
    by_cases t : S.testBit k = true
    · rw [if_pos ((bit_cond (by omega) (by omega)).1.mpr t), if_pos ((nI_z hx).mpr (by rw [Nat.and_comm]; exact h3 t))]
      exact this
    · rw [if_neg (fun q => t ((bit_cond (by omega) (by omega)).1.mp q))]
      exact this
theorem c1_outer {g op b1 : Nat → Int32} (hg : VA g 8 4096) (ho : VA op 12 4096) (hb : ∀ i, i < 12 → b1 i = op i) {s n : Nat} {R : Nat → Nat} (hs1 : 1 ≤ s) (hs8 : s ≤ 8) (hC : CandOK g op s n R) {fu : Nat} (hf : 20000 ≤ fu) : ∀ (d k bf m : Nat) (cs : Nat → Int32) (cn : Int32) (lc hc lg hg2 : Nat → Int64), k + d = n → bf < 4096 → (∀ i, k ≤ i → i < n → bf < R i) →
    ∃ (cs' : Nat → Int32) (cn' : Int32) (lc' hc' lg' hg' : Nat → Int64), m_L_candidates_11 fu g op (nI s) b1 (nI s) (m + 14 * d + 1) 0 (nI n) (nI bf) (nI k) 0 0 cs cn lc hc lg hg2 = m_L_candidates_125 fu g op (nI s) b1 (nI s) fu 0 (nI n) 0 1 0 0 cs' cn' lc' hc' lg' hg' := by
  have hn := hC.1
  intro d
  induction d with
  | zero =>
    intro k bf m cs cn lc hc lg hg2 h1 h2 h3
    rw [m_L_candidates_11, if_pos rfl, if_pos (nI_le (by omega) (by omega))]
    exact ⟨cs, cn, lc, hc, lg, hg2, rfl⟩
  | succ d ih =>
    intro k bf m cs cn lc hc lg hg2 h1 h2 h3
    have hk : k < n := by omega
    have hR := hC.2.2.1 k hk
    obtain ⟨hy, hp, hsh, hpr⟩ := (isCq hs1).mp ((hC.2.2.2 (R k)).mp ⟨k, hk, rfl⟩)
    obtain ⟨cs1, cn1, lc1, hc1, lg1, hg1, e1⟩ := v_candidate hg ho hs8 hC hf cs cn lc hc lg hg2 hk
    have hHO := HO_lt g (R k)
    have hpc := pc_lt (n := HO g (R k)) 8 (by decide) hHO
    obtain ⟨cs2, cn2, lc2, hc2, lg2, hg3, e2⟩ := ih (k + 1) (R k) m cs1 cn1 lc1 hc1 lg1 hg1 (by omega) hR (fun i hi hi2 => hC.2.1 k i (by omega) hi2)
    refine ⟨cs2, cn2, lc2, hc2, lg2, hg3, ?_⟩
    rw [show m + 14 * (d + 1) + 1 = (m + 14 * d + 1 + 12 + 1) + 1 by omega, m_L_candidates_11, if_pos rfl, if_neg (nI_ge hk (by omega)), e1, br6, v_holders hg hR hf, br0, if_neg (nI_ge (h3 k (Nat.le_refl k) hk) (by omega)), if_neg (fun q => by have := (nI_ltI (a := 4095) (b := R k) (by decide) (by omega)).mp q; omega), l_shared hg hHO hf, bnd1, hsh, if_pos rfl, l_size hf (by omega), bnd1, if_pos (nI_le hp (by omega))]
    refine (c1_inner ho hb (nI s) (nI s) (nI n) (nI k) hR fu cs1 cn1 lc1 hc1 lg1 hg1 12 0 (m + 14 * d + 1) (by decide) (prop_0.mpr hpr)).trans ?_
    rw [nI_1]
    exact e2
-- the second loop: how many sets are due
theorem c2_inner {g op b1 : Nat → Int32} (ho : VA op 12 4096) (hb : ∀ i, i < 12 → b1 i = op i) (su a2 V c : Int32) {S : Nat} (hS : S < 4096) (fu : Nat) (cs : Nat → Int32) (cn : Int32) (lc hc lg hg : Nat → Int64) : ∀ d k M : Nat, k + d = 12 → d + 2 ≤ M →
    (propN op S k → ∃ M', M ≤ M' + 13 ∧ m_L_candidates_125 fu g op su b1 a2 M 1 V c (nI S) 1 (nI k) cs cn lc hc lg hg = m_L_candidates_125 fu g op su b1 a2 M' 0 V (c + 1) (nI (S + 1)) 0 0 cs cn lc hc lg hg) ∧
    (¬ propN op S k → ∃ M', M ≤ M' + 13 ∧ m_L_candidates_125 fu g op su b1 a2 M 1 V c (nI S) 1 (nI k) cs cn lc hc lg hg = m_L_candidates_125 fu g op su b1 a2 M' 0 V c (nI (S + 1)) 0 0 cs cn lc hc lg hg) := by
  have key : ∀ d k M : Nat, k + d = 12 → d + 2 ≤ M →
    (propN op S k → ∃ M', M ≤ M' + (d + 1) ∧ m_L_candidates_125 fu g op su b1 a2 M 1 V c (nI S) 1 (nI k) cs cn lc hc lg hg = m_L_candidates_125 fu g op su b1 a2 M' 0 V (c + 1) (nI (S + 1)) 0 0 cs cn lc hc lg hg) ∧
    (¬ propN op S k → ∃ M', M ≤ M' + (d + 1) ∧ m_L_candidates_125 fu g op su b1 a2 M 1 V c (nI S) 1 (nI k) cs cn lc hc lg hg = m_L_candidates_125 fu g op su b1 a2 M' 0 V c (nI (S + 1)) 0 0 cs cn lc hc lg hg) := by
    intro d
    induction d with
    | zero =>
      intro k M h1 h2
      obtain ⟨M, rfl⟩ : ∃ M', M = M' + 1 := ⟨M - 1, by omega⟩
      refine ⟨fun _ => ⟨M, by omega, ?_⟩, fun q => absurd (fun p h1 h2 => by omega) q⟩
      rw [m_L_candidates_125, if_neg (by decide), if_pos ((c12 (by omega)).mpr (by omega)), if_neg n10, nI_1]
    | succ d ih =>
      intro k M h1 h2
      have hk : k < 12 := by omega
      obtain ⟨M, rfl⟩ : ∃ M', M = M' + 1 := ⟨M - 1, by omega⟩
      obtain ⟨i1, i2⟩ := ih (k + 1) M (by omega) (by omega)
      obtain ⟨hc1, hc2⟩ := ho k hk
      have hx : S &&& nv op k < 2 ^ 31 := Nat.lt_of_le_of_lt Nat.and_le_left (by omega)
      rw [m_L_candidates_125, if_neg (by decide), if_neg (fun q => by have := (c12 (k := k) (by omega)).mp q; omega), if_neg n10, ixI hk (by decide), clI (by omega), hb k hk, hc2, fa_and, nI_1]
      by_cases t : S.testBit k = true
      · rw [if_neg (fun q => (bit_cond (by omega) (by omega)).2.mp q t)]
        by_cases z : nv op k &&& S = 0
        · have e : propN op S k ↔ propN op S (k + 1) := (propN_step hk).trans ⟨fun h => h.2, fun h => ⟨fun _ => z, h⟩⟩
          rw [if_pos ((nI_z hx).mpr (by rw [Nat.and_comm]; exact z)), e]
          exact ⟨fun h => by obtain ⟨M', a, b⟩ := i1 h; exact ⟨M', by omega, b⟩, fun h => by obtain ⟨M', a, b⟩ := i2 h; exact ⟨M', by omega, b⟩⟩
        · have e : ¬ propN op S k := fun h => z (((propN_step hk).mp h).1 t)
          rw [if_neg (fun q => z (by rw [Nat.and_comm]; exact (nI_z hx).mp q))]
          refine ⟨fun h => absurd h e, fun _ => ?_⟩
          obtain ⟨M, rfl⟩ : ∃ M', M = M' + 1 := ⟨M - 1, by omega⟩
          refine ⟨M, by omega, ?_⟩
          rw [m_L_candidates_125, if_neg (by decide), if_pos rfl, if_pos rfl, Int32.add_zero, nI_1]
          split <;> rfl
      · have e : propN op S k ↔ propN op S (k + 1) := (propN_step hk).trans ⟨fun h => h.2, fun h => ⟨fun q => absurd q t, h⟩⟩
        rw [if_pos ((bit_cond (by omega) (by omega)).2.mpr t), e]
        exact ⟨fun h => by obtain ⟨M', a, b⟩ := i1 h; exact ⟨M', by omega, b⟩, fun h => by obtain ⟨M', a, b⟩ := i2 h; exact ⟨M', by omega, b⟩⟩
  intro d k M h1 h2
  obtain ⟨a, b⟩ := key d k M h1 h2
  exact ⟨fun h => by obtain ⟨M', x, y⟩ := a h; exact ⟨M', by omega, y⟩, fun h => by obtain ⟨M', x, y⟩ := b h; exact ⟨M', by omega, y⟩⟩
theorem cnt_step {R : Nat → Nat} {n S c : Nat} (hi : Inc R n) (hc : c ≤ n) (h : ∀ i, i < n → (R i < S ↔ i < c)) : (Im R n S → c + 1 ≤ n ∧ ∀ i, i < n → (R i < S + 1 ↔ i < c + 1)) ∧ (¬ Im R n S → ∀ i, i < n → (R i < S + 1 ↔ i < c)) := by
  constructor
  · rintro ⟨j, hj, e⟩
    have h1 : ¬ j < c := fun q => by have := (h j hj).mpr q; omega
    have h2 : j = c := by
      rcases Nat.lt_or_ge c j with q | q
      · have a := hi c j q hj
        have b := (h c (by omega)).mp (by omega)
        omega
      · omega
    subst h2
    refine ⟨by omega, fun i hin => ?_⟩
    constructor
    · intro a
      rcases Nat.lt_or_ge j i with q | q
      · have := hi j i q hin; omega
      · omega
    · intro a
      rcases Nat.lt_or_ge i j with q | q
      · have := hi i j q hj; omega
      · rw [show i = j by omega]; omega
  · intro hno i hin
    rw [← h i hin]
    constructor
    · intro a
      rcases Nat.lt_or_ge (R i) S with q | q
      · exact q
      · exact absurd ⟨i, hin, by omega⟩ hno
    · intro a; omega
theorem c2_outer {g op b1 : Nat → Int32} (hg : VA g 8 4096) (ho : VA op 12 4096) (hb : ∀ i, i < 12 → b1 i = op i) {s n : Nat} {R : Nat → Nat} (hs1 : 1 ≤ s) (hs8 : s ≤ 8) (hC : CandOK g op s n R) {fu : Nat} (hf : 20000 ≤ fu) (cs : Nat → Int32) (cn : Int32) (lc hc lg hg2 : Nat → Int64) : ∀ (d S c M : Nat), S + d = 4096 → 1 ≤ S → 14 * d + 1 ≤ M → c ≤ n → (∀ i, i < n → (R i < S ↔ i < c)) →
    ∃ (cs' : Nat → Int32) (cn' : Int32) (lc' hc' lg' hg' : Nat → Int64), m_L_candidates_125 fu g op (nI s) b1 (nI s) M 0 (nI n) (nI c) (nI S) 0 0 cs cn lc hc lg hg2 = some (1, cs', cn', lc', hc', lg', hg') := by
  have hn := hC.1
  intro d
  induction d with
  | zero =>
    intro S c M h1 h2 h3 h4 h5
    obtain ⟨M, rfl⟩ : ∃ M', M = M' + 1 := ⟨M - 1, by omega⟩
    have hc : c = n := by
      rcases Nat.lt_or_ge c n with q | q
      · have := (h5 c q).mp (by have := hC.2.2.1 c q; omega)
        omega
      · omega
    subst hc
    obtain ⟨cs1, cn1, lc1, hc1, lg1, hg1, e1⟩ := v_candidate_out hg ho hs8 hC hf cs cn lc hc lg hg2 (a := nI c) (Or.inr ⟨nI_pos (by omega), fun z => by have := (nI_ltI (a := c) (b := c) (by omega) (by omega)).mp z; omega⟩)
    obtain ⟨cs2, cn2, lc2, hc2, lg2, hg3, e2⟩ := v_candidate_out hg ho hs8 hC hf cs1 cn1 lc1 hc1 lg1 hg1 (a := -1) (Or.inl (by decide))
    refine ⟨cs2, cn2, lc2, hc2, lg2, hg3, ?_⟩
    rw [m_L_candidates_125, if_pos rfl, if_pos ((c4096 (by omega)).mpr (by omega)), if_pos rfl, e1, bw6, if_pos (Or.inl rfl), wr1_l, if_pos rfl, e2, bw6, if_pos (Or.inl rfl), wr1_l, if_pos rfl]
  | succ d ih =>
    intro S c M h1 h2 h3 h4 h5
    obtain ⟨M, rfl⟩ : ∃ M', M = M' + 1 := ⟨M - 1, by omega⟩
    have hS : S < 4096 := by omega
    have hHO := HO_lt g S
    have hpc := pc_lt (n := HO g S) 8 (by decide) hHO
    obtain ⟨s1, s2⟩ := cnt_step hC.2.1 h4 h5
    have no : ∀ M', M ≤ M' + 13 → ¬ isC g op s S → ∃ (cs' : Nat → Int32) (cn' : Int32) (lc' hc' lg' hg' : Nat → Int64), m_L_candidates_125 fu g op (nI s) b1 (nI s) M' 0 (nI n) (nI c) (nI (S + 1)) 0 0 cs cn lc hc lg hg2 = some (1, cs', cn', lc', hc', lg', hg') := fun M' hM h =>
      ih (S + 1) c M' (by omega) (by omega) (by omega) h4 (s2 (fun q => h ((hC.2.2.2 S).mp q)))
    rw [m_L_candidates_125, if_pos rfl, if_neg (fun q => by have := (c4096 (k := S) (by omega)).mp q; omega), v_holders hg hS hf, br0, l_size hf (by omega), bnd1, l_shared hg hHO hf, bnd1]
    have out : ¬ isC g op s S → ∃ (cs' : Nat → Int32) (cn' : Int32) (lc' hc' lg' hg' : Nat → Int64), m_L_candidates_125 fu g op (nI s) b1 (nI s) M 1 (nI n) (nI c) (nI S) 0 0 cs cn lc hc lg hg2 = some (1, cs', cn', lc', hc', lg', hg') := fun h => by
      obtain ⟨M, rfl⟩ : ∃ M', M = M' + 1 := ⟨M - 1, by omega⟩
      rw [m_L_candidates_125, if_neg (by decide), if_neg (by decide), if_pos rfl, Int32.add_zero, nI_1]
      exact no M (by omega) h
    by_cases a1 : s ≤ pc (HO g S)
    · rw [if_neg (fun q => by have := (nI_ltI (a := pc (HO g S)) (b := s) (by omega) (by omega)).mp q; omega)]
      have hSH := SH_lt g (HO g S)
      by_cases a2 : SH g (HO g S) = S
      · rw [if_pos (show nI (SH g (HO g S)) = nI S by rw [a2])]
        obtain ⟨i1, i2⟩ := c2_inner (g := g) ho hb (nI s) (nI s) (nI n) (nI c) hS fu cs cn lc hc lg hg2 12 0 M (by decide) (by omega)
        rw [prop_0] at i1 i2
        by_cases a3 : prop op S
        · obtain ⟨M', hM, e⟩ := i1 a3
          have hyes : Im R n S := (hC.2.2.2 S).mpr ((isCq hs1).mpr ⟨h2, a1, a2, a3⟩)
          rw [nI_1] at e
          obtain ⟨cs', cn', lc', hc', lg', hg', e2⟩ := ih (S + 1) (c + 1) M' (by omega) (by omega) (by omega) (s1 hyes).1 (s1 hyes).2
          exact ⟨cs', cn', lc', hc', lg', hg', e.trans e2⟩
        · obtain ⟨M', hM, e⟩ := i2 a3
          obtain ⟨cs', cn', lc', hc', lg', hg', e2⟩ := no M' hM (fun h => a3 ((isCq hs1).mp h).2.2.2)
          exact ⟨cs', cn', lc', hc', lg', hg', e.trans e2⟩
      · rw [if_neg (fun q => a2 ((nI_eq (by omega) (by omega)).mp q))]
        exact out (fun h => a2 ((isCq hs1).mp h).2.2.1)
    · rw [if_pos ((nI_ltI (by omega) (by omega)).mpr (by omega))]
      exact out (fun h => a1 ((isCq hs1).mp h).2.1)
/-- the check of the candidates holds -/
theorem l_candidates {g op b1 : Nat → Int32} (hg : VA g 8 4096) (ho : VA op 12 4096) (hb : ∀ i, i < 12 → b1 i = op i) {s : Nat} (hs1 : 1 ≤ s) (hs8 : s ≤ 8) {fu : Nat} (hf : 60000 ≤ fu) (cs : Nat → Int32) (cn : Int32) (lc hc lg hg2 : Nat → Int64) :
    ∃ (cs' : Nat → Int32) (cn' : Int32) (lc' hc' lg' hg' : Nat → Int64), m_L_candidates fu g op (nI s) cs cn lc hc lg hg2 b1 (nI s) = some (1, cs', cn', lc', hc', lg', hg') := by
  obtain ⟨-, n, R, -, -, -, hC, -⟩ := findCandidates_eq hg ho (s := s) (by omega) (fu := fu) (by omega) cs cn lc hc lg hg2
  have hn := hC.1
  obtain ⟨cs1, lc1, hc1, lg1, hg1, e1⟩ := v_candidates hg ho hs8 hC (fu := fu) (by omega) cs cn lc hc lg hg2
  obtain ⟨cs2, cn2, lc2, hc2, lg2, hg3, e2⟩ := c1_outer hg ho hb hs1 hs8 hC (fu := fu) (by omega) n 0 0 (fu - (14 * n + 1)) cs1 (nI n) lc1 hc1 lg1 hg1 (by omega) (by decide) (fun i _ hi => ((isCq hs1).mp ((hC.2.2.2 (R i)).mp ⟨i, hi, rfl⟩)).1)
  rw [show fu - (14 * n + 1) + 14 * n + 1 = fu by omega] at e2
  obtain ⟨cs3, cn3, lc3, hc3, lg3, hg4, e3⟩ := c2_outer hg ho hb hs1 hs8 hC (fu := fu) (by omega) cs2 cn2 lc2 hc2 lg2 hg3 4095 1 0 fu (by decide) (by decide) (by omega) (Nat.zero_le n) (fun i hi => ⟨fun q => by have := ((isCq hs1).mp ((hC.2.2.2 (R i)).mp ⟨i, hi, rfl⟩)).1; omega, fun q => by omega⟩)
  refine ⟨cs3, cn3, lc3, hc3, lg3, hg4, ?_⟩
  rw [m_L_candidates, e1, bnd7]
  exact e2.trans e3
