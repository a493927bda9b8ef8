-- the class's answers, one by one
theorem usr_ok {u : Nat} (hu : u < 8) : ¬ m_X0_isUser (nI u) = 0 := by
  rw [m_X0_isUser, if_neg (nI_pos (by omega)), if_neg (fun q => by have := (c8 (k := u) (by omega)).mp q; omega)]
  exact n10
theorem v_permissions {g : Nat → Int32} (hg : VA g 8 4096) {u : Nat} (hu : u < 8) : m_X0_permissions g (nI u) = some (.inr (nI (nv g u))) := by
  rw [m_X0_permissions, if_neg (usr_ok hu), ixI hu (by decide), clI (by omega), (hg u hu).2]
theorem v_due {g : Nat → Int32} (hg : VA g 8 4096) (rm : Nat → Int32) (pe qt : Int32) {u : Nat} (hu : u < 8) {fu : Nat} (hf : 20000 ≤ fu) : m_X0_due fu g rm pe qt (nI u) = some (.inr (nI (LSP g rm pe (qt + 1) u))) := by
  rw [m_X0_due, if_neg (usr_ok hu), (lapse_eq hg rm pe (qt + 1) hu (by omega)).1, bnd1]
theorem LPn_sub (g rm : Nat → Int32) (pe qt : Int32) (u : Nat) : ∀ k i, (LPn g rm pe qt u k).testBit i = true → (nv g u).testBit i = true := by
  intro k
  induction k with
  | zero => intro i h; rw [LPn, Nat.zero_testBit] at h; cases h
  | succ k ih =>
    intro i h
    rw [LPn] at h
    split at h
    · next q =>
      rw [fb_bit_set, Bool.or_eq_true, decide_eq_true_eq] at h
      rcases h with h | h
      · exact ih i h
      · rw [h]; exact q.1
    · exact ih i h
theorem LSP_sub (g rm : Nat → Int32) (pe qt : Int32) (u : Nat) : an (LSP g rm pe qt u) (nv g u) = 0 := by
  rw [an_zero]
  apply Nat.eq_of_testBit_eq
  intro i
  rw [Nat.testBit_and]
  cases h : (LSP g rm pe qt u).testBit i
  · rw [Bool.and_false]
  · rw [LPn_sub g rm pe qt u 12 i h, Bool.and_self]
/-- the ends of the pairs in conflict of a user -/
def VSt (g op : Nat → Int32) (u p : Nat) : Nat := if (nv g u).testBit p = true then pc (nv op p &&& nv g u) else 0
theorem VSt_le {g : Nat → Int32} (hg : VA g 8 4096) (op : Nat → Int32) {u : Nat} (hu : u < 8) (p : Nat) : VSt g op u p ≤ 12 := by
  unfold VSt
  split
  · exact pc_lt 12 (by decide) (Nat.lt_of_le_of_lt Nat.and_le_right (hg u hu).1)
  · omega
theorem VS_le {g : Nat → Int32} (hg : VA g 8 4096) (op : Nat → Int32) {u : Nat} (hu : u < 8) (k : Nat) (hk : k ≤ 12) : fb_sm (VSt g op u) k ≤ 144 := by
  have := fb_sm_bound (f := VSt g op u) (c := 12) (n := k) (fun p _ => VSt_le hg op hu p)
  omega
theorem v_viol_loop {g op : Nat → Int32} (hg : VA g 8 4096) (ho : VA op 12 4096) {u : Nat} (hu : u < 8) (fu : Nat) : ∀ m k : Nat, k ≤ 12 → 12 < k + m → m_X0_violations_21 fu g op (nI u) m (nI (fb_sm (VSt g op u) k)) (nI k) = some (.inr (nI (fb_sm (VSt g op u) 12 / 2))) := by
  obtain ⟨ha, hb⟩ := hg u hu
  intro m
  induction m with
  | zero => intro k h1 h2; omega
  | succ m ih =>
    intro k h1 h2
    rw [m_X0_violations_21]
    by_cases hk : k = 12
    · subst hk
      have := VS_le hg op hu 12 (Nat.le_refl 12)
      rw [if_pos ((c12 (by decide)).mpr (Nat.le_refl 12)), show (2 : Int32) = nI 2 from rfl, pk_div (by omega) (by decide) (by decide)]
    · have hn : ¬ (12 : Int32) ≤ nI k := fun q => hk (by have := (c12 (k := k) (by omega)).mp q; omega)
      obtain ⟨hc, hd⟩ := ho k (by omega)
      have hx : nv op k &&& nv g u < 2 ^ 31 := Nat.lt_of_le_of_lt Nat.and_le_left (by omega)
      have := ih (k + 1) (by omega) (by omega)
      rw [fb_sm_succ, VSt] at this
      rw [if_neg hn, ixI hu (by decide), ixI (k := k) (by omega) (by decide), clI (k := u) (by omega), clI (k := k) (by omega), hb, hd, has_eq (by omega) (by omega), ifb, fa_and, bc32 hx, nI_add, nI_1]
      by_cases t : (nv g u).testBit k = true
      · rw [if_pos t]
        rw [if_pos t] at this
        exact this
      · rw [if_neg t]
        rw [if_neg t, Nat.add_zero] at this
        exact this
theorem v_violations {g op : Nat → Int32} (hg : VA g 8 4096) (ho : VA op 12 4096) {u : Nat} (hu : u < 8) {fu : Nat} (hf : 20000 ≤ fu) : m_X0_violations fu g op (nI u) = some (.inr (nI (fb_sm (VSt g op u) 12 / 2))) := by
  rw [m_X0_violations, if_neg (usr_ok hu)]
  exact v_viol_loop hg ho hu fu fu 0 (by decide) (by omega)
/-- the roles that are laid -/
def RO (rs : Nat → Int32) (q : Nat) (R : Nat → Nat) : Prop := q ≤ 255 ∧ ∀ i, i < q → R i < 4096 ∧ rs i = nI (R i)
theorem RO.tw {rs : Nat → Int32} {q : Nat} {R : Nat → Nat} (h : RO rs q R) : ∀ i, i < q → R i < 4096 ∧ rs i = nI (R i) ∧ rs i = nI (R i) := fun i hi => ⟨(h.2 i hi).1, (h.2 i hi).2, (h.2 i hi).2⟩
theorem v_joined {g rs : Nat → Int32} (hg : VA g 8 4096) {q : Nat} {R : Nat → Nat} (hR : RO rs q R) {u : Nat} (hu : u < 8) {fu : Nat} (hf : 20000 ≤ fu) : m_X0_joinedRoles fu g rs (nI q) (nI u) = some (nI (JRn g R u q)) := (join_eq hg hR.1 hR.tw hu (by omega)).1
theorem JR_lt (g : Nat → Int32) {rs : Nat → Int32} {q : Nat} {R : Nat → Nat} (hR : RO rs q R) (u : Nat) : JRn g R u q < 4096 := JRn_lt g u (fun i hi => (hR.2 i hi).1) q (Nat.le_refl q)
theorem v_byRoles {g rs : Nat → Int32} (hg : VA g 8 4096) {q : Nat} {R : Nat → Nat} (hR : RO rs q R) {u : Nat} (hu : u < 8) {fu : Nat} (hf : 20000 ≤ fu) : m_X0_byRoles fu g rs (nI q) (nI u) = some (.inr (nI (JRn g R u q))) := by
  rw [m_X0_byRoles, if_neg (usr_ok hu), v_joined hg hR hu hf, bnd1]
theorem v_exceptions {g rs : Nat → Int32} (hg : VA g 8 4096) {q : Nat} {R : Nat → Nat} (hR : RO rs q R) {u : Nat} (hu : u < 8) {fu : Nat} (hf : 20000 ≤ fu) : m_X0_exceptions fu g rs (nI q) (nI u) = some (.inr (nI (an (nv g u) (JRn g R u q)))) := by
  rw [m_X0_exceptions, if_neg (usr_ok hu), ixI hu (by decide), v_joined hg hR hu hf, bnd1, clI (by omega), (hg u hu).2, anI]
def RCt (g : Nat → Int32) (R : Nat → Nat) (u k : Nat) : Nat := if hold g u (R k) then 1 else 0
theorem v_rolesOf_loop {g rs : Nat → Int32} (hg : VA g 8 4096) {q : Nat} {R : Nat → Nat} (hR : RO rs q R) {u : Nat} (hu : u < 8) (fu : Nat) : ∀ m k : Nat, k ≤ q → q < k + m → m_X0_rolesOf_21 fu g rs (nI q) (nI u) m (nI (fb_sm (RCt g R u) k)) (nI k) = some (.inr (nI (fb_sm (RCt g R u) q))) := by
  obtain ⟨hq, hR⟩ := hR
  intro m
  induction m with
  | zero => intro k h1 h2; omega
  | succ m ih =>
    intro k h1 h2
    rw [m_X0_rolesOf_21]
    by_cases hk : k = q
    · subst hk
      rw [if_pos (nI_le (Nat.le_refl k) (by omega))]
    · have hn : ¬ nI q ≤ nI k := nI_ge (by omega) (by omega)
      obtain ⟨hr, e0⟩ := hR k (by omega)
      have := ih (k + 1) (by omega) (by omega)
      rw [fb_sm_succ, RCt] at this
      rw [if_neg hn, ixI (by omega) (by decide), clI (by omega), e0, holds_eq hg hu hr, bnd1, ifb, nI_1, nI_1]
      by_cases t : hold g u (R k)
      · rw [if_pos t]
        rw [if_pos t] at this
        exact this
      · rw [if_neg t]
        rw [if_neg t, Nat.add_zero] at this
        exact this
theorem v_rolesOf {g rs : Nat → Int32} (hg : VA g 8 4096) {q : Nat} {R : Nat → Nat} (hR : RO rs q R) {u : Nat} (hu : u < 8) {fu : Nat} (hf : 20000 ≤ fu) : m_X0_rolesOf fu g rs (nI q) (nI u) = some (.inr (nI (fb_sm (RCt g R u) q))) := by
  rw [m_X0_rolesOf, if_neg (usr_ok hu)]
  exact v_rolesOf_loop hg hR hu fu fu 0 (Nat.zero_le q) (by have := hR.1; omega)
theorem v_role {rs : Nat → Int32} {q : Nat} {R : Nat → Nat} (hR : RO rs q R) {k : Nat} (hk : k < q) : m_X0_role rs (nI q) (nI k) = some (.inr (nI (R k))) := by
  obtain ⟨hq, hR⟩ := hR
  rw [m_X0_role, if_neg (nI_pos (by omega)), if_pos ((nI_ltI (by omega) (by omega)).mpr hk), ixI (by omega) (by decide), clI (by omega), (hR k hk).2]
theorem v_role_out {rs : Nat → Int32} {q : Nat} (hq : q ≤ 255) : m_X0_role rs (nI q) (nI q) = some (.inl IOE) := by
  rw [m_X0_role, if_neg (nI_pos (by omega)), if_neg (fun z => by have := (nI_ltI (a := q) (b := q) (by omega) (by omega)).mp z; omega)]
def EXt (g : Nat → Int32) (R : Nat → Nat) (q u : Nat) : Nat := pc (an (nv g u) (JRn g R u q))
theorem v_cost_loop {g rs : Nat → Int32} (hg : VA g 8 4096) {q : Nat} {R : Nat → Nat} (hR : RO rs q R) (rc ec : Int32) {fu : Nat} (hf : 20000 ≤ fu) : ∀ m k : Nat, k ≤ 8 → 8 < k + m → m_X0_cost_4 fu g rc ec rs (nI q) m (nI (fb_sm (EXt g R q) k)) (nI k) = some (rc * nI q + ec * nI (fb_sm (EXt g R q) 8)) := by
  intro m
  induction m with
  | zero => intro k h1 h2; omega
  | succ m ih =>
    intro k h1 h2
    rw [m_X0_cost_4]
    by_cases hk : k = 8
    · subst hk
      rw [if_pos ((c8 (by decide)).mpr (Nat.le_refl 8))]
    · have hn : ¬ (8 : Int32) ≤ nI k := fun q => hk (by have := (c8 (k := k) (by omega)).mp q; omega)
      have hu : k < 8 := by omega
      obtain ⟨ha, hb⟩ := hg k hu
      have hl : an (nv g k) (JRn g R k q) < 2 ^ 12 := an_lt ha
      have := ih (k + 1) (by omega) (by omega)
      rw [fb_sm_succ] at this
      rw [if_neg hn, ixI hu (by decide), v_joined hg hR hu hf, bnd1, clI (by omega), hb, anI, bc32 (by omega), nI_add, nI_1]
      exact this
theorem v_cost {g rs : Nat → Int32} (hg : VA g 8 4096) {q : Nat} {R : Nat → Nat} (hR : RO rs q R) (rc ec : Int32) {fu : Nat} (hf : 20000 ≤ fu) : m_X0_cost fu g rc ec rs (nI q) = some (rc * nI q + ec * nI (fb_sm (EXt g R q) 8)) := v_cost_loop hg hR rc ec hf fu 0 (by decide) (by omega)
def GRt (g : Nat → Int32) (u : Nat) : Nat := pc (nv g u)
theorem v_grants {g : Nat → Int32} (hg : VA g 8 4096) {fu : Nat} (hf : 20000 ≤ fu) : m_X0_grants fu g = some (nI (fb_sm (GRt g) 8)) := grants_loop hg fu fu 0 (by decide) (by omega)
theorem GR_le {g : Nat → Int32} (hg : VA g 8 4096) (k : Nat) (hk : k ≤ 8) : fb_sm (GRt g) k ≤ 96 := by
  have := fb_sm_bound (f := GRt g) (c := 12) (n := k) (fun p hp => pc_lt 12 (by decide) (hg p (by omega)).1)
  omega
theorem set_ok {S : Nat} (hS : S < 4096) : ¬ m_X0_isPermissionSet (nI S) = 0 := by
  rw [m_X0_isPermissionSet, if_neg (nI_pos (by omega)), if_neg (fun q => by have := (rng_lt (N := 4095) (k := S) (by decide) (by omega) rfl).mp q; omega)]
  exact n10
theorem v_holders {g : Nat → Int32} (hg : VA g 8 4096) {S : Nat} (hS : S < 4096) {fu : Nat} (hf : 20000 ≤ fu) : m_X0_holders fu g (nI S) = some (.inr (nI (HO g S))) := by
  rw [m_X0_holders, if_neg (set_ok hS), holdersOf_eq hg hS (by omega), bnd1]
-- candidates
theorem find_R {g o : Nat → Int32} (hg : VA g 8 4096) (ho : VA o 12 4096) {s n : Nat} {R : Nat → Nat} (hs : s ≤ 8) (hC : CandOK g o s n R) {fu : Nat} (hf : 20000 ≤ fu) (cs : Nat → Int32) (cn : Int32) (lc hc lg hg2 : Nat → Int64) :
    ∃ (cs' : Nat → Int32) (lc' hc' lg' hg' : Nat → Int64), m_X0_findCandidates fu g o (nI s) cs cn lc hc lg hg2 = some (cs', nI n, lc', hc', lg', hg') ∧ (∀ k, k < n → cs' k = nI (R k)) ∧ CovOK g R n lc' hc' ∧ AllLeft g lg' hg' := by
  obtain ⟨cs', n', R', lc', hc', e, hC', h1, h2⟩ := findCandidates_eq hg ho (s := s) (by omega) (fu := fu) (by omega) cs cn lc hc lg hg2
  obtain ⟨rfl, hR⟩ := inc_ext hC.2.1 hC'.2.1 (fun y => (hC.2.2.2 y).trans (hC'.2.2.2 y).symm)
  refine ⟨cs', lc', hc', _, _, e, fun k hk => by rw [hR k hk]; exact h1 k hk, fun j hj => by rw [hR j hj]; exact h2 j hj, if_pos rfl, if_pos rfl⟩
theorem v_candidates {g o : Nat → Int32} (hg : VA g 8 4096) (ho : VA o 12 4096) {s n : Nat} {R : Nat → Nat} (hs : s ≤ 8) (hC : CandOK g o s n R) {fu : Nat} (hf : 20000 ≤ fu) (cs : Nat → Int32) (cn : Int32) (lc hc lg hg2 : Nat → Int64) :
    ∃ (cs' : Nat → Int32) (lc' hc' lg' hg' : Nat → Int64), m_X0_candidates fu g o (nI s) cs cn lc hc lg hg2 = some (nI n, cs', nI n, lc', hc', lg', hg') := by
  obtain ⟨cs', lc', hc', lg', hg', e, -⟩ := find_R hg ho hs hC hf cs cn lc hc lg hg2
  exact ⟨cs', lc', hc', lg', hg', by rw [m_X0_candidates, e, bnd6]⟩
theorem v_candidate {g o : Nat → Int32} (hg : VA g 8 4096) (ho : VA o 12 4096) {s n : Nat} {R : Nat → Nat} (hs : s ≤ 8) (hC : CandOK g o s n R) {fu : Nat} (hf : 20000 ≤ fu) (cs : Nat → Int32) (cn : Int32) (lc hc lg hg2 : Nat → Int64) {k : Nat} (hk : k < n) :
    ∃ (cs' : Nat → Int32) (cn' : Int32) (lc' hc' lg' hg' : Nat → Int64), m_X0_candidate fu g o (nI s) cs cn lc hc lg hg2 (nI k) = some (.inr (nI (R k)), cs', cn', lc', hc', lg', hg') := by
  obtain ⟨cs', lc', hc', lg', hg', e, h1, -⟩ := find_R hg ho hs hC hf cs cn lc hc lg hg2
  have hn := hC.1
  refine ⟨cs', nI n, lc', hc', lg', hg', ?_⟩
  rw [m_X0_candidate, e, bnd6, if_neg (nI_pos (by omega)), if_pos ((nI_ltI (by omega) (by omega)).mpr hk), ixI (by omega) (by decide), clI (by omega)]
  exact congrArg (fun x => some (Sum.inr x, cs', nI n, lc', hc', lg', hg')) (h1 k hk)
theorem v_candidate_out {g o : Nat → Int32} (hg : VA g 8 4096) (ho : VA o 12 4096) {s n : Nat} {R : Nat → Nat} (hs : s ≤ 8) (hC : CandOK g o s n R) {fu : Nat} (hf : 20000 ≤ fu) (cs : Nat → Int32) (cn : Int32) (lc hc lg hg2 : Nat → Int64) {a : Int32} (ha : a < 0 ∨ ¬ a < 0 ∧ ¬ a < nI n) :
    ∃ (cs' : Nat → Int32) (cn' : Int32) (lc' hc' lg' hg' : Nat → Int64), m_X0_candidate fu g o (nI s) cs cn lc hc lg hg2 a = some (.inl IOE, cs', cn', lc', hc', lg', hg') := by
  obtain ⟨cs', lc', hc', lg', hg', e, h1, -⟩ := find_R hg ho hs hC hf cs cn lc hc lg hg2
  refine ⟨cs', nI n, lc', hc', lg', hg', ?_⟩
  rw [m_X0_candidate, e, bnd6]
  rcases ha with h0 | ⟨h0, h00⟩
  · rw [if_pos h0]
  · rw [if_neg h0, if_neg h00]
