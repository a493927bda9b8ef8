-- one call on both sides: roles
def VR (rs la : Nat → Int32) (rn : Int32) (q : Nat) (R : Nat → Nat) : Prop := q ≤ 255 ∧ rn = nI q ∧ ∀ i, i < q → R i < 4096 ∧ rs i = nI (R i) ∧ la i = nI (R i)
theorem s_dropRoles (mn th : Int32) : m_X1_dropRoles mn th = some (mn, 0, 0) := by rw [m_X1_dropRoles, m_X1_plain, bnd2]
theorem s_roles (mn th : Int32) : m_X1_roles mn th = some (mn, 0) := by rw [m_X1_roles, m_X1_plain, bnd2]
theorem s_quarter (ti th : Int32) : m_X1_quarter ti th = some (ti, 0) := by rw [m_X1_quarter, m_X1_plain, bnd2]
theorem rol_is {q : Nat} (hq : q ≤ 255) (a : Int32) : (m_X1_between a 0 (nI q - 1) = 0 ∧ (a < 0 ∨ ¬ a < 0 ∧ ¬ a < nI q)) ∨ ∃ u, u < q ∧ a = nI u ∧ ¬ m_X1_between a 0 (nI q - 1) = 0 ∧ ¬ a < 0 ∧ a < nI q := by
  by_cases h : a < 0
  · exact Or.inl ⟨by rw [m_X1_between, if_pos h], Or.inl h⟩
  · obtain ⟨u, hu, rfl⟩ := nI_of h
    cases q with
    | zero =>
      refine Or.inl ⟨?_, Or.inr ⟨h, fun z => by have := (nI_ltI hu (by decide)).mp z; omega⟩⟩
      have hl : nI 0 - 1 < nI u := by
        rw [fa_lt, nI_toInt hu, show (nI 0 - 1).toInt = -1 from by decide +kernel]
        omega
      rw [m_X1_between, if_neg h, if_pos hl]
    | succ p =>
      rw [nI_pred]
      by_cases l : p < u
      · refine Or.inl ⟨?_, Or.inr ⟨h, fun z => by have := (nI_ltI hu (by omega)).mp z; omega⟩⟩
        rw [m_X1_between, if_neg h, if_pos ((nI_ltI (by omega) hu).mpr l)]
      · refine Or.inr ⟨u, by omega, rfl, ?_, h, (nI_ltI hu (by omega)).mpr (by omega)⟩
        rw [m_X1_between, if_neg h, if_neg (fun z => l ((nI_ltI (by omega) hu).mp z))]
        exact n10
theorem s_role {rs la : Nat → Int32} {rn : Int32} {q : Nat} {R : Nat → Nat} (hv : VR rs la rn q R) (th a : Int32) : ∃ r0 rb th', m_X0_role rs rn a = some r0 ∧ m_X1_role la rn th a = some (rb, th') ∧ OC r0 rb th' IOE IOE := by
  obtain ⟨hq, rfl, hR⟩ := hv
  rcases rol_is hq a with ⟨h1, h0⟩ | ⟨u, hu, rfl, h1, h0, h00⟩
  · refine ⟨.inl IOE, -1, 1, ?_, ?_, OC_1⟩
    · rcases h0 with h0 | ⟨h0, h00⟩
      · rw [m_X0_role, if_pos h0]
      · rw [m_X0_role, if_neg h0, if_neg h00]
    · rw [m_X1_role, m_X1_isRole, if_pos h1, hd1, bnd2, if_neg n10]
  · obtain ⟨_, e0, e1⟩ := hR u hu
    refine ⟨.inr (nI (R u)), nI (R u), 0, ?_, ?_, OC_0⟩
    · rw [m_X0_role, if_neg h0, if_pos h00, ixI (by omega) (by decide), clI (by omega), e0]
    · rw [m_X1_role, m_X1_isRole, if_neg h1, hd0, bnd2, if_pos p00, ixI (by omega) (by decide), clI (by omega), e1]
def JRn (g : Nat → Int32) (R : Nat → Nat) (u : Nat) : Nat → Nat
  | 0 => 0
  | k + 1 => if hold g u (R k) then JRn g R u k ||| R k else JRn g R u k
theorem JRn_lt (g : Nat → Int32) {R : Nat → Nat} (u : Nat) {q : Nat} (hR : ∀ i, i < q → R i < 4096) : ∀ k, k ≤ q → JRn g R u k < 4096 := by
  intro k
  induction k with
  | zero => intro _; exact (by decide : 0 < 4096)
  | succ k ih =>
    intro h
    rw [JRn]
    split
    · exact Nat.or_lt_two_pow (n := 12) (ih (by omega)) (hR k (by omega))
    · exact ih (by omega)
theorem join_loop {g : Nat → Int32} (hg : VA g 8 4096) {rs la : Nat → Int32} {q : Nat} {R : Nat → Nat} (hq : q ≤ 255) (hR : ∀ i, i < q → R i < 4096 ∧ rs i = nI (R i) ∧ la i = nI (R i)) {u : Nat} (hu : u < 8) (fu : Nat) : ∀ m k : Nat, k ≤ q → q < k + m → m_X0_joinedRoles_4 fu g rs (nI q) (nI u) m (nI (JRn g R u k)) (nI k) = some (nI (JRn g R u q)) ∧ m_X1_gotten_4 fu g la (nI q) (nI u) m (nI (JRn g R u k)) (nI k) = some (nI (JRn g R u q)) := by
  intro m
  induction m with
  | zero => intro k h1 h2; omega
  | succ m ih =>
    intro k h1 h2
    rw [m_X0_joinedRoles_4, m_X1_gotten_4]
    by_cases hk : k = q
    · subst hk
      rw [if_pos (nI_le (Nat.le_refl k) (by omega)), if_pos (nI_le (Nat.le_refl k) (by omega))]
      exact ⟨rfl, rfl⟩
    · have hn : ¬ nI q ≤ nI k := nI_ge (by omega) (by omega)
      obtain ⟨hr, e0, e1⟩ := hR k (by omega)
      have := ih (k + 1) (by omega) (by omega)
      rw [JRn] at this
      rw [if_neg hn, if_neg hn, ixI (by omega) (by decide), ixI (by omega) (by decide), clI (by omega), e0, e1, holds_eq hg hu hr, isWithin_eq hg hu hr, bnd1, bnd1, ifb, ifb, or0, fa_or, nI_1]
      by_cases t : hold g u (R k)
      · rw [if_pos t, if_pos t]
        rw [if_pos t] at this
        exact this
      · rw [if_neg t, if_neg t]
        rw [if_neg t] at this
        exact this
theorem join_eq {g : Nat → Int32} (hg : VA g 8 4096) {rs la : Nat → Int32} {q : Nat} {R : Nat → Nat} (hq : q ≤ 255) (hR : ∀ i, i < q → R i < 4096 ∧ rs i = nI (R i) ∧ la i = nI (R i)) {u : Nat} (hu : u < 8) {fu : Nat} (hf : 256 ≤ fu) : m_X0_joinedRoles fu g rs (nI q) (nI u) = some (nI (JRn g R u q)) ∧ m_X1_gotten fu g la (nI q) (nI u) = some (nI (JRn g R u q)) := join_loop hg hq hR hu fu fu 0 (Nat.zero_le q) (by omega)
theorem s_byRoles {g : Nat → Int32} (hg : VA g 8 4096) {rs la : Nat → Int32} {rn : Int32} {q : Nat} {R : Nat → Nat} (hv : VR rs la rn q R) (th a : Int32) {fu : Nat} (hf : 256 ≤ fu) : ∃ r0 rb th', m_X0_byRoles fu g rs rn a = some r0 ∧ m_X1_byRoles fu g la rn th a = some (rb, th') ∧ OC r0 rb th' IOE IOE := by
  obtain ⟨hq, rfl, hR⟩ := hv
  rcases isUser_is a with ⟨h0, h1⟩ | ⟨u, hu, rfl, h0, h1⟩
  · refine ⟨.inl IOE, -1, 1, ?_, ?_, OC_1⟩
    · rw [m_X0_byRoles, if_pos h0]
    · rw [m_X1_byRoles, if_pos h1, hd1, bnd2, if_neg n10]
  · obtain ⟨e0, e1⟩ := join_eq hg hq hR hu hf
    refine ⟨.inr (nI (JRn g R u q)), nI (JRn g R u q), 0, ?_, ?_, OC_0⟩
    · rw [m_X0_byRoles, if_neg h0, e0, bnd1]
    · rw [m_X1_byRoles, if_neg h1, hd0, bnd2, if_pos p00, e1, bnd1]
theorem s_exceptions {g : Nat → Int32} (hg : VA g 8 4096) {rs la : Nat → Int32} {rn : Int32} {q : Nat} {R : Nat → Nat} (hv : VR rs la rn q R) (th a : Int32) {fu : Nat} (hf : 256 ≤ fu) : ∃ r0 rb th', m_X0_exceptions fu g rs rn a = some r0 ∧ m_X1_exceptions fu g la rn th a = some (rb, th') ∧ OC r0 rb th' IOE IOE := by
  obtain ⟨hq, rfl, hR⟩ := hv
  rcases isUser_is a with ⟨h0, h1⟩ | ⟨u, hu, rfl, h0, h1⟩
  · refine ⟨.inl IOE, -1, 1, ?_, ?_, OC_1⟩
    · rw [m_X0_exceptions, if_pos h0]
    · rw [m_X1_exceptions, if_pos h1, hd1, bnd2, if_neg n10]
  · obtain ⟨e0, e1⟩ := join_eq hg hq hR hu hf
    refine ⟨.inr (g u &&& (nI (JRn g R u q) ^^^ (-1))), g u &&& (nI (JRn g R u q) ^^^ (-1)), 0, ?_, ?_, OC_0⟩
    · rw [m_X0_exceptions, if_neg h0, ixI hu (by decide), e0, bnd1, clI (by omega)]
    · rw [m_X1_exceptions, if_neg h1, hd0, bnd2, if_pos p00, ixI hu (by decide), e1, bnd1, clI (by omega)]
theorem rolesOf_loop {g : Nat → Int32} (hg : VA g 8 4096) {rs la : Nat → Int32} {q : Nat} {R : Nat → Nat} (hq : q ≤ 255) (hR : ∀ i, i < q → R i < 4096 ∧ rs i = nI (R i) ∧ la i = nI (R i)) {u : Nat} (hu : u < 8) (th : Int32) (fu : Nat) : ∀ (m k : Nat) (v : Int32), k ≤ q → q < k + m → ∃ v', m_X0_rolesOf_21 fu g rs (nI q) (nI u) m v (nI k) = some (.inr v') ∧ m_X1_rolesOf_26 fu g la (nI q) (nI u) m v (nI k) th = some (v', th) := by
  intro m
  induction m with
  | zero => intro k v h1 h2; omega
  | succ m ih =>
    intro k v h1 h2
    rw [m_X0_rolesOf_21, m_X1_rolesOf_26]
    by_cases hk : k = q
    · subst hk
      exact ⟨v, if_pos (nI_le (Nat.le_refl k) (by omega)), if_pos (nI_le (Nat.le_refl k) (by omega))⟩
    · have hn : ¬ nI q ≤ nI k := nI_ge (by omega) (by omega)
      obtain ⟨hr, e0, e1⟩ := hR k (by omega)
      rw [if_neg hn, if_neg hn, ixI (by omega) (by decide), ixI (by omega) (by decide), clI (by omega), e0, e1, holds_eq hg hu hr, isWithin_eq hg hu hr, bnd1, bnd1, ifb, ifb, Int32.add_zero, nI_1]
      by_cases t : hold g u (R k)
      · rw [if_pos t, if_pos t]
        exact ih (k + 1) _ (by omega) (by omega)
      · rw [if_neg t, if_neg t]
        exact ih (k + 1) _ (by omega) (by omega)
theorem s_rolesOf {g : Nat → Int32} (hg : VA g 8 4096) {rs la : Nat → Int32} {rn : Int32} {q : Nat} {R : Nat → Nat} (hv : VR rs la rn q R) (th a : Int32) {fu : Nat} (hf : 256 ≤ fu) : ∃ r0 rb th', m_X0_rolesOf fu g rs rn a = some r0 ∧ m_X1_rolesOf fu g la rn th a = some (rb, th') ∧ OC r0 rb th' IOE IOE := by
  obtain ⟨hq, rfl, hR⟩ := hv
  rcases isUser_is a with ⟨h0, h1⟩ | ⟨u, hu, rfl, h0, h1⟩
  · refine ⟨.inl IOE, -1, 1, ?_, ?_, OC_1⟩
    · rw [m_X0_rolesOf, if_pos h0]
    · rw [m_X1_rolesOf, if_pos h1, hd1, bnd2, if_neg n10]
  · obtain ⟨v, e0, e1⟩ := rolesOf_loop hg hq hR hu 0 fu fu 0 0 (Nat.zero_le q) (by omega)
    refine ⟨.inr v, v, 0, ?_, ?_, OC_0⟩
    · rw [m_X0_rolesOf, if_neg h0]
      exact e0
    · rw [m_X1_rolesOf, if_neg h1, hd0, bnd2, if_pos p00]
      exact e1
theorem cost_loop {g : Nat → Int32} (hg : VA g 8 4096) {rs la : Nat → Int32} {q : Nat} {R : Nat → Nat} (hq : q ≤ 255) (hR : ∀ i, i < q → R i < 4096 ∧ rs i = nI (R i) ∧ la i = nI (R i)) (rc ec th : Int32) {fu : Nat} (hf : 300 ≤ fu) : ∀ (m k c : Nat), k ≤ 8 → 8 < k + m → ∃ v', m_X0_cost_4 fu g rc ec rs (nI q) m (nI c) (nI k) = some v' ∧ m_X1_cost_17 fu g la rc ec (nI q) m (rc * nI q + ec * nI c) (nI k) th = some (v', th) := by
  intro m
  induction m with
  | zero => intro k c h1 h2; omega
  | succ m ih =>
    intro k c h1 h2
    rw [m_X0_cost_4, m_X1_cost_17]
    by_cases hk : k = 8
    · subst hk
      exact ⟨rc * nI q + ec * nI c, if_pos ((c8 (by decide)).mpr (Nat.le_refl 8)), if_pos ((c8 (by decide)).mpr (Nat.le_refl 8))⟩
    · have hn : ¬ (8 : Int32) ≤ nI k := fun q => hk (by have := (c8 (k := k) (by omega)).mp q; omega)
      have hu : k < 8 := by omega
      obtain ⟨ha, hb⟩ := hg k hu
      obtain ⟨e0, e1⟩ := join_eq hg hq hR hu (fu := fu) (by omega)
      have hl : an (nv g k) (JRn g R k q) < 2 ^ 12 := an_lt ha
      rw [if_neg hn, if_neg hn, ixI hu (by decide), ixI hu (by decide), e0, e1, bnd1, bnd1, clI (by omega), hb, anI, size_eq (by omega) (by omega), bnd1, bc32 (by omega), nI_add, nI_1, Int32.add_assoc, ← Int32.mul_add, nI_add]
      exact ih (k + 1) _ (by omega) (by omega)
theorem s_cost {g : Nat → Int32} (hg : VA g 8 4096) {rs la : Nat → Int32} {rn : Int32} {q : Nat} {R : Nat → Nat} (hv : VR rs la rn q R) (rc ec th : Int32) {fu : Nat} (hf : 300 ≤ fu) : ∃ r, m_X0_cost fu g rc ec rs rn = some r ∧ m_X1_cost fu g la rc ec rn th = some (r, 0) := by
  obtain ⟨hq, rfl, hR⟩ := hv
  obtain ⟨v, e0, e1⟩ := cost_loop hg hq hR rc ec 0 hf fu 0 0 (by decide) (by omega)
  refine ⟨v, e0, ?_⟩
  rw [m_X1_cost]
  rw [show rc * nI q + ec * nI 0 = rc * nI q from by rw [show nI 0 = (0 : Int32) from rfl, Int32.mul_zero, Int32.add_zero]] at e1
  exact e1
theorem ex_step {Q : Nat → Prop} {k q : Nat} (hk : k < q) : (∃ j, k ≤ j ∧ j < q ∧ Q j) ↔ Q k ∨ ∃ j, k + 1 ≤ j ∧ j < q ∧ Q j := by
  constructor
  · intro ⟨j, a, b, c⟩
    by_cases e : j = k
    · subst e; exact Or.inl c
    · exact Or.inr ⟨j, by omega, b, c⟩
  · intro h
    rcases h with h | ⟨j, a, b, c⟩
    · exact ⟨k, Nat.le_refl k, hk, h⟩
    · exact ⟨j, by omega, b, c⟩
theorem prB_yes {o : Nat → Int32} {S : Nat} (h : prop o S) : prB o S = 1 := by rw [prB, if_pos h]
theorem prB_no {o : Nat → Int32} {S : Nat} (h : ¬ prop o S) : prB o S = 0 := by rw [prB, if_neg h]
theorem HO_none {g : Nat → Int32} {S : Nat} : HO g S = 0 ↔ ¬ ∃ u, u < 8 ∧ hold g u S := by
  constructor
  · intro h ⟨u, hu, hh⟩
    have := HO_bit g S u
    rw [h, Nat.zero_testBit, decide_eq_true ⟨hu, hh⟩] at this
    exact absurd this (by decide)
  · intro h
    apply Nat.eq_of_testBit_eq
    intro i
    rw [HO_bit, Nat.zero_testBit, decide_eq_false (fun q => h ⟨i, q.1, q.2⟩)]
def RK (o : Nat → Int32) (R : Nat → Nat) (a j : Nat) : Prop := j ≠ a ∧ ¬ prop o (R a ||| R j)
theorem rx_loop {g o : Nat → Int32} (hg : VA g 8 4096) (ho : VA o 12 4096) {rs : Nat → Int32} {q a : Nat} {R : Nat → Nat} (hq : q ≤ 255) (hR : ∀ i, i < q → R i < 4096 ∧ rs i = nI (R i)) (ha : a < q) {fu : Nat} (hf : 40 ≤ fu) : ∀ d k m : Nat, k + d = q → d < m →
    ((∃ j, k ≤ j ∧ j < q ∧ RK o R a j ∧ ∃ u, u < 8 ∧ hold g u (R a ||| R j)) → m_X0_isRisky_24 fu g o rs (nI q) (nI a) m (nI k) = some (.inr 1)) ∧ (¬ (∃ j, k ≤ j ∧ j < q ∧ RK o R a j ∧ ∃ u, u < 8 ∧ hold g u (R a ||| R j)) → m_X0_isRisky_24 fu g o rs (nI q) (nI a) m (nI k) = some (.inr 0)) := by
  obtain ⟨ra, ea⟩ := hR a ha
  intro d
  induction d with
  | zero =>
    intro k m h1 h2
    obtain ⟨m, rfl⟩ : ∃ m', m = m' + 1 := ⟨m - 1, by omega⟩
    rw [m_X0_isRisky_24, if_pos (nI_le (by omega) (by omega))]
    exact ⟨fun ⟨j, a, b, _⟩ => by omega, fun _ => rfl⟩
  | succ d ih =>
    intro k m h1 h2
    obtain ⟨m, rfl⟩ : ∃ m', m = m' + 1 := ⟨m - 1, by omega⟩
    have hk : k < q := by omega
    obtain ⟨rk, ek⟩ := hR k hk
    have hS : R a ||| R k < 4096 := Nat.or_lt_two_pow (n := 12) ra rk
    have hi := ih (k + 1) m (by omega) (by omega)
    rw [ex_step hk, m_X0_isRisky_24, if_neg (nI_ge hk (by omega)), ixI (by omega) (by decide), ixI (by omega) (by decide), clI (by omega), clI (by omega), ea, ek, fa_or, (isProper_eq ho hS (by omega)).1, bnd1, holdersOf_eq hg hS (by omega), bnd1, nI_1]
    by_cases e : k = a
    · rw [if_pos ((nI_eq (by omega) (by omega)).mpr e)]
      have no : ¬ (RK o R a k ∧ ∃ u, u < 8 ∧ hold g u (R a ||| R k)) := fun z => z.1.1 e
      exact ⟨fun h => hi.1 (h.resolve_left no), fun h => hi.2 (fun z => h (Or.inr z))⟩
    · rw [if_neg (fun z => e ((nI_eq (by omega) (by omega)).mp z))]
      by_cases p : prop o (R a ||| R k)
      · rw [prB_yes p, if_neg n10]
        have no : ¬ (RK o R a k ∧ ∃ u, u < 8 ∧ hold g u (R a ||| R k)) := fun z => z.1.2 p
        exact ⟨fun h => hi.1 (h.resolve_left no), fun h => hi.2 (fun z => h (Or.inr z))⟩
      · rw [prB_no p, if_pos p00]
        have hl := HO_lt g (R a ||| R k)
        by_cases z : HO g (R a ||| R k) = 0
        · rw [if_pos ((nI_z (by omega)).mpr z)]
          have no : ¬ (RK o R a k ∧ ∃ u, u < 8 ∧ hold g u (R a ||| R k)) := fun y => HO_none.mp z y.2
          exact ⟨fun h => hi.1 (h.resolve_left no), fun h => hi.2 (fun z => h (Or.inr z))⟩
        · rw [if_neg (fun y => z ((nI_z (by omega)).mp y))]
          have yes : RK o R a k ∧ ∃ u, u < 8 ∧ hold g u (R a ||| R k) := ⟨⟨e, p⟩, Classical.byContradiction (fun y => z (HO_none.mpr y))⟩
          exact ⟨fun _ => rfl, fun h => absurd (Or.inl yes) h⟩
theorem ry_in {g o : Nat → Int32} (hg : VA g 8 4096) (ho : VA o 12 4096) {la : Nat → Int32} {q a : Nat} {R : Nat → Nat} (hq : q ≤ 255) (hR : ∀ i, i < q → R i < 4096 ∧ la i = nI (R i)) (ha : a < q) {fu : Nat} (hf : 40 ≤ fu) (th : Int32) {u : Nat} (hu : u < 8) (e : Nat) : ∀ d k : Nat, k + d = q →
    ((∃ j, k ≤ j ∧ j < q ∧ RK o R a j ∧ hold g u (R a ||| R j)) → m_X1_isRisky_24 fu g o la (nI q) (nI a) (e + d + 1) 1 (nI u) (nI k) th = some (1, th)) ∧ (¬ (∃ j, k ≤ j ∧ j < q ∧ RK o R a j ∧ hold g u (R a ||| R j)) → m_X1_isRisky_24 fu g o la (nI q) (nI a) (e + d + 1) 1 (nI u) (nI k) th = m_X1_isRisky_24 fu g o la (nI q) (nI a) e 0 (nI (u + 1)) 0 th) := by
  obtain ⟨ra, ea⟩ := hR a ha
  intro d
  induction d with
  | zero =>
    intro k h1
    rw [m_X1_isRisky_24, if_neg (by decide), if_pos (nI_le (by omega) (by omega)), nI_1]
    exact ⟨fun ⟨j, a, b, _⟩ => by omega, fun _ => rfl⟩
  | succ d ih =>
    intro k h1
    have hk : k < q := by omega
    obtain ⟨rk, ek⟩ := hR k hk
    have hS : R a ||| R k < 4096 := Nat.or_lt_two_pow (n := 12) ra rk
    have hi := ih (k + 1) (by omega)
    rw [ex_step hk, show e + (d + 1) + 1 = (e + d + 1) + 1 by omega, m_X1_isRisky_24, if_neg (by decide), if_neg (nI_ge hk (by omega)), ixI (by omega) (by decide), ixI (by omega) (by decide), clI (by omega), clI (by omega), ea, ek, fa_or, isWithin_eq hg hu hS, bnd1, (isProper_eq ho hS (by omega)).2, bnd1, ifb, nI_1]
    by_cases e : k = a
    · rw [if_pos ((nI_eq (by omega) (by omega)).mpr e)]
      have no : ¬ (RK o R a k ∧ hold g u (R a ||| R k)) := fun z => z.1.1 e
      exact ⟨fun h => hi.1 (h.resolve_left no), fun h => hi.2 (fun z => h (Or.inr z))⟩
    · rw [if_neg (fun z => e ((nI_eq (by omega) (by omega)).mp z))]
      by_cases w : hold g u (R a ||| R k)
      · rw [if_pos w]
        by_cases p : prop o (R a ||| R k)
        · rw [prB_yes p, if_neg n10]
          have no : ¬ (RK o R a k ∧ hold g u (R a ||| R k)) := fun z => z.1.2 p
          exact ⟨fun h => hi.1 (h.resolve_left no), fun h => hi.2 (fun z => h (Or.inr z))⟩
        · rw [prB_no p, if_pos p00]
          exact ⟨fun _ => rfl, fun h => absurd (Or.inl ⟨⟨e, p⟩, w⟩) h⟩
      · rw [if_neg w]
        have no : ¬ (RK o R a k ∧ hold g u (R a ||| R k)) := fun z => w z.2
        exact ⟨fun h => hi.1 (h.resolve_left no), fun h => hi.2 (fun z => h (Or.inr z))⟩
theorem ry_out {g o : Nat → Int32} (hg : VA g 8 4096) (ho : VA o 12 4096) {la : Nat → Int32} {q a : Nat} {R : Nat → Nat} (hq : q ≤ 255) (hR : ∀ i, i < q → R i < 4096 ∧ la i = nI (R i)) (ha : a < q) {fu : Nat} (hf : 40 ≤ fu) (th : Int32) (e : Nat) : ∀ d u : Nat, u + d = 8 →
    ((∃ v, u ≤ v ∧ v < 8 ∧ ∃ j, 0 ≤ j ∧ j < q ∧ RK o R a j ∧ hold g v (R a ||| R j)) → m_X1_isRisky_24 fu g o la (nI q) (nI a) (e + d * (q + 2) + 1) 0 (nI u) 0 th = some (1, th)) ∧ (¬ (∃ v, u ≤ v ∧ v < 8 ∧ ∃ j, 0 ≤ j ∧ j < q ∧ RK o R a j ∧ hold g v (R a ||| R j)) → m_X1_isRisky_24 fu g o la (nI q) (nI a) (e + d * (q + 2) + 1) 0 (nI u) 0 th = some (0, th)) := by
  intro d
  induction d with
  | zero =>
    intro u h1
    rw [m_X1_isRisky_24, if_pos rfl, if_pos ((c8 (by omega)).mpr (by omega))]
    exact ⟨fun ⟨j, a, b, _⟩ => by omega, fun _ => rfl⟩
  | succ d ih =>
    intro u h1
    have hu : u < 8 := by omega
    have hi := ih (u + 1) (by omega)
    have hn := ry_in hg ho hq hR ha hf th hu (e + d * (q + 2) + 1) q 0 (by omega)
    rw [ex_step hu, show e + (d + 1) * (q + 2) + 1 = ((e + d * (q + 2) + 1) + q + 1) + 1 by rw [Nat.add_mul]; omega, m_X1_isRisky_24, if_pos rfl, if_neg (fun z => by have := (c8 (k := u) (by omega)).mp z; omega), show (0 : Int32) = nI 0 from rfl]
    by_cases p : ∃ j, 0 ≤ j ∧ j < q ∧ RK o R a j ∧ hold g u (R a ||| R j)
    · exact ⟨fun _ => hn.1 p, fun h => absurd (Or.inl p) h⟩
    · rw [hn.2 p]
      exact ⟨fun h => hi.1 (h.resolve_left p), fun h => hi.2 (fun z => h (Or.inr z))⟩
theorem s_isRisky {g o : Nat → Int32} (hg : VA g 8 4096) (ho : VA o 12 4096) {rs la : Nat → Int32} {rn : Int32} {q : Nat} {R : Nat → Nat} (hv : VR rs la rn q R) (th a : Int32) {fu : Nat} (hf : 3000 ≤ fu) : ∃ r0 rb th', m_X0_isRisky fu g o rs rn a = some r0 ∧ m_X1_isRisky fu g o la rn th a = some (rb, th') ∧ OC r0 rb th' IOE IOE := by
  obtain ⟨hq, rfl, hR⟩ := hv
  rcases rol_is hq a with ⟨h1, h0⟩ | ⟨a, ha, rfl, h1, h0, h00⟩
  · refine ⟨.inl IOE, 0, 1, ?_, ?_, OC_1⟩
    · rcases h0 with h0 | ⟨h0, h00⟩
      · rw [m_X0_isRisky, if_pos h0]
      · rw [m_X0_isRisky, if_neg h0, if_neg h00]
    · rw [m_X1_isRisky, m_X1_isRole, if_pos h1, hd1, bnd2, if_neg n10]
  · have hx := rx_loop hg ho hq (fun i hi => ⟨(hR i hi).1, (hR i hi).2.1⟩) ha (fu := fu) (by omega) q 0 fu (by omega) (by omega)
    have hb : 8 * (q + 2) + 1 ≤ fu := by omega
    have hy := ry_out hg ho hq (fun i hi => ⟨(hR i hi).1, (hR i hi).2.2⟩) ha (fu := fu) (by omega) 0 (fu - (8 * (q + 2) + 1)) 8 0 (by decide)
    rw [show fu - (8 * (q + 2) + 1) + 8 * (q + 2) + 1 = fu by omega] at hy
    have same : (∃ j, 0 ≤ j ∧ j < q ∧ RK o R a j ∧ ∃ u, u < 8 ∧ hold g u (R a ||| R j)) ↔ ∃ v, 0 ≤ v ∧ v < 8 ∧ ∃ j, 0 ≤ j ∧ j < q ∧ RK o R a j ∧ hold g v (R a ||| R j) :=
      ⟨fun ⟨j, _, hj, hr, u, hu, hh⟩ => ⟨u, Nat.zero_le u, hu, j, Nat.zero_le j, hj, hr, hh⟩, fun ⟨u, _, hu, j, _, hj, hr, hh⟩ => ⟨j, Nat.zero_le j, hj, hr, u, hu, hh⟩⟩
    by_cases p : ∃ j, 0 ≤ j ∧ j < q ∧ RK o R a j ∧ ∃ u, u < 8 ∧ hold g u (R a ||| R j)
    · refine ⟨.inr 1, 1, 0, ?_, ?_, OC_0⟩
      · rw [m_X0_isRisky, if_neg h0, if_pos h00]
        exact hx.1 p
      · rw [m_X1_isRisky, m_X1_isRole, if_neg h1, hd0, bnd2, if_pos p00]
        exact hy.1 (same.mp p)
    · refine ⟨.inr 0, 0, 0, ?_, ?_, OC_0⟩
      · rw [m_X0_isRisky, if_neg h0, if_pos h00]
        exact hx.2 p
      · rw [m_X1_isRisky, m_X1_isRole, if_neg h1, hd0, bnd2, if_pos p00]
        exact hy.2 (fun z => p (same.mpr z))
