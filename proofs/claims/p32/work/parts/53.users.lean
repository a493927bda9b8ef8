-- pairs in conflict are met from both ends
theorem pcb_bits : ∀ (k x : Nat), pcb k x = fb_sm (fun j => x / 2 ^ j % 2) k
  | 0, _ => rfl
  | k + 1, x => by
    rw [pcb, pcb_bits k (x / 2), show k + 1 = 1 + k by omega, fb_sm_split (fun j => x / 2 ^ j % 2) 1 k, show fb_sm (fun j => x / 2 ^ j % 2) 1 = x % 2 from by rw [fb_sm_succ]; show 0 + x / 2 ^ 0 % 2 = x % 2; rw [Nat.pow_zero, Nat.div_one, Nat.zero_add]]
    refine congrArg (fun z => x % 2 + z) (fb_sm_cong (fun j _ => ?_))
    show x / 2 / 2 ^ j % 2 = x / 2 ^ (1 + j) % 2
    rw [Nat.div_div_eq_div_mul, Nat.pow_add, Nat.pow_one]
theorem tb_if (x j : Nat) : x / 2 ^ j % 2 = if x.testBit j = true then 1 else 0 := by
  by_cases h : x.testBit j = true
  · rw [if_pos h, (tb_div x j).mp h]
  · rw [if_neg h]
    have := mt (tb_div x j).mpr h
    omega
theorem sq_even {c : Nat → Nat → Nat} : ∀ n, (∀ i j, i < n → j < n → c i j = c j i) → (∀ i, i < n → c i i = 0) → fb_sm (fun i => fb_sm (c i) n) n % 2 = 0
  | 0, _, _ => rfl
  | n + 1, h1, h2 => by
    have ih := sq_even n (fun i j hi hj => h1 i j (by omega) (by omega)) (fun i hi => h2 i (by omega))
    have e1 : fb_sm (fun i => fb_sm (c i) (n + 1)) n = fb_sm (fun i => fb_sm (c i) n) n + fb_sm (fun i => c i n) n := by
      rw [← fb_sm_add]
      exact fb_sm_cong (fun i _ => rfl)
    have e2 : fb_sm (fun i => c i n) n = fb_sm (c n) n := fb_sm_cong (fun i hi => h1 i n (by omega) (by omega))
    rw [fb_sm_succ, e1, e2, fb_sm_succ, h2 n (by omega)]
    omega
def IRR (o : Nat → Int32) : Prop := ∀ i, i < 12 → (nv o i).testBit i = false
theorem VS_even {g op : Nat → Int32} (ho : VO op) (hi : IRR op) {u : Nat} : fb_sm (VSt g op u) 12 % 2 = 0 := by
  have e : fb_sm (VSt g op u) 12 = fb_sm (fun i => fb_sm ((fun i j => if (nv g u).testBit i = true ∧ (nv g u).testBit j = true ∧ (nv op i).testBit j = true then 1 else 0) i) 12) 12 := fb_sm_cong (fun i hi => by
    show VSt g op u i = _
    unfold VSt
    by_cases t : (nv g u).testBit i = true
    · have hx : nv op i &&& nv g u < 2 ^ 12 := Nat.lt_of_le_of_lt Nat.and_le_left (ho.1 i hi).1
      rw [if_pos t, pc_of 12 (by decide) hx, pcb_bits]
      refine fb_sm_cong (fun j _ => ?_)
      show (nv op i &&& nv g u) / 2 ^ j % 2 = _
      rw [tb_if, Nat.testBit_and]
      dsimp only
      by_cases a : (nv op i).testBit j = true
      · by_cases b : (nv g u).testBit j = true
        · rw [if_pos (by rw [a, b]; rfl), if_pos ⟨t, b, a⟩]
        · rw [if_neg (fun q => b (by rw [Bool.and_eq_true] at q; exact q.2)), if_neg (fun q => b q.2.1)]
      · rw [if_neg (fun q => a (by rw [Bool.and_eq_true] at q; exact q.1)), if_neg (fun q => a q.2.2)]
    · rw [if_neg t]
      have : fb_sm (fun j => if (nv g u).testBit i = true ∧ (nv g u).testBit j = true ∧ (nv op i).testBit j = true then 1 else 0) 12 = fb_sm (fun _ => 0) 12 := fb_sm_cong (fun j _ => if_neg (fun q => t q.1))
      exact (this.trans (by rw [fb_sm_const])).symm)
  rw [e]
  refine sq_even 12 (fun i j h1 h2 => ?_) (fun i h1 => if_neg (fun q => by have := hi i h1; rw [q.2.2] at this; cases this))
  have s := ho.2 i j h1 h2
  by_cases q : (nv g u).testBit i = true ∧ (nv g u).testBit j = true ∧ (nv op i).testBit j = true
  · exact (if_pos q).trans (if_pos ⟨q.2.1, q.1, s ▸ q.2.2⟩).symm
  · exact (if_neg q).trans (if_neg (fun z => q ⟨z.2.1, z.1, s.symm ▸ z.2.2⟩)).symm
-- the check of the users
theorem us_roles {g rm op rs b1 : Nat → Int32} (hg : VA g 8 4096) (rc ec pe qt a2 a3 : Int32) {q : Nat} {R : Nat → Nat} (hR : RO rs q R) {u : Nat} (hu : u < 8) (v4 v5 v6 v10 : Int32) (fu : Nat) : ∀ d k m : Nat, k + d = q → m_L_users_14 fu g rm op rc ec pe qt rs (nI q) b1 a2 a3 (m + d + 1) 1 v4 v5 v6 (nI (nv g u)) (nI (JRn g R u k)) (nI (fb_sm (RCt g R u) k)) v10 (nI k) = m_L_users_14 fu g rm op rc ec pe qt rs (nI q) b1 a2 a3 m 2 v4 v5 v6 (nI (nv g u)) (nI (JRn g R u q)) (nI (fb_sm (RCt g R u) q)) v10 0 := by
  have hq := hR.1
  intro d
  induction d with
  | zero =>
    intro k m h1
    obtain rfl : k = q := by omega
    rw [m_L_users_14, if_neg (by decide), if_pos rfl, m_X0_roles, if_pos (nI_le (Nat.le_refl k) (by omega))]
  | succ d ih =>
    intro k m h1
    have hk : k < q := by omega
    have := ih (k + 1) m (by omega)
    have hr := (hR.2 k hk).1
    have hb : an (R k) (nv g u) < 2 ^ 31 := an_lt (by omega)
    rw [fb_sm_succ, RCt, JRn] at this
    rw [show m + (d + 1) + 1 = (m + d + 1) + 1 by omega, m_L_users_14, if_neg (by decide), if_pos rfl, m_X0_roles, if_neg (nI_ge hk (by omega)), v_role hR hk, br0, br0, anI, or0, Int32.add_zero, fa_or, nI_1, nI_1]
    by_cases t : hold g u (R k)
    · rw [if_pos ((nI_z hb).mpr (an_zero.mpr t))]
      rw [if_pos t, if_pos t] at this
      exact this
    · rw [if_neg (fun z => t (an_zero.mp ((nI_z hb).mp z)))]
      rw [if_neg t, if_neg t, Nat.add_zero] at this
      exact this
theorem us_pairs {g rm op rs b1 : Nat → Int32} (hg : VA g 8 4096) (ho : VA op 12 4096) (hb1 : ∀ i, i < 12 → b1 i = op i) (rc ec pe qt a2 a3 rn : Int32) {u : Nat} (hu : u < 8) (v4 v5 v6 v8 v9 : Int32) {fu : Nat} (hf : 20000 ≤ fu) : ∀ d k m : Nat, k + d = 12 → m_L_users_14 fu g rm op rc ec pe qt rs rn b1 a2 a3 (m + d) 2 v4 v5 v6 (nI (nv g u)) v8 v9 (nI (fb_sm (VSt g op u) k)) (nI k) = m_L_users_14 fu g rm op rc ec pe qt rs rn b1 a2 a3 m 2 v4 v5 v6 (nI (nv g u)) v8 v9 (nI (fb_sm (VSt g op u) 12)) (nI 12) := by
  intro d
  induction d with
  | zero =>
    intro k m h1
    obtain rfl : k = 12 := by omega
    rfl
  | succ d ih =>
    intro k m h1
    have hk : k < 12 := by omega
    have := ih (k + 1) m (by omega)
    obtain ⟨ha, hb⟩ := hg u hu
    obtain ⟨hc, hd⟩ := ho k hk
    rw [fb_sm_succ, VSt] at this
    rw [show m + (d + 1) = (m + d) + 1 by omega, m_L_users_14, if_neg (by decide), if_neg (by decide), if_neg (fun q => by have := (c12 (k := k) (by omega)).mp q; omega), ixI hk (by decide), clI (by omega), hb1 k hk, hd, fa_and, l_size hf (Nat.lt_of_le_of_lt Nat.and_le_left hc), bnd1, nI_add, Int32.add_zero, nI_1]
    by_cases t : (nv g u).testBit k = true
    · rw [if_pos ((bit_cond (by omega) (by omega)).1.mpr t)]
      rw [if_pos t] at this
      exact this
    · rw [if_neg (fun z => t ((bit_cond (by omega) (by omega)).1.mp z))]
      rw [if_neg t, Nat.add_zero] at this
      exact this
theorem us_all {g rm op rs b1 : Nat → Int32} (hg : VA g 8 4096) (ho : VO op) (hi : IRR op) (hb1 : ∀ i, i < 12 → b1 i = op i) (rc ec pe qt : Int32) {q : Nat} {R : Nat → Nat} (hR : RO rs q R) {fu : Nat} (hf : 20000 ≤ fu) : ∀ d k m : Nat, k + d = 8 → m_L_users_14 fu g rm op rc ec pe qt rs (nI q) b1 rc ec (m + d * (q + 15) + 1) 0 (rc * nI q + ec * nI (fb_sm (EXt g R q) k)) (nI (fb_sm (GRt g) k)) (nI k) 0 0 0 0 0 = some 1 := by
  intro d
  induction d with
  | zero =>
    intro k m h1
    obtain rfl : k = 8 := by omega
    rw [m_L_users_14, if_pos rfl, if_pos ((c8 (by decide)).mpr (Nat.le_refl 8)), v_cost hg hR rc ec hf, bnd1, if_pos rfl, v_grants hg hf, bnd1, if_pos rfl]
  | succ d ih =>
    intro k m h1
    have hk : k < 8 := by omega
    obtain ⟨ha, hb⟩ := hg k hk
    have hJ := JR_lt g hR k
    have hl := LSP_lt g rm pe (qt + 1) k
    have hVS := VS_le hg op hk 12 (Nat.le_refl 12)
    have hev := VS_even (g := g) ho hi (u := k)
    have e := ih (k + 1) m (by omega)
    have s1 := us_roles (rm := rm) (op := op) (b1 := b1) hg rc ec pe qt rc ec hR hk (rc * nI q + ec * nI (fb_sm (EXt g R q) k)) (nI (fb_sm (GRt g) k)) (nI k) 0 fu q 0 (m + d * (q + 15) + 1 + 1 + 12) (by omega)
    have s2 := us_pairs (rm := rm) (rs := rs) hg ho.1 hb1 rc ec pe qt rc ec (nI q) hk (rc * nI q + ec * nI (fb_sm (EXt g R q) k)) (nI (fb_sm (GRt g) k)) (nI k) (nI (JRn g R k q)) (nI (fb_sm (RCt g R k) q)) hf 12 0 (m + d * (q + 15) + 1 + 1) (by decide)
    rw [show m + (d + 1) * (q + 15) + 1 = (m + d * (q + 15) + 1 + 1 + 12 + q + 1) + 1 by rw [Nat.succ_mul]; omega, m_L_users_14, if_pos rfl, if_neg (fun q => by have := (c8 (k := k) (by omega)).mp q; omega), v_permissions hg hk, br0]
    refine s1.trans (s2.trans ?_)
    have e30 : an (LSP g rm pe (qt + 1) k) (nv g k) = 0 := LSP_sub g rm pe (qt + 1) k
    have e33 : (2 : Int32) * nI (fb_sm (VSt g op k) 12 / 2) = nI (fb_sm (VSt g op k) 12) := by
      rw [fa_lit 2, nI_mulI]
      exact congrArg nI (by omega)
    rw [m_L_users_14, if_neg (by decide), if_neg (by decide), if_pos ((c12 (by decide)).mpr (Nat.le_refl 12)), v_byRoles hg hR hk hf, br0, if_pos rfl, v_rolesOf hg hR hk hf, br0, if_pos rfl, v_exceptions hg hR hk hf, br0, anI, if_pos rfl, v_due hg rm pe qt hk hf, br0, anI, e30, if_pos (show nI 0 = 0 from rfl), v_violations hg ho.1 hk hf, br0, e33, if_pos rfl, l_size hf (an_lt (k := 12) ha), bnd1, l_size hf ha, bnd1, nI_add, nI_1, Int32.add_assoc, ← Int32.mul_add, nI_add]
    exact e
/-- the check of the users holds -/
theorem l_users {g rm op rs b1 : Nat → Int32} (hg : VA g 8 4096) (ho : VO op) (hi : IRR op) (hb1 : ∀ i, i < 12 → b1 i = op i) (rc ec pe qt : Int32) {q : Nat} {R : Nat → Nat} (hR : RO rs q R) {fu : Nat} (hf : 20000 ≤ fu) : m_L_users fu g rm op rc ec pe qt rs (nI q) b1 rc ec = some 1 := by
  have hq := hR.1
  have h := us_all (rm := rm) hg ho hi hb1 rc ec pe qt hR hf 8 0 (fu - (8 * (q + 15) + 1)) (by decide)
  rw [show fu - (8 * (q + 15) + 1) + 8 * (q + 15) + 1 = fu by omega] at h
  rw [m_L_users, m_X0_roles]
  rw [show nI (fb_sm (EXt g R q) 0) = (0 : Int32) from rfl, Int32.mul_zero, Int32.add_zero] at h
  exact h
