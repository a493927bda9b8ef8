theorem subI_z {a b : Nat} (ha : a < 2 ^ 30) (hb : b < 2 ^ 30) : (nI a - nI b = 0 ↔ a = b) ∧ (nI a - nI b ≤ 0 ↔ a ≤ b) := by
  have h := pk_sub_toInt ha hb
  constructor
  · rw [fa_eq, h, show (0 : Int32).toInt = 0 from rfl]; omega
  · rw [fa_le, h, show (0 : Int32).toInt = 0 from rfl]; omega
theorem precedes_eq {c b fu : Nat} (hf : 40 ≤ fu) (hc : c < 2 ^ 30) (hb : b < 2 ^ 30) : m_X1_precedes fu (nI c) (nI b) = some (m_X0_comesBefore (nI c) (nI b)) := by
  have p1 := pc_lt (n := c) 30 (by decide) hc
  have p2 := pc_lt (n := b) 30 (by decide) hb
  rw [m_X1_precedes, size_eq (by omega) (by omega), bnd1, size_eq (by omega) (by omega), bnd1, m_X0_comesBefore, bc32 (by omega), bc32 (by omega), m_J6_lowestOneBit_0f7a4]
  obtain ⟨z1, z2⟩ := subI_z (a := pc b) (b := pc c) (by omega) (by omega)
  by_cases h : pc c = pc b
  · rw [if_pos (show nI (pc c) = nI (pc b) by rw [h]), if_pos (z1.mpr h.symm)]
    have e : (nI c &&& (nI c ^^^ nI b)) &&& -(nI c ^^^ nI b) = ((nI c ^^^ nI b) &&& -(nI c ^^^ nI b)) &&& nI c := by
      rw [Int32.and_assoc, Int32.and_comm]
    rw [e]
    by_cases q : ((nI c ^^^ nI b) &&& -(nI c ^^^ nI b)) &&& nI c = 0
    · rw [if_pos q, if_pos q]
    · rw [if_neg q, if_neg q]
  · rw [if_neg (fun q => h ((nI_eq (by omega) (by omega)).mp q)), if_neg (fun q => h (z1.mp q).symm)]
    by_cases q : pc b ≤ pc c
    · rw [if_pos ((nI_leI (by omega) (by omega)).mpr q), if_pos (z2.mpr q)]
    · rw [if_neg (fun z => q ((nI_leI (by omega) (by omega)).mp z)), if_neg (fun z => q (z2.mp z))]
theorem bnew_lt {K : Nat → Int32} {c b N : Nat} (hc : c < N) (hb : b < N) : bnew K c b < N := by
  unfold bnew
  split
  · exact hc
  · split
    · split
      · exact hb
      · exact hc
    · exact hb
theorem bsel_lt {K : Nat → Int32} {N : Nat} : ∀ (d c b : Nat), c + d ≤ N → b < N → bsel K d c b < N
  | 0, _, _, _, hb => hb
  | d + 1, c, b, h, hb => bsel_lt d (c + 1) _ (by omega) (bnew_lt (by omega) hb)
theorem end_eq {n : Nat} (hn : n ≤ 14) : (1 : Int32) <<< (nI n &&& 31) = nI (2 ^ n) := bit1 (by omega)
theorem mbest_loop {g : Nat → Int32} (hg : VA g 8 4096) {n : Nat} {R : Nat → Nat} (hn : n ≤ 14) (hR : ∀ i, i < n → R i < 4096) (rc ec : Int32) {fo : Nat → Int32} (hfo : ∀ k, k < n → fo k = nI (R k)) {fu : Nat} (hf : 40 ≤ fu) : ∀ (d c b m : Nat) (cv : Nat → Int32), c + d = 2 ^ n → d < m → b < 2 ^ n →
    ∃ cv', m_X1_best_10 fu g fo rc ec (nI n) m (nI b) (cst g R n rc ec b) (nI c) cv = some (nI (bsel (cst g R n rc ec) d c b), cv') := by
  have hN : 2 ^ n ≤ 2 ^ 14 := Nat.pow_le_pow_right (by decide) hn
  intro d
  induction d with
  | zero =>
    intro c b m cv h1 h3 h4
    obtain ⟨m, rfl⟩ : ∃ k, m = k + 1 := ⟨m - 1, by omega⟩
    rw [m_X1_best_10, end_eq hn, if_pos ((nI_leI (by omega) (by omega)).mpr (by omega))]
    exact ⟨cv, rfl⟩
  | succ d ih =>
    intro c b m cv h1 h3 h4
    obtain ⟨m, rfl⟩ : ∃ k, m = k + 1 := ⟨m - 1, by omega⟩
    obtain ⟨cv1, e1⟩ := price_eq hg hn hR rc ec hfo (ch := c) (by omega) hf cv
    rw [m_X1_best_10, end_eq hn, if_neg (fun z => by have := (nI_leI (a := 2 ^ n) (b := c) (by omega) (by omega)).mp z; omega), e1, bnd2]
    dsimp only
    rw [precedes_eq hf (by omega) (by omega), bnd1, nI_1]
    have go : ∀ b', b' < 2 ^ n → bnew (cst g R n rc ec) c b = b' → ∃ cv', m_X1_best_10 fu g fo rc ec (nI n) m (nI b') (cst g R n rc ec b') (nI (c + 1)) cv1 = some (nI (bsel (cst g R n rc ec) (d + 1) c b), cv') := by
      intro b' hb' e
      rw [bsel, e]
      exact ih _ b' m _ (by omega) (by omega) hb'
    by_cases k1 : cst g R n rc ec c < cst g R n rc ec b
    · rw [if_pos k1]
      exact go c (by omega) (by rw [bnew, if_pos k1])
    · rw [if_neg k1]
      by_cases k2 : cst g R n rc ec c = cst g R n rc ec b
      · rw [if_pos k2]
        by_cases k3 : m_X0_comesBefore (nI c) (nI b) = 0
        · rw [if_pos k3]
          exact go b h4 (by rw [bnew, if_neg k1, if_pos k2, if_pos k3])
        · rw [if_neg k3]
          exact go c (by omega) (by rw [bnew, if_neg k1, if_pos k2, if_neg k3])
      · rw [if_neg k2]
        exact go b h4 (by rw [bnew, if_neg k1, if_neg k2])
theorem le_lt32 {x y : Int32} : x ≤ y ↔ ¬ y < x := by rw [fa_le, fa_lt]; omega
theorem least_loop {g : Nat → Int32} (hg : VA g 8 4096) {n : Nat} {R : Nat → Nat} (hn : n ≤ 14) (hR : ∀ i, i < n → R i < 4096) (rc ec : Int32) {fo : Nat → Int32} (hfo : ∀ k, k < n → fo k = nI (R k)) {fu : Nat} (hf : 40 ≤ fu) (o : Nat → Int32) (su : Int32) (co : Nat → Int32) (th : Int32) : ∀ (d c b m : Nat) (cv : Nat → Int32), c + d = 2 ^ n → d < m → b < 2 ^ n →
    ∃ cv', m_X1_leastCost_29 fu g o rc ec su m (cst g R n rc ec b) (nI c) fo co cv (nI n) th = some (cst g R n rc ec (bsel (cst g R n rc ec) d c b), fo, co, cv', nI n, th) := by
  have hN : 2 ^ n ≤ 2 ^ 14 := Nat.pow_le_pow_right (by decide) hn
  intro d
  induction d with
  | zero =>
    intro c b m cv h1 h3 h4
    obtain ⟨m, rfl⟩ : ∃ k, m = k + 1 := ⟨m - 1, by omega⟩
    rw [m_X1_leastCost_29, end_eq hn, if_pos ((nI_leI (by omega) (by omega)).mpr (by omega))]
    exact ⟨cv, rfl⟩
  | succ d ih =>
    intro c b m cv h1 h3 h4
    obtain ⟨m, rfl⟩ : ∃ k, m = k + 1 := ⟨m - 1, by omega⟩
    obtain ⟨cv1, e1⟩ := price_eq hg hn hR rc ec hfo (ch := c) (by omega) hf cv
    rw [m_X1_leastCost_29, end_eq hn, if_neg (fun z => by have := (nI_leI (a := 2 ^ n) (b := c) (by omega) (by omega)).mp z; omega), e1, bnd2]
    dsimp only
    rw [nI_1, bsel]
    obtain ⟨cv', e2⟩ := ih (c + 1) (bnew (cst g R n rc ec) c b) m cv1 (by omega) (by omega) (bnew_lt (by omega) h4)
    refine ⟨cv', ?_⟩
    rw [← e2]
    by_cases k1 : cst g R n rc ec c < cst g R n rc ec b
    · rw [if_neg (fun q => le_lt32.mp q k1), bnew, if_pos k1]
    · rw [if_pos (le_lt32.mpr k1), bnew, if_neg k1]
      by_cases k2 : cst g R n rc ec c = cst g R n rc ec b
      · rw [if_pos k2]
        split
        · rfl
        · rw [k2]
      · rw [if_neg k2]
/-- the class's best choice -/
theorem bestChoice_eq {g : Nat → Int32} (hg : VA g 8 4096) {n : Nat} {R : Nat → Nat} (hn : n ≤ 14) (hR : ∀ i, i < n → R i < 4096) (rc ec : Int32) {lc hc lg hg2 : Nat → Int64} (hcov : CovOK g R n lc hc) (hal : AllLeft g lg hg2) {fu : Nat} (hf : 20000 ≤ fu) :
    ∃ lg' hg', m_X0_bestChoice fu rc ec (nI n) lc hc lg hg2 = some (nI (bsel (cst g R n rc ec) (2 ^ n - 1) 1 0), lg', hg') ∧ AllLeft g lg' hg' := by
  have hN : 2 ^ n ≤ 2 ^ 14 := Nat.pow_le_pow_right (by decide) hn
  have hp := Nat.two_pow_pos n
  obtain ⟨lg', hg', e, h⟩ := best_loop hg hn hR rc ec hcov fu (2 ^ n - 1) 1 0 fu lg hg2 (by omega) (by decide) (by omega) hp (fun t j _ h _ => by have := Nat.mul_pos (Nat.two_pow_pos t) (show 0 < 2 * j + 1 by omega); omega) hal
  refine ⟨lg', hg', ?_, h⟩
  have e0 := costOfChoice_eq hg hn hR rc ec hcov hal (ch := 0) (by decide) (fu := fu) (by omega)
  rw [m_X0_bestChoice, show (0 : Int32) = nI 0 from rfl, e0, bnd1, if_neg (fun z => by have := (nI_ltI (a := 14) (b := n) (by decide) (by omega)).mp z; omega), end_eq hn]
  exact e
theorem mbest_eq {g : Nat → Int32} (hg : VA g 8 4096) {n : Nat} {R : Nat → Nat} (hn : n ≤ 14) (hR : ∀ i, i < n → R i < 4096) (rc ec : Int32) {fo : Nat → Int32} (hfo : ∀ k, k < n → fo k = nI (R k)) {fu : Nat} (hf : 20000 ≤ fu) (cv : Nat → Int32) :
    ∃ cv', m_X1_best fu g fo cv rc ec (nI n) = some (nI (bsel (cst g R n rc ec) (2 ^ n - 1) 1 0), cv') := by
  have hN : 2 ^ n ≤ 2 ^ 14 := Nat.pow_le_pow_right (by decide) hn
  have hp := Nat.two_pow_pos n
  obtain ⟨cv1, e1⟩ := price_eq hg hn hR rc ec hfo (ch := 0) (by decide) (fu := fu) (by omega) cv
  obtain ⟨cv2, e2⟩ := mbest_loop hg hn hR rc ec hfo (fu := fu) (by omega) (2 ^ n - 1) 1 0 fu cv1 (by omega) (by omega) hp
  refine ⟨cv2, ?_⟩
  rw [m_X1_best, show (0 : Int32) = nI 0 from rfl, e1, bnd2]
  exact e2
-- laying the roles of a choice
def Cho (R : Nat → Nat) (P : Nat → Prop) (k : Nat) (Q : Nat → Nat) (q : Nat) : Prop := q ≤ k ∧ Inc Q q ∧ (∀ i, i < q → Q i < 4096) ∧ ∀ y, Im Q q y ↔ ∃ i, i < k ∧ P i ∧ R i = y
theorem Cho_0 (R : Nat → Nat) (P : Nat → Prop) (Q : Nat → Nat) : Cho R P 0 Q 0 := ⟨Nat.le_refl 0, fun i j _ h => by omega, fun i h => by omega, fun y => ⟨fun ⟨i, h, _⟩ => by omega, fun ⟨i, h, _⟩ => by omega⟩⟩
theorem Cho_skip {R : Nat → Nat} {P : Nat → Prop} {k : Nat} {Q : Nat → Nat} {q : Nat} (h : Cho R P k Q q) (hk : ¬ P k) : Cho R P (k + 1) Q q := by
  obtain ⟨h0, h1, h2, h3⟩ := h
  refine ⟨by omega, h1, h2, fun y => (h3 y).trans ⟨fun ⟨i, a, b⟩ => ⟨i, by omega, b⟩, fun ⟨i, a, b, c⟩ => ⟨i, ?_, b, c⟩⟩⟩
  by_cases e : i = k
  · subst e; exact absurd b hk
  · omega
theorem Cho_take {R : Nat → Nat} {P : Nat → Prop} {k q : Nat} {Q Q' : Nat → Nat} (h : Cho R P k Q q) (hk : P k) (h1 : Inc Q' (q + 1)) (h2 : ∀ i, i < q + 1 → Q' i < 4096) (h3 : ∀ y, Im Q' (q + 1) y ↔ y = R k ∨ Im Q q y) : Cho R P (k + 1) Q' (q + 1) := by
  refine ⟨by have := h.1; omega, h1, h2, fun y => (h3 y).trans ?_⟩
  rw [h.2.2.2 y]
  constructor
  · rintro (rfl | ⟨i, a, b⟩)
    · exact ⟨k, by omega, hk, rfl⟩
    · exact ⟨i, by omega, b⟩
  · rintro ⟨i, a, b, c⟩
    by_cases e : i = k
    · subst e; exact Or.inl c.symm
    · exact Or.inr ⟨i, by omega, b, c⟩
theorem Cho_new {R : Nat → Nat} {P : Nat → Prop} {n k q : Nat} {Q : Nat → Nat} (hinc : Inc R n) (hk : k < n) (h : Cho R P k Q q) : ∀ i, i < q → Q i < R k := by
  intro i hi
  obtain ⟨z, a, b, c⟩ := (h.2.2.2 (Q i)).mp ⟨i, hi, rfl⟩
  rw [← c]
  exact hinc z k a hk
theorem app_inc {Q : Nat → Nat} {q x : Nat} (h : Inc Q q) (hx : ∀ i, i < q → Q i < x) : Inc (fun i => if i = q then x else Q i) (q + 1) ∧ ∀ y, Im (fun i => if i = q then x else Q i) (q + 1) y ↔ y = x ∨ Im Q q y := by
  constructor
  · intro i j hij hj
    dsimp only
    rw [if_neg (show ¬ i = q by omega)]
    by_cases e : j = q
    · rw [if_pos e]; exact hx i (by omega)
    · rw [if_neg e]; exact h i j hij (by omega)
  · intro y
    constructor
    · rintro ⟨i, hi, e⟩
      dsimp only at e
      by_cases q1 : i = q
      · rw [if_pos q1] at e; exact Or.inl e.symm
      · rw [if_neg q1] at e; exact Or.inr ⟨i, by omega, e⟩
    · rintro (rfl | ⟨i, hi, e⟩)
      · exact ⟨q, by omega, if_pos rfl⟩
      · exact ⟨i, by omega, (if_neg (show ¬ i = q by omega)).trans e⟩
theorem xlay_loop {g o : Nat → Int32} (hg : VA g 8 4096) {n : Nat} {R : Nat → Nat} (hn : n ≤ 14) (hinc : Inc R n) (hR : ∀ i, i < n → R i < 4096) (rc ec su : Int32) {cs : Nat → Int32} (hcs : ∀ k, k < n → cs k = nI (R k)) {lc hc lg hg2 : Nat → Int64} (hcov : CovOK g R n lc hc) (hal : AllLeft g lg hg2) {ch : Nat} (hch : ch < 2 ^ 14) {fu : Nat} (hf : 300 ≤ fu) : ∀ (m k q : Nat) (Q : Nat → Nat) (rs : Nat → Int32), k ≤ n → n < k + m → Cho R (fun i => ch.testBit i = true) k Q q → (∀ i, i < q → rs i = nI (Q i)) →
    ∃ (rs' : Nat → Int32) (q' : Nat) (Q' : Nat → Nat), m_X0_mineBest_35 fu g o rc ec su m (nI ch) (nI k) rs (nI q) cs (nI n) lc hc lg hg2 = some (.inr (cst g R n rc ec ch), rs', nI q', cs, nI n, lc, hc, lg, hg2) ∧ Cho R (fun i => ch.testBit i = true) n Q' q' ∧ ∀ i, i < q' → rs' i = nI (Q' i) := by
  intro m
  induction m with
  | zero => intro k q Q rs h1 h2; omega
  | succ m ih =>
    intro k q Q rs h1 h2 h3 h4
    rw [m_X0_mineBest_35]
    by_cases hk : k = n
    · subst hk
      rw [if_pos ((nI_leI (by omega) (by omega)).mpr (Nat.le_refl k)), costOfChoice_eq hg hn hR rc ec hcov hal hch (by omega), bnd1]
      exact ⟨rs, q, Q, rfl, h3, h4⟩
    · have hkn : k < n := by omega
      rw [if_neg (fun z => by have := (nI_leI (a := n) (b := k) (by omega) (by omega)).mp z; omega), has_eq (by omega) (by omega), ifb, ixI (show k < 255 by omega) (by decide), clI (by omega), hcs k hkn, nI_1]
      by_cases hb : ch.testBit k = true
      · rw [if_pos hb]
        have hnew := Cho_new hinc hkn h3
        obtain ⟨f', Q', e1, e2, e3, e4, e5⟩ := ins_eq (fu := fu) (by omega) (show q < 255 by have := h3.1; omega) (by decide) (hR k hkn) h3.2.2.1 h3.2.1 (fun ⟨i, a, b⟩ => by have := hnew i a; omega) h4
        rw [e1, bnd2]
        exact ih (k + 1) (q + 1) Q' f' (by omega) (by omega) (Cho_take h3 hb e2 e4 e5) e3
      · rw [if_neg hb]
        exact ih (k + 1) q Q rs (by omega) (by omega) (Cho_skip h3 hb) h4
theorem mlay_loop {g o : Nat → Int32} (hg : VA g 8 4096) {n : Nat} {R : Nat → Nat} (hn : n ≤ 14) (hinc : Inc R n) (hR : ∀ i, i < n → R i < 4096) (rc ec su : Int32) {fo : Nat → Int32} (hfo : ∀ k, k < n → fo k = nI (R k)) (co : Nat → Int32) (th : Int32) {ch : Nat} (hch : ch < 2 ^ 14) {fu : Nat} (hf : 300 ≤ fu) : ∀ (m k q : Nat) (Q : Nat → Nat) (la cv : Nat → Int32), k ≤ n → n < k + m → Cho R (fun i => ch.testBit i = true) k Q q → (∀ i, i < q → la i = nI (Q i)) →
    ∃ (la' cv' : Nat → Int32) (q' : Nat) (Q' : Nat → Nat), m_X1_mineBest_33 fu g o rc ec su m (nI ch) (nI k) la fo co cv (nI q) (nI n) th = some (cst g R n rc ec ch, la', fo, co, cv', nI q', nI n, th) ∧ Cho R (fun i => ch.testBit i = true) n Q' q' ∧ ∀ i, i < q' → la' i = nI (Q' i) := by
  intro m
  induction m with
  | zero => intro k q Q la cv h1 h2; omega
  | succ m ih =>
    intro k q Q la cv h1 h2 h3 h4
    rw [m_X1_mineBest_33]
    by_cases hk : k = n
    · subst hk
      obtain ⟨cv', e⟩ := price_eq hg hn hR rc ec hfo hch (fu := fu) (by omega) cv
      rw [if_pos ((nI_leI (by omega) (by omega)).mpr (Nat.le_refl k)), e, bnd2]
      exact ⟨la, cv', q, Q, rfl, h3, h4⟩
    · have hkn : k < n := by omega
      have hq := h3.1
      rw [if_neg (fun z => by have := (nI_leI (a := n) (b := k) (by omega) (by omega)).mp z; omega), isIn_eq (by omega) (by omega), ifb, ixI (show k < 256 by omega) (by decide), ixI (show q < 256 by omega) (by decide), clI (by omega), clI (by omega), hfo k hkn, nI_1, nI_1]
      by_cases hb : ch.testBit k = true
      · rw [if_pos hb]
        have hnew := Cho_new hinc hkn h3
        obtain ⟨e2, e5⟩ := app_inc h3.2.1 hnew
        refine ih (k + 1) (q + 1) _ _ cv (by omega) (by omega) (Cho_take h3 hb e2 (fun i hi => ?_) e5) (fun i hi => ?_)
        · by_cases z : i = q
          · rw [if_pos z]; exact hR k hkn
          · rw [if_neg z]; exact h3.2.2.1 i (by omega)
        · by_cases z : i = q
          · rw [if_pos z, z, pk_us]
          · rw [if_neg z, pk_un z]; exact h4 i (by omega)
      · rw [if_neg hb]
        exact ih (k + 1) q Q la cv (by omega) (by omega) (Cho_skip h3 hb) h4
theorem Cho_one {R : Nat → Nat} {P : Nat → Prop} {n q q' : Nat} {Q Q' : Nat → Nat} (h : Cho R P n Q q) (h' : Cho R P n Q' q') : q = q' ∧ ∀ k, k < q → Q k = Q' k := inc_ext h.2.1 h'.2.1 (fun x => (h.2.2.2 x).trans (h'.2.2.2 x).symm)
