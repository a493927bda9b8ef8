-- numbers in two parts, bit by bit
theorem two_bit {a b i : Nat} (h : a < 2 ^ i) (j : Nat) : (a + 2 ^ i * b).testBit j = if j < i then a.testBit j else b.testBit (j - i) := by
  rw [Nat.add_comm, Nat.testBit_two_pow_mul_add b h j]
theorem an_two {a b c d i : Nat} (h : a < 2 ^ i) (h2 : c < 2 ^ i) : an (a + 2 ^ i * b) (c + 2 ^ i * d) = an a c + 2 ^ i * an b d := by
  apply Nat.eq_of_testBit_eq
  intro j
  rw [an_bit, two_bit h, two_bit h2, two_bit (an_lt h)]
  by_cases q : j < i
  · rw [if_pos q, if_pos q, if_pos q, an_bit]
  · rw [if_neg q, if_neg q, if_neg q, an_bit]
theorem and_two {a b c d i : Nat} (h : a < 2 ^ i) (h2 : c < 2 ^ i) : (a + 2 ^ i * b) &&& (c + 2 ^ i * d) = (a &&& c) + 2 ^ i * (b &&& d) := by
  apply Nat.eq_of_testBit_eq
  intro j
  rw [Nat.testBit_and, two_bit h, two_bit h2, two_bit (Nat.lt_of_le_of_lt Nat.and_le_left h)]
  by_cases q : j < i
  · rw [if_pos q, if_pos q, if_pos q, Nat.testBit_and]
  · rw [if_neg q, if_neg q, if_neg q, Nat.testBit_and]
theorem pkn_an {L M : Nat → Nat} (hL : ∀ u, L u < 4096) (hM : ∀ u, M u < 4096) : ∀ k, an (pkn L k) (pkn M k) = pkn (fun u => an (L u) (M u)) k
  | 0 => show an 0 0 = 0 by decide
  | k + 1 => by rw [pkn, pkn, pkn, an_two (pkn_lt hL k) (pkn_lt hM k), pkn_an hL hM k]
theorem pkn_and {L M : Nat → Nat} (hL : ∀ u, L u < 4096) (hM : ∀ u, M u < 4096) : ∀ k, (pkn L k) &&& (pkn M k) = pkn (fun u => L u &&& M u) k
  | 0 => show (0 : Nat) &&& 0 = 0 by decide
  | k + 1 => by rw [pkn, pkn, pkn, and_two (pkn_lt hL k) (pkn_lt hM k), pkn_and hL hM k]
theorem pkn_pc {L : Nat → Nat} (hL : ∀ u, L u < 4096) : ∀ k, pcb (12 * k) (pkn L k) = fb_sm (fun u => pc (L u)) k
  | 0 => by rw [pkn, fb_sm]; rfl
  | k + 1 => by
    rw [pkn, fb_sm_succ, show 12 * (k + 1) = 12 * k + 12 by omega, pcb_split (12 * k) 12 _ _ (pkn_lt hL k), pkn_pc hL k, pc_of (n := L k) 12 (by decide) (hL k)]
def cntL (L : Nat → Nat) : Nat := fb_sm (fun u => pc (L u)) 8
theorem loP_lt {L : Nat → Nat} (hL : ∀ u, L u < 4096) : loP L < 2 ^ 48 := pkn_lt hL 4
theorem hiP_lt {L : Nat → Nat} (hL : ∀ u, L u < 4096) : hiP L < 2 ^ 48 := pkn_lt (fun u => hL (u + 4)) 4
theorem cnt_pack {L : Nat → Nat} (hL : ∀ u, L u < 4096) : pc (loP L) + pc (hiP L) = cntL L := by
  rw [pc_of 48 (by decide) (loP_lt hL), pc_of 48 (by decide) (hiP_lt hL), cntL]
  have h1 := pkn_pc hL 4
  have h2 := pkn_pc (L := fun u => L (u + 4)) (fun u => hL (u + 4)) 4
  have h3 := fb_sm_split (fun u => pc (L u)) 4 4
  have e1 : pcb 48 (loP L) = fb_sm (fun u => pc (L u)) 4 := h1
  have e2 : pcb 48 (hiP L) = fb_sm (fun u => pc (L (u + 4))) 4 := h2
  rw [e1, e2, show (8 : Nat) = 4 + 4 from rfl, h3]
  refine congrArg (fun z => fb_sm (fun u => pc (L u)) 4 + z) (fb_sm_cong (fun k _ => ?_))
  show pc (L (k + 4)) = pc (L (4 + k))
  rw [Nat.add_comm]
theorem costWith_eq {L : Nat → Nat} (hL : ∀ u, L u < 4096) (rc ec c : Int32) : m_X0_costWith rc ec c (lN (loP L)) (lN (hiP L)) = rc * c + ec * nI (cntL L) := by
  rw [m_X0_costWith, bc64 (Nat.lt_trans (loP_lt hL) (by decide)), bc64 (Nat.lt_trans (hiP_lt hL) (by decide)), nI_add, cnt_pack hL]
-- what a choice covers, and what it leaves
def CV (g : Nat → Int32) (R : Nat → Nat) (ch : Nat) : Nat → Nat → Nat
  | 0, _ => 0
  | k + 1, u => if ch.testBit k = true then CV g R ch k u ||| cvr g (R k) u else CV g R ch k u
def LF (g : Nat → Int32) (R : Nat → Nat) (n ch : Nat) (u : Nat) : Nat := an (gr8 g u) (CV g R ch n u)
theorem LF_lt {g : Nat → Int32} (hg : VA g 8 4096) (R : Nat → Nat) (n ch u : Nat) : LF g R n ch u < 4096 := an_lt (k := 12) (gr8_lt hg u)
theorem an_an (a b c : Nat) : an (an a b) c = an a (b ||| c) := by
  apply Nat.eq_of_testBit_eq
  intro i
  rw [an_bit, an_bit, an_bit, Nat.testBit_or]
  cases a.testBit i <;> cases b.testBit i <;> cases c.testBit i <;> rfl
theorem an_0 (a : Nat) : an a 0 = a := by rw [an, Nat.and_zero, Nat.xor_zero]
theorem CV_bit (g : Nat → Int32) (R : Nat → Nat) (ch : Nat) : ∀ (n u p : Nat), (CV g R ch n u).testBit p = true ↔ ∃ k, k < n ∧ ch.testBit k = true ∧ (cvr g (R k) u).testBit p = true
  | 0, u, p => by
    rw [CV, Nat.zero_testBit]
    exact ⟨fun h => absurd h (by decide), fun ⟨k, h, _⟩ => by omega⟩
  | n + 1, u, p => by
    have ih := CV_bit g R ch n u p
    rw [CV]
    by_cases h : ch.testBit n = true
    · rw [if_pos h, Nat.testBit_or, Bool.or_eq_true, ih]
      constructor
      · rintro (⟨k, a, b⟩ | q)
        · exact ⟨k, by omega, b⟩
        · exact ⟨n, by omega, h, q⟩
      · rintro ⟨k, a, b, c⟩
        by_cases q : k = n
        · subst q; exact Or.inr c
        · exact Or.inl ⟨k, by omega, b, c⟩
    · rw [if_neg h, ih]
      constructor
      · rintro ⟨k, a, b⟩
        exact ⟨k, by omega, b⟩
      · rintro ⟨k, a, b, c⟩
        by_cases q : k = n
        · subst q; exact absurd b h
        · exact ⟨k, by omega, b, c⟩
theorem CV_lt {g : Nat → Int32} {R : Nat → Nat} {n : Nat} (hR : ∀ i, i < n → R i < 4096) (ch u : Nat) : CV g R ch n u < 4096 := by
  refine bits_lt (n := 12) (fun i h => ?_)
  obtain ⟨k, hk, _, h⟩ := (CV_bit g R ch n u i).mp h
  exact bit_in (n := 12) (cvr_lt (hR k hk) u) h
def cst (g : Nat → Int32) (R : Nat → Nat) (n : Nat) (rc ec : Int32) (ch : Nat) : Int32 := rc * nI (pc ch) + ec * nI (cntL (LF g R n ch))
/-- the class's cost of a choice -/
theorem choice_loop {g : Nat → Int32} (hg : VA g 8 4096) {n : Nat} {R : Nat → Nat} (hn : n ≤ 14) (hR : ∀ i, i < n → R i < 4096) (rc ec : Int32) {lc hc lg hg2 : Nat → Int64} (hcov : CovOK g R n lc hc) {ch : Nat} (hch : ch < 2 ^ 14) (fu : Nat) : ∀ m k : Nat, k ≤ n → n < k + m → m_X0_costOfChoice_20 fu rc ec (nI n) lc hc lg hg2 (nI ch) m (lN (loP (LF g R k ch))) (lN (hiP (LF g R k ch))) (nI k) = some (cst g R n rc ec ch) := by
  intro m
  induction m with
  | zero => intro k h1 h2; omega
  | succ m ih =>
    intro k h1 h2
    rw [m_X0_costOfChoice_20]
    by_cases hk : k = n
    · subst hk
      rw [if_pos ((nI_leI (by omega) (by omega)).mpr (Nat.le_refl k)), costWith_eq (LF_lt hg R k ch), bc32 (by omega), cst]
    · have hkn : k < n := by omega
      rw [if_neg (fun q => by have := (nI_leI (a := n) (b := k) (by omega) (by omega)).mp q; omega), if_neg (fun q => by have := (nI_leI (a := 14) (b := k) (by decide) (by omega)).mp q; omega), has_eq (by omega) (by omega), ifb, ixI (show k < 255 by omega) (by decide), clI (by omega), (hcov k hkn).1, (hcov k hkn).2, anL, anL, nI_1]
      have e := ih (k + 1) (by omega) (by omega)
      by_cases h : ch.testBit k = true
      · rw [if_pos h]
        have e1 : LF g R (k + 1) ch = fun u => an (LF g R k ch u) (cvr g (R k) u) := by
          funext u
          show an _ (CV g R ch (k + 1) u) = _
          rw [CV, if_pos h, ← an_an]
          rfl
        have e2 : an (loP (LF g R k ch)) (loP (cvr g (R k))) = loP (LF g R (k + 1) ch) := by
          rw [e1]; exact pkn_an (LF_lt hg R k ch) (cvr_lt (hR k hkn)) 4
        have e3 : an (hiP (LF g R k ch)) (hiP (cvr g (R k))) = hiP (LF g R (k + 1) ch) := by
          rw [e1]; exact pkn_an (fun u => LF_lt hg R k ch (u + 4)) (fun u => cvr_lt (hR k hkn) (u + 4)) 4
        rw [e2, e3]
        exact e
      · rw [if_neg h]
        have e1 : LF g R (k + 1) ch = LF g R k ch := by
          funext u
          show an _ (CV g R ch (k + 1) u) = _
          rw [CV, if_neg h]
          rfl
        rw [e1] at e
        exact e
theorem LF_0 (g : Nat → Int32) (R : Nat → Nat) (ch : Nat) : LF g R 0 ch = gr8 g := by
  funext u
  exact an_0 _
def AllLeft (g : Nat → Int32) (lg hg2 : Nat → Int64) : Prop := lg 14 = lN (loP (gr8 g)) ∧ hg2 14 = lN (hiP (gr8 g))
theorem costOfChoice_eq {g : Nat → Int32} (hg : VA g 8 4096) {n : Nat} {R : Nat → Nat} (hn : n ≤ 14) (hR : ∀ i, i < n → R i < 4096) (rc ec : Int32) {lc hc lg hg2 : Nat → Int64} (hcov : CovOK g R n lc hc) (hal : AllLeft g lg hg2) {ch : Nat} (hch : ch < 2 ^ 14) {fu : Nat} (hf : 20 ≤ fu) : m_X0_costOfChoice fu rc ec (nI n) lc hc lg hg2 (nI ch) = some (cst g R n rc ec ch) := by
  have h := choice_loop hg hn hR rc ec (lg := lg) (hg2 := hg2) hcov hch fu fu 0 (Nat.zero_le n) (by omega)
  rw [LF_0] at h
  rw [m_X0_costOfChoice, cl14, hal.1, hal.2]
  exact h
-- the model's covers
def RV (cv : Nat → Int32) (C : Nat → Nat) : Prop := ∀ u, u < 8 → cv u = nI (C u)
theorem add_loop {g : Nat → Int32} (hg : VA g 8 4096) {S : Nat} (hS : S < 4096) (C : Nat → Nat) (fu : Nat) : ∀ (m k : Nat) (cv : Nat → Int32), k ≤ 8 → 8 < k + m → (∀ u, u < 8 → cv u = nI (if u < k then C u ||| cvr g S u else C u)) →
    ∃ cv', m_X1_add_2 fu g (nI S) m (nI k) cv = some cv' ∧ RV cv' (fun u => C u ||| cvr g S u) := by
  intro m
  induction m with
  | zero => intro k cv h1 h2; omega
  | succ m ih =>
    intro k cv h1 h2 h3
    rw [m_X1_add_2]
    by_cases hk : k = 8
    · subst hk
      rw [if_pos ((c8 (by decide)).mpr (Nat.le_refl 8))]
      refine ⟨cv, rfl, fun u hu => ?_⟩
      have := h3 u hu
      rw [if_pos hu] at this
      exact this
    · have hk8 : k < 8 := by omega
      have e := h3 k hk8
      rw [if_neg (Nat.lt_irrefl k)] at e
      rw [if_neg (fun q => hk (by have := (c8 (k := k) (by omega)).mp q; omega)), ixI hk8 (by decide), isWithin_eq hg hk8 hS, bnd1, ifb, clI (by omega), e, show (0 : Int32) = nI 0 from rfl, fa_or, fa_or, nI_1]
      by_cases h : hold g k S
      · rw [if_pos h]
        refine ih (k + 1) _ (by omega) (by omega) (fun u hu => ?_)
        by_cases q : u = k
        · subst q
          rw [pk_us, if_pos (Nat.lt_succ_self u), cvr, if_pos ⟨hk8, h⟩]
        · rw [pk_un q, h3 u hu]
          by_cases q2 : u < k
          · rw [if_pos q2, if_pos (Nat.lt_succ_of_lt q2)]
          · rw [if_neg q2, if_neg (show ¬ u < k + 1 by omega)]
      · rw [if_neg h]
        refine ih (k + 1) _ (by omega) (by omega) (fun u hu => ?_)
        by_cases q : u = k
        · subst q
          rw [pk_us, if_pos (Nat.lt_succ_self u), cvr, if_neg (fun z => h z.2)]
        · rw [pk_un q, h3 u hu]
          by_cases q2 : u < k
          · rw [if_pos q2, if_pos (Nat.lt_succ_of_lt q2)]
          · rw [if_neg q2, if_neg (show ¬ u < k + 1 by omega)]
theorem add_eq {g : Nat → Int32} (hg : VA g 8 4096) {S : Nat} (hS : S < 4096) {C : Nat → Nat} {cv : Nat → Int32} (h : RV cv C) {fu : Nat} (hf : 9 ≤ fu) : ∃ cv', m_X1_add fu g cv (nI S) = some cv' ∧ RV cv' (fun u => C u ||| cvr g S u) :=
  add_loop hg hS C fu fu 0 cv (by decide) (by omega) (fun u hu => by rw [if_neg (Nat.not_lt_zero u)]; exact h u hu)
theorem uncover_loop (fu : Nat) : ∀ (m k : Nat) (cv : Nat → Int32), k ≤ 8 → 8 < k + m → (∀ u, u < k → cv u = nI 0) → ∃ cv', m_X1_uncover_2 fu m (nI k) cv = some cv' ∧ RV cv' (fun _ => 0) := by
  intro m
  induction m with
  | zero => intro k cv h1 h2; omega
  | succ m ih =>
    intro k cv h1 h2 h3
    rw [m_X1_uncover_2]
    by_cases hk : k = 8
    · subst hk
      rw [if_pos ((c8 (by decide)).mpr (Nat.le_refl 8))]
      exact ⟨cv, rfl, h3⟩
    · have hk8 : k < 8 := by omega
      rw [if_neg (fun q => hk (by have := (c8 (k := k) (by omega)).mp q; omega)), ixI hk8 (by decide), clI (by omega), nI_1]
      refine ih (k + 1) _ (by omega) (by omega) (fun u hu => ?_)
      by_cases q : u = k
      · subst q; rw [pk_us]; rfl
      · rw [pk_un q]; exact h3 u (by omega)
theorem uncover_eq {fu : Nat} (hf : 9 ≤ fu) (cv : Nat → Int32) : ∃ cv', m_X1_uncover fu cv = some cv' ∧ RV cv' (fun _ => 0) := uncover_loop fu fu 0 cv (by decide) (by omega) (fun u h => by omega)
theorem uncovered_loop {g : Nat → Int32} (hg : VA g 8 4096) {C : Nat → Nat} {cv : Nat → Int32} (h : RV cv C) {fu : Nat} (hf : 40 ≤ fu) : ∀ m k : Nat, k ≤ 8 → 8 < k + m → m_X1_uncovered_4 fu g cv m (nI (fb_sm (fun u => pc (an (gr8 g u) (C u))) k)) (nI k) = some (nI (cntL (fun u => an (gr8 g u) (C u)))) := by
  intro m
  induction m with
  | zero => intro k h1 h2; omega
  | succ m ih =>
    intro k h1 h2
    rw [m_X1_uncovered_4]
    by_cases hk : k = 8
    · subst hk
      rw [if_pos ((c8 (by decide)).mpr (Nat.le_refl 8))]
      rfl
    · have hk8 : k < 8 := by omega
      have e : g k = nI (gr8 g k) := by rw [gr8, if_pos hk8]; exact (hg k hk8).2
      have hl : an (gr8 g k) (C k) < 4096 := an_lt (k := 12) (gr8_lt hg k)
      rw [if_neg (fun q => hk (by have := (c8 (k := k) (by omega)).mp q; omega)), ixI hk8 (by decide), clI (by omega), e, h k hk8, anI, size_eq (by omega) (by omega), bnd1, nI_add, nI_1]
      have := ih (k + 1) (by omega) (by omega)
      rw [fb_sm_succ] at this
      exact this
theorem uncovered_eq {g : Nat → Int32} (hg : VA g 8 4096) {C : Nat → Nat} {cv : Nat → Int32} (h : RV cv C) {fu : Nat} (hf : 40 ≤ fu) : m_X1_uncovered fu g cv = some (nI (cntL (fun u => an (gr8 g u) (C u)))) := uncovered_loop hg h hf fu 0 (by decide) (by omega)
theorem price_loop {g : Nat → Int32} (hg : VA g 8 4096) {n : Nat} {R : Nat → Nat} (hn : n ≤ 14) (hR : ∀ i, i < n → R i < 4096) (rc ec : Int32) {fo : Nat → Int32} (hfo : ∀ k, k < n → fo k = nI (R k)) {ch : Nat} (hch : ch < 2 ^ 14) {fu : Nat} (hf : 40 ≤ fu) : ∀ (m k : Nat) (cv : Nat → Int32), k ≤ n → n < k + m → RV cv (CV g R ch k) → ∃ cv', m_X1_price_6 fu g fo rc ec (nI n) (nI ch) m (nI k) cv = some (cst g R n rc ec ch, cv') := by
  intro m
  induction m with
  | zero => intro k cv h1 h2; omega
  | succ m ih =>
    intro k cv h1 h2 h3
    rw [m_X1_price_6]
    by_cases hk : k = n
    · subst hk
      rw [if_pos ((nI_leI (by omega) (by omega)).mpr (Nat.le_refl k)), size_eq (by omega) (by omega), bnd1, uncovered_eq hg h3 hf, bnd1]
      exact ⟨cv, rfl⟩
    · have hkn : k < n := by omega
      rw [if_neg (fun q => by have := (nI_leI (a := n) (b := k) (by omega) (by omega)).mp q; omega), isIn_eq (by omega) (by omega), ifb, ixI (show k < 256 by omega) (by decide), clI (by omega), hfo k hkn, nI_1]
      by_cases h : ch.testBit k = true
      · rw [if_pos h]
        obtain ⟨cv', e, h4⟩ := add_eq hg (hR k hkn) h3 (fu := fu) (by omega)
        rw [e, bnd1]
        refine ih (k + 1) cv' (by omega) (by omega) (fun u hu => ?_)
        rw [CV, if_pos h]
        exact h4 u hu
      · rw [if_neg h]
        refine ih (k + 1) cv (by omega) (by omega) (fun u hu => ?_)
        rw [CV, if_neg h]
        exact h3 u hu
/-- the model's price of a choice is the same -/
theorem price_eq {g : Nat → Int32} (hg : VA g 8 4096) {n : Nat} {R : Nat → Nat} (hn : n ≤ 14) (hR : ∀ i, i < n → R i < 4096) (rc ec : Int32) {fo : Nat → Int32} (hfo : ∀ k, k < n → fo k = nI (R k)) {ch : Nat} (hch : ch < 2 ^ 14) {fu : Nat} (hf : 40 ≤ fu) (cv : Nat → Int32) : ∃ cv', m_X1_price fu g fo cv rc ec (nI n) (nI ch) = some (cst g R n rc ec ch, cv') := by
  obtain ⟨cv1, e1, h1⟩ := uncover_eq (fu := fu) (by omega) cv
  obtain ⟨cv2, e2⟩ := price_loop hg hn hR rc ec hfo hch hf fu 0 cv1 (Nat.zero_le n) (by omega) h1
  refine ⟨cv2, ?_⟩
  rw [m_X1_price, e1, bnd1]
  exact e2
