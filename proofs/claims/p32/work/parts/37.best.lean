-- the lowest bit
theorem low_split : ∀ (x : Nat), 0 < x → ∃ t j, x = 2 ^ t * (2 * j + 1) := by
  intro x
  induction x using Nat.strongRecOn with
  | ind x ih =>
    intro h
    rcases Nat.mod_two_eq_zero_or_one x with q | q
    · obtain ⟨t, j, e⟩ := ih (x / 2) (by omega) (by omega)
      refine ⟨t + 1, j, ?_⟩
      rw [Nat.pow_succ, Nat.mul_comm (2 ^ t) 2, Nat.mul_assoc, ← e]
      omega
    · exact ⟨0, x / 2, by rw [Nat.pow_zero, Nat.one_mul]; omega⟩
theorem low_bit (t j i : Nat) : (2 ^ t * (2 * j + 1)).testBit i = if i < t then false else if i = t then true else (2 ^ (t + 1) * j).testBit i := by
  have e := two_bit (a := 0) (b := 2 * j + 1) (i := t) (Nat.two_pow_pos t) i
  have e2 := two_bit (a := 0) (b := j) (i := t + 1) (Nat.two_pow_pos (t + 1)) i
  rw [Nat.zero_add] at e e2
  rw [e, e2]
  by_cases h : i < t
  · rw [if_pos h, if_pos h, Nat.zero_testBit]
  · rw [if_neg h, if_neg h]
    by_cases q : i = t
    · subst q
      rw [if_pos rfl, Nat.sub_self, Nat.testBit_zero]
      exact decide_eq_true (by omega)
    · rw [if_neg q, if_neg (show ¬ i < t + 1 by omega), show i - t = (i - (t + 1)) + 1 by omega, Nat.testBit_add_one]
      congr 1
      omega
theorem high_bit (t j i : Nat) (h : i < t + 1) : (2 ^ (t + 1) * j).testBit i = false := by
  have e2 := two_bit (a := 0) (b := j) (i := t + 1) (Nat.two_pow_pos (t + 1)) i
  rw [Nat.zero_add] at e2
  rw [e2, if_pos h, Nat.zero_testBit]
theorem low_pred (t j : Nat) : 2 ^ t * (2 * j + 1) - 1 = (2 ^ t - 1) + 2 ^ t * (2 * j) := by
  have := Nat.two_pow_pos t
  rw [Nat.mul_add, Nat.mul_one]
  omega
theorem low_kern (t j : Nat) : 2 ^ t * (2 * j + 1) &&& (2 ^ t * (2 * j + 1) - 1) = 2 ^ (t + 1) * j := by
  apply Nat.eq_of_testBit_eq
  intro i
  rw [Nat.testBit_and, low_pred, two_bit (show 2 ^ t - 1 < 2 ^ t by have := Nat.two_pow_pos t; omega), low_bit]
  by_cases h : i < t
  · rw [if_pos h, high_bit t j i (by omega), Bool.false_and]
  · rw [if_neg h, if_neg h]
    by_cases q : i = t
    · subst q
      rw [if_pos rfl, Nat.sub_self, Nat.testBit_zero, high_bit i j i (by omega), Bool.true_and]
      exact decide_eq_false (by omega)
    · rw [if_neg q, show i - t = (i - (t + 1)) + 1 by omega, Nat.testBit_add_one, show 2 * j / 2 = j by omega]
      have e2 := two_bit (a := 0) (b := j) (i := t + 1) (Nat.two_pow_pos (t + 1)) i
      rw [Nat.zero_add] at e2
      rw [e2, if_neg (show ¬ i < t + 1 by omega), Bool.and_self]
theorem low_mask (t j : Nat) : an (2 ^ t * (2 * j + 1) - 1) (2 ^ t * (2 * j + 1)) = 2 ^ t - 1 := by
  apply Nat.eq_of_testBit_eq
  intro i
  rw [an_bit, low_pred, two_bit (show 2 ^ t - 1 < 2 ^ t by have := Nat.two_pow_pos t; omega), low_bit, Nat.testBit_two_pow_sub_one]
  by_cases h : i < t
  · rw [if_pos h, if_pos h]
    simp [h]
  · rw [if_neg h, if_neg h, decide_eq_false h]
    by_cases q : i = t
    · rw [if_pos q]; simp
    · rw [if_neg q, show i - t = (i - (t + 1)) + 1 by omega, Nat.testBit_add_one, show 2 * j / 2 = j by omega]
      have e2 := two_bit (a := 0) (b := j) (i := t + 1) (Nat.two_pow_pos (t + 1)) i
      rw [Nat.zero_add] at e2
      rw [e2, if_neg (show ¬ i < t + 1 by omega), Bool.and_not_self]
theorem ntz_mask {x : Nat} (h : 0 < x) : (nI x ^^^ (-1)) &&& (nI x - 1) = nI (an (x - 1) x) := by
  have e : nI x - 1 = nI (x - 1) := by
    have := nI_pred (x - 1)
    rwa [Nat.sub_add_cancel h] at this
  rw [e, ← anI]
  exact Int32.and_comm _ _
def ntF (y : Int32) : Int32 := (if 0 < y then (if y ≤ 65536 then (if y ≤ 256 then (if y ≤ 16 then (if y ≤ 4 then (1 + ((Int32.toUInt32 y >>> (Int32.toUInt32 1 &&& Int32.toUInt32 31)).toInt32)) else ((1 + 2) + ((Int32.toUInt32 ((Int32.toUInt32 y >>> (Int32.toUInt32 2 &&& Int32.toUInt32 31)).toInt32) >>> (Int32.toUInt32 1 &&& Int32.toUInt32 31)).toInt32))) else (if ((Int32.toUInt32 y >>> (Int32.toUInt32 4 &&& Int32.toUInt32 31)).toInt32) ≤ 4 then ((1 + 4) + ((Int32.toUInt32 ((Int32.toUInt32 y >>> (Int32.toUInt32 4 &&& Int32.toUInt32 31)).toInt32) >>> (Int32.toUInt32 1 &&& Int32.toUInt32 31)).toInt32)) else (((1 + 4) + 2) + ((Int32.toUInt32 ((Int32.toUInt32 ((Int32.toUInt32 y >>> (Int32.toUInt32 4 &&& Int32.toUInt32 31)).toInt32) >>> (Int32.toUInt32 2 &&& Int32.toUInt32 31)).toInt32) >>> (Int32.toUInt32 1 &&& Int32.toUInt32 31)).toInt32)))) else (if ((Int32.toUInt32 y >>> (Int32.toUInt32 8 &&& Int32.toUInt32 31)).toInt32) ≤ 16 then (if ((Int32.toUInt32 y >>> (Int32.toUInt32 8 &&& Int32.toUInt32 31)).toInt32) ≤ 4 then ((1 + 8) + ((Int32.toUInt32 ((Int32.toUInt32 y >>> (Int32.toUInt32 8 &&& Int32.toUInt32 31)).toInt32) >>> (Int32.toUInt32 1 &&& Int32.toUInt32 31)).toInt32)) else (((1 + 8) + 2) + ((Int32.toUInt32 ((Int32.toUInt32 ((Int32.toUInt32 y >>> (Int32.toUInt32 8 &&& Int32.toUInt32 31)).toInt32) >>> (Int32.toUInt32 2 &&& Int32.toUInt32 31)).toInt32) >>> (Int32.toUInt32 1 &&& Int32.toUInt32 31)).toInt32))) else (if ((Int32.toUInt32 ((Int32.toUInt32 y >>> (Int32.toUInt32 8 &&& Int32.toUInt32 31)).toInt32) >>> (Int32.toUInt32 4 &&& Int32.toUInt32 31)).toInt32) ≤ 4 then (((1 + 8) + 4) + ((Int32.toUInt32 ((Int32.toUInt32 ((Int32.toUInt32 y >>> (Int32.toUInt32 8 &&& Int32.toUInt32 31)).toInt32) >>> (Int32.toUInt32 4 &&& Int32.toUInt32 31)).toInt32) >>> (Int32.toUInt32 1 &&& Int32.toUInt32 31)).toInt32)) else ((((1 + 8) + 4) + 2) + ((Int32.toUInt32 ((Int32.toUInt32 ((Int32.toUInt32 ((Int32.toUInt32 y >>> (Int32.toUInt32 8 &&& Int32.toUInt32 31)).toInt32) >>> (Int32.toUInt32 4 &&& Int32.toUInt32 31)).toInt32) >>> (Int32.toUInt32 2 &&& Int32.toUInt32 31)).toInt32) >>> (Int32.toUInt32 1 &&& Int32.toUInt32 31)).toInt32))))) else 0) else (y &&& 32))
theorem ntF_eq {a y : Int32} (h : ((a ^^^ (-1)) &&& (a - 1)) = y) (hy : y ≤ 65536) : m_J6_numberOfTrailingZeros_0f7a4 a = ntF y := by
  rw [m_J6_numberOfTrailingZeros_0f7a4, h, ntF]
  by_cases h0 : 0 < y
  · rw [if_pos h0, if_pos h0, if_pos hy, if_pos hy]
  · rw [if_neg h0, if_neg h0]
theorem ntF_tab : ∀ t, t < 15 → ntF (nI (2 ^ t - 1)) = nI t ∧ nI (2 ^ t - 1) ≤ 65536 := by decide +kernel
theorem ntz_eq {t j : Nat} (ht : t < 15) : m_J6_numberOfTrailingZeros_0f7a4 (nI (2 ^ t * (2 * j + 1))) = nI t := by
  have hp : 0 < 2 ^ t * (2 * j + 1) := Nat.mul_pos (Nat.two_pow_pos t) (by omega)
  obtain ⟨h1, h2⟩ := ntF_tab t ht
  rw [ntF_eq (y := nI (2 ^ t - 1)) (by rw [ntz_mask hp, low_mask]) h2, h1]
theorem ntz_0 : m_J6_numberOfTrailingZeros_0f7a4 (nI 0) = nI 32 := by decide
-- the choice of the least cost
theorem CV_z (g : Nat → Int32) (R : Nat → Nat) : ∀ (n u : Nat), CV g R 0 n u = 0
  | 0, _ => rfl
  | n + 1, u => by rw [CV, if_neg (by rw [Nat.zero_testBit]; decide), CV_z g R n u]
theorem LF_z (g : Nat → Int32) (R : Nat → Nat) (n : Nat) : LF g R n 0 = gr8 g := by
  funext u
  rw [LF, CV_z, an_0]
theorem CV_low {g : Nat → Int32} {R : Nat → Nat} {n t j : Nat} (ht : t < n) (u : Nat) : CV g R (2 ^ t * (2 * j + 1)) n u = CV g R (2 ^ (t + 1) * j) n u ||| cvr g (R t) u := by
  apply Nat.eq_of_testBit_eq
  intro p
  rw [Bool.eq_iff_iff, Nat.testBit_or, Bool.or_eq_true, CV_bit, CV_bit]
  constructor
  · rintro ⟨k, a, b, c⟩
    rw [low_bit] at b
    by_cases h : k < t
    · rw [if_pos h] at b; cases b
    · rw [if_neg h] at b
      by_cases q : k = t
      · subst q; exact Or.inr c
      · rw [if_neg q] at b; exact Or.inl ⟨k, a, b, c⟩
  · rintro (⟨k, a, b, c⟩ | c)
    · refine ⟨k, a, ?_, c⟩
      have h : ¬ k < t + 1 := fun q => by rw [high_bit t j k q] at b; cases b
      rw [low_bit, if_neg (by omega), if_neg (by omega)]
      exact b
    · exact ⟨t, ht, by rw [low_bit, if_neg (Nat.lt_irrefl t), if_pos rfl], c⟩
theorem LF_low {g : Nat → Int32} {R : Nat → Nat} {n t j : Nat} (ht : t < n) : LF g R n (2 ^ t * (2 * j + 1)) = fun u => an (LF g R n (2 ^ (t + 1) * j) u) (cvr g (R t) u) := by
  funext u
  rw [LF, CV_low ht, ← an_an]
  rfl
def SLOT (g : Nat → Int32) (R : Nat → Nat) (n c : Nat) (lg hg2 : Nat → Int64) : Prop := ∀ t j, t < 14 → 2 ^ t * (2 * j + 1) < c → c ≤ 2 ^ t * (2 * j + 1) + 2 ^ (t + 1) → lg t = lN (loP (LF g R n (2 ^ t * (2 * j + 1)))) ∧ hg2 t = lN (hiP (LF g R n (2 ^ t * (2 * j + 1))))
def bnew (K : Nat → Int32) (c b : Nat) : Nat := if K c < K b then c else if K c = K b then (if m_X0_comesBefore (nI c) (nI b) = 0 then b else c) else b
def bsel (K : Nat → Int32) : Nat → Nat → Nat → Nat
  | 0, _, b => b
  | d + 1, c, b => bsel K d (c + 1) (bnew K c b)
theorem low_one {t j t1 j1 : Nat} (h : 2 ^ t1 * (2 * j1 + 1) = 2 ^ t * (2 * j + 1)) : t1 = t := by
  have a1 := low_bit t j t1
  have a2 := low_bit t1 j1 t
  rw [← h, low_bit, if_neg (Nat.lt_irrefl t1), if_pos rfl] at a1
  rw [h, low_bit, if_neg (Nat.lt_irrefl t), if_pos rfl] at a2
  rcases Nat.lt_trichotomy t1 t with q | q | q
  · rw [if_pos q] at a1; cases a1
  · exact q
  · rw [if_pos q] at a2; cases a2
/-- what the slot of the rest holds -/
theorem slot_rest {g : Nat → Int32} {R : Nat → Nat} {n t j : Nat} (hn : n ≤ 14) {lg hg2 : Nat → Int64} (hal : AllLeft g lg hg2) (hs : SLOT g R n (2 ^ t * (2 * j + 1)) lg hg2) (hc : 2 ^ t * (2 * j + 1) < 2 ^ n) :
    ∃ r, r < 15 ∧ (if (14 : Int32) < m_J6_numberOfTrailingZeros_0f7a4 (nI (2 ^ (t + 1) * j)) then 14 else m_J6_numberOfTrailingZeros_0f7a4 (nI (2 ^ (t + 1) * j))) = nI r ∧ lg r = lN (loP (LF g R n (2 ^ (t + 1) * j))) ∧ hg2 r = lN (hiP (LF g R n (2 ^ (t + 1) * j))) := by
  rcases Nat.eq_zero_or_pos j with q | q
  · subst q
    refine ⟨14, by decide, ?_, ?_, ?_⟩
    · rw [Nat.mul_zero, ntz_0, if_pos (by decide)]; rfl
    · rw [Nat.mul_zero, LF_z]; exact hal.1
    · rw [Nat.mul_zero, LF_z]; exact hal.2
  · obtain ⟨r, j', e⟩ := low_split (2 ^ (t + 1) * j) (Nat.mul_pos (Nat.two_pow_pos _) q)
    have hP := Nat.two_pow_pos t
    have hce : 2 ^ t * (2 * j + 1) = 2 ^ (t + 1) * j + 2 ^ t := by
      rw [Nat.pow_succ, Nat.mul_add, Nat.mul_one, Nat.mul_assoc]
    have hr1 : t + 1 ≤ r := by
      rcases Nat.lt_or_ge r (t + 1) with z | z
      · have a := high_bit t j r z
        rw [e, low_bit, if_neg (Nat.lt_irrefl r), if_pos rfl] at a
        cases a
      · exact z
    have hr2 : r < n := bit_in (x := 2 ^ r * (2 * j' + 1)) (by omega) (by rw [low_bit, if_neg (Nat.lt_irrefl r), if_pos rfl])
    have hmono : 2 ^ t ≤ 2 ^ (r + 1) := Nat.pow_le_pow_right (by decide) (by omega)
    have h := hs r j' (by omega) (by omega) (by omega)
    refine ⟨r, by omega, ?_, by rw [e]; exact h.1, by rw [e]; exact h.2⟩
    rw [e, ntz_eq (by omega), if_neg (fun z => by have := (nI_ltI (a := 14) (b := r) (by decide) (by omega)).mp z; omega)]
theorem slot_next {g : Nat → Int32} {R : Nat → Nat} {n t j : Nat} (ht : t < 14) {lg hg2 : Nat → Int64} (hs : SLOT g R n (2 ^ t * (2 * j + 1)) lg hg2) {a b : Int64} (ha : a = lN (loP (LF g R n (2 ^ t * (2 * j + 1))))) (hb : b = lN (hiP (LF g R n (2 ^ t * (2 * j + 1))))) : SLOT g R n (2 ^ t * (2 * j + 1) + 1) (vp_updL lg t a) (vp_updL hg2 t b) := by
  intro t1 j1 h1 h2 h3
  by_cases q : t1 = t
  · subst q
    have hP := Nat.two_pow_pos t1
    have e1 : 2 ^ t1 * (2 * j1 + 1) ≤ 2 ^ t1 * (2 * j + 1) := by omega
    have e2 : 2 ^ t1 * (2 * j + 1) < 2 ^ t1 * (2 * j1 + 1 + 2) := by
      rw [Nat.mul_add _ (2 * j1 + 1) 2, ← Nat.pow_succ]; omega
    have e3 := Nat.le_of_mul_le_mul_left e1 hP
    have e4 := Nat.lt_of_mul_lt_mul_left e2
    have e5 : j1 = j := by omega
    subst e5
    rw [pk_uLs, pk_uLs]
    exact ⟨ha, hb⟩
  · have hne : 2 ^ t1 * (2 * j1 + 1) ≠ 2 ^ t * (2 * j + 1) := fun e => q (low_one e)
    rw [pk_uLn q, pk_uLn q]
    exact hs t1 j1 h1 (by omega) (by omega)
theorem best_loop {g : Nat → Int32} (hg : VA g 8 4096) {n : Nat} {R : Nat → Nat} (hn : n ≤ 14) (hR : ∀ i, i < n → R i < 4096) (rc ec : Int32) {lc hc : Nat → Int64} (hcov : CovOK g R n lc hc) (fu : Nat) : ∀ (d c b m : Nat) (lg hg2 : Nat → Int64), c + d = 2 ^ n → 1 ≤ c → d < m → b < 2 ^ n → SLOT g R n c lg hg2 → AllLeft g lg hg2 →
    ∃ lg' hg', m_X0_bestChoice_23 fu rc ec (nI n) lc hc m (nI (2 ^ n)) (nI b) (cst g R n rc ec b) (nI c) lg hg2 = some (nI (bsel (cst g R n rc ec) d c b), lg', hg') ∧ AllLeft g lg' hg' := by
  have hN : 2 ^ n ≤ 2 ^ 14 := Nat.pow_le_pow_right (by decide) hn
  intro d
  induction d with
  | zero =>
    intro c b m lg hg2 h1 h2 h3 h4 h5 h6
    obtain ⟨m, rfl⟩ : ∃ k, m = k + 1 := ⟨m - 1, by omega⟩
    have hc : c = 2 ^ n := by omega
    subst hc
    rw [m_X0_bestChoice_23, if_pos ((nI_leI (by omega) (by omega)).mpr (Nat.le_refl _))]
    exact ⟨lg, hg2, rfl, h6⟩
  | succ d ih =>
    intro c b m lg hg2 h1 h2 h3 h4 h5 h6
    obtain ⟨m, rfl⟩ : ∃ k, m = k + 1 := ⟨m - 1, by omega⟩
    have hcn : c < 2 ^ n := by omega
    obtain ⟨t, j, e⟩ := low_split c h2
    subst e
    have ht : t < n := bit_in hcn (by rw [low_bit, if_neg (Nat.lt_irrefl t), if_pos rfl])
    obtain ⟨r, hr, e1, e2, e3⟩ := slot_rest hn h6 h5 hcn
    have e4 : nI (2 ^ t * (2 * j + 1)) &&& (nI (2 ^ t * (2 * j + 1)) - 1) = nI (2 ^ (t + 1) * j) := by
      have e5 : nI (2 ^ t * (2 * j + 1)) - 1 = nI (2 ^ t * (2 * j + 1) - 1) := by
        have := nI_pred (2 ^ t * (2 * j + 1) - 1)
        rwa [Nat.sub_add_cancel h2] at this
      rw [e5, fa_and, low_kern]
    have e6 : (if (13 : Int32) < nI t then 13 else nI t) = nI t := if_neg (fun z => by have := (nI_ltI (a := 13) (b := t) (by decide) (by omega)).mp z; omega)
    have hLr : ∀ u, LF g R n (2 ^ (t + 1) * j) u < 4096 := LF_lt hg R n _
    have e7 : an (loP (LF g R n (2 ^ (t + 1) * j))) (loP (cvr g (R t))) = loP (LF g R n (2 ^ t * (2 * j + 1))) := by
      rw [LF_low ht]; exact pkn_an hLr (cvr_lt (hR t ht)) 4
    have e8 : an (hiP (LF g R n (2 ^ (t + 1) * j))) (hiP (cvr g (R t))) = hiP (LF g R n (2 ^ t * (2 * j + 1))) := by
      rw [LF_low ht]; exact pkn_an (fun u => hLr (u + 4)) (fun u => cvr_lt (hR t ht) (u + 4)) 4
    rw [m_X0_bestChoice_23, if_neg (fun z => by have := (nI_leI (a := 2 ^ n) (b := 2 ^ t * (2 * j + 1)) (by omega) (by omega)).mp z; omega), e4, e1, ntz_eq (show t < 15 by omega), e6, clI (k := r) (by omega), clI (k := t) (by omega), e2, e3, (hcov t ht).1, (hcov t ht).2, anL, anL, e7, e8, pk_uLs, pk_uLs, ixI (k := r) hr (by decide), ixI (k := t) (by omega) (by decide), ixI (k := t) (by omega) (by decide), costWith_eq (LF_lt hg R n _), bc32 (by omega), nI_1]
    have hsn := slot_next (show t < 14 by omega) h5 (a := lN (loP (LF g R n (2 ^ t * (2 * j + 1))))) (b := lN (hiP (LF g R n (2 ^ t * (2 * j + 1))))) rfl rfl
    have hal2 : AllLeft g (vp_updL lg t (lN (loP (LF g R n (2 ^ t * (2 * j + 1)))))) (vp_updL hg2 t (lN (hiP (LF g R n (2 ^ t * (2 * j + 1)))))) := ⟨by rw [pk_uLn (by omega)]; exact h6.1, by rw [pk_uLn (by omega)]; exact h6.2⟩
    have go : ∀ b', b' < 2 ^ n → bnew (cst g R n rc ec) (2 ^ t * (2 * j + 1)) b = b' → ∃ lg' hg', m_X0_bestChoice_23 fu rc ec (nI n) lc hc m (nI (2 ^ n)) (nI b') (cst g R n rc ec b') (nI (2 ^ t * (2 * j + 1) + 1)) (vp_updL lg t (lN (loP (LF g R n (2 ^ t * (2 * j + 1)))))) (vp_updL hg2 t (lN (hiP (LF g R n (2 ^ t * (2 * j + 1)))))) = some (nI (bsel (cst g R n rc ec) (d + 1) (2 ^ t * (2 * j + 1)) b), lg', hg') ∧ AllLeft g lg' hg' := by
      intro b' hb' e
      rw [bsel, e]
      exact ih _ b' m _ _ (by omega) (by omega) (by omega) hb' hsn hal2
    have ek : rc * nI (pc (2 ^ t * (2 * j + 1))) + ec * nI (cntL (LF g R n (2 ^ t * (2 * j + 1)))) = cst g R n rc ec (2 ^ t * (2 * j + 1)) := rfl
    rw [ek]
    by_cases k1 : cst g R n rc ec (2 ^ t * (2 * j + 1)) < cst g R n rc ec b
    · rw [if_pos k1]
      exact go _ hcn (by rw [bnew, if_pos k1])
    · rw [if_neg k1]
      by_cases k2 : cst g R n rc ec (2 ^ t * (2 * j + 1)) = cst g R n rc ec b
      · rw [if_pos k2]
        by_cases k3 : m_X0_comesBefore (nI (2 ^ t * (2 * j + 1))) (nI b) = 0
        · rw [if_pos k3]
          exact go _ h4 (by rw [bnew, if_neg k1, if_pos k2, if_pos k3])
        · rw [if_neg k3]
          exact go _ hcn (by rw [bnew, if_neg k1, if_pos k2, if_neg k3])
      · rw [if_neg k2]
        exact go _ h4 (by rw [bnew, if_neg k1, if_neg k2])
