-- laying the roles greedily
theorem pc_part {a b : Nat} (ha : a < 4096) : pc (an a b) + pc (a &&& b) = pc a := by
  have h1 : an a b < 2 ^ 12 := an_lt ha
  have h2 : a &&& b < 2 ^ 12 := Nat.lt_of_le_of_lt Nat.and_le_left ha
  rw [pc_of 12 (by decide) h1, pc_of 12 (by decide) h2, pc_of (n := a) 12 (by decide) ha, pcb_bits, pcb_bits, pcb_bits, ← fb_sm_add]
  refine fb_sm_cong (fun j _ => ?_)
  show an a b / 2 ^ j % 2 + (a &&& b) / 2 ^ j % 2 = a / 2 ^ j % 2
  rw [tb_if, tb_if, tb_if, an_bit, Nat.testBit_and]
  cases a.testBit j <;> cases b.testBit j <;> rfl
theorem cnt_part {L M : Nat → Nat} (hL : ∀ u, L u < 4096) : cntL (fun u => an (L u) (M u)) + cntL (fun u => L u &&& M u) = cntL L := by
  rw [cntL, cntL, cntL, ← fb_sm_add]
  exact fb_sm_cong (fun u _ => pc_part (hL u))
/-- the sets covered by the candidates chosen -/
def Cov (g : Nat → Int32) (R : Nat → Nat) (n : Nat) (T : Nat → Bool) (C : Nat → Nat) : Prop := ∀ u p, (C u).testBit p = true ↔ ∃ k, k < n ∧ T k = true ∧ (cvr g (R k) u).testBit p = true
theorem Cov_keep {g : Nat → Int32} {R : Nat → Nat} {n : Nat} {T : Nat → Bool} {C : Nat → Nat} (h : Cov g R n T C) {k : Nat} (hk : k < n) (ht : T k = true) (u : Nat) : cvr g (R k) u &&& C u = cvr g (R k) u := by
  apply Nat.eq_of_testBit_eq
  intro p
  rw [Nat.testBit_and]
  cases q : (cvr g (R k) u).testBit p
  · rfl
  · rw [(h u p).mpr ⟨k, hk, ht, q⟩]; rfl
theorem Cov_take {g : Nat → Int32} {R : Nat → Nat} {n : Nat} {T : Nat → Bool} {C : Nat → Nat} (h : Cov g R n T C) {z : Nat} (hz : z < n) : Cov g R n (fun i => if i = z then true else T i) (fun u => C u ||| cvr g (R z) u) := by
  intro u p
  dsimp only
  rw [Nat.testBit_or, Bool.or_eq_true, h u p]
  constructor
  · rintro (⟨k, a, b, c⟩ | q)
    · refine ⟨k, a, ?_, c⟩
      split
      · rfl
      · exact b
    · exact ⟨z, hz, if_pos rfl, q⟩
  · rintro ⟨k, a, b, c⟩
    by_cases e : k = z
    · subst e; exact Or.inr c
    · rw [if_neg e] at b; exact Or.inl ⟨k, a, b, c⟩
abbrev Lf (g : Nat → Int32) (C : Nat → Nat) : Nat → Nat := fun u => an (gr8 g u) (C u)
theorem gr_rounds {g o : Nat → Int32} (hg : VA g 8 4096) {n : Nat} {R : Nat → Nat} (hn : n ≤ 255) (hinc : Inc R n) (hR : ∀ i, i < n → R i < 4096) {r e : Nat} (hr : r ≤ 100) (he : e ≤ 100) (su : Int32) {cs : Nat → Int32} (hcs : ∀ k, k < n → cs k = nI (R k)) {lc hc : Nat → Int64} (lg hg2 : Nat → Int64) (hcov : CovOK g R n lc hc) {fu : Nat} (hf : 20000 ≤ fu) : ∀ (d q m : Nat) (Q : Nat → Nat) (rs : Nat → Int32) (C : Nat → Nat) (T : Nat → Bool), q + d = n → d < m → Cho R (fun i => T i = true) n Q q → (∀ i, i < q → rs i = nI (Q i)) → Cov g R n T C →
    ∃ (rs' : Nat → Int32) (q' : Nat) (Q' : Nat → Nat) (C' : Nat → Nat) (T' : Nat → Bool),
      m_X0_mineGreedily_28 fu g o (nI r) (nI e) su m (lN (loP (Lf g C))) (lN (hiP (Lf g C))) (nI q) rs (nI q) cs (nI n) lc hc lg hg2 = some (nI (r * q' + e * cntL (Lf g C')), rs', nI q', cs, nI n, lc, hc, lg, hg2) ∧
      Cho R (fun i => T' i = true) n Q' q' ∧ (∀ i, i < q' → rs' i = nI (Q' i)) ∧ Cov g R n T' C' ∧ r * q' + e * cntL (Lf g C') ≤ r * q + e * cntL (Lf g C) := by
  intro d
  induction d with
  | zero =>
    intro q m Q rs C T h1 h2 h3 h4 h5
    obtain ⟨m, rfl⟩ : ∃ k, m = k + 1 := ⟨m - 1, by omega⟩
    have hL : ∀ u, Lf g C u < 4096 := fun u => an_lt (k := 12) (gr8_lt hg u)
    refine ⟨rs, q, Q, C, T, ?_, h3, h4, h5, Nat.le_refl _⟩
    rw [m_X0_mineGreedily_28, if_pos (nI_le (by omega) (by omega)), costWith_eq hL, nI_mulI, nI_mulI, nI_add]
  | succ d ih =>
    intro q m Q rs C T h1 h2 h3 h4 h5
    obtain ⟨m, rfl⟩ : ∃ k, m = k + 1 := ⟨m - 1, by omega⟩
    have hqn : q < n := by omega
    have hL : ∀ u, Lf g C u < 4096 := fun u => an_lt (k := 12) (gr8_lt hg u)
    have hgn : ∀ S, gn g (Lf g C) S ≤ 96 := fun S => cntL_le (fun u _ => Nat.lt_of_le_of_lt Nat.and_le_left (hL u))
    have hmul : ∀ S, e * gn g (Lf g C) S ≤ 9600 := fun S => by
      have := Nat.mul_le_mul he (hgn S)
      omega
    rw [m_X0_mineGreedily_28, if_neg (nI_ge hqn (by omega)), xsel_eq hn hR (nI r) (nI e) hcov hL (by omega), bnd1]
    cases hsel : sel (sav g R (nI r) (nI e) (Lf g C)) n 0 none 0 with
    | none =>
      refine ⟨rs, q, Q, C, T, ?_, h3, h4, h5, Nat.le_refl _⟩
      rw [enc, if_pos (by decide), costWith_eq hL, nI_mulI, nI_mulI, nI_add]
    | some z =>
      obtain ⟨hz1, hz2⟩ := sel_in n 0 none 0 z (by decide) (fun i hi => by cases hi) hsel
      have hz : z < n := by omega
      have hgain : r < e * gn g (Lf g C) (R z) := by
        rw [sav, nI_mulI, fa_lt, pk_sub_toInt (by have := hmul (R z); omega) (by omega), show (0 : Int32).toInt = 0 from rfl] at hz2
        omega
      have hTz : ¬ T z = true := fun ht => by
        have := gn_zero (g := g) (C := C) (S := R z) (fun u _ => Cov_keep h5 hz ht u)
        rw [show gn g (Lf g C) (R z) = 0 from this, Nat.mul_zero] at hgain
        omega
      have hnew : ¬ Im Q q (R z) := fun hI => by
        obtain ⟨i, a, b, c⟩ := (h3.2.2.2 (R z)).mp hI
        rcases Nat.lt_trichotomy i z with w | w | w
        · have := hinc i z w hz; omega
        · subst w; exact hTz b
        · have := hinc z i w a; omega
      obtain ⟨f', Q', i1, i2, i3, i4, i5⟩ := ins_eq (fu := fu) (by omega) (show q < 255 by omega) (by decide) (hR z hz) h3.2.2.1 h3.2.1 hnew h4
      have hCho : Cho R (fun i => (fun i => if i = z then true else T i) i = true) n Q' (q + 1) := by
        refine ⟨by omega, i2, i4, fun y => (i5 y).trans ?_⟩
        rw [h3.2.2.2 y]
        constructor
        · rintro (rfl | ⟨i, a, b, c⟩)
          · exact ⟨z, hz, if_pos rfl, rfl⟩
          · refine ⟨i, a, ?_, c⟩
            dsimp only
            split
            · rfl
            · exact b
        · rintro ⟨i, a, b, c⟩
          by_cases w : i = z
          · subst w; exact Or.inl c.symm
          · dsimp only at b
            rw [if_neg w] at b
            exact Or.inr ⟨i, a, b, c⟩
      obtain ⟨rs', q', Q2, C2, T2, j1, j2, j3, j4, j5⟩ := ih (q + 1) m Q' f' (fun u => C u ||| cvr g (R z) u) (fun i => if i = z then true else T i) (by omega) (by omega) hCho i3 (Cov_take h5 hz)
      have eL : Lf g (fun u => C u ||| cvr g (R z) u) = fun u => an (Lf g C u) (cvr g (R z) u) := by
        funext u
        show an (gr8 g u) (C u ||| cvr g (R z) u) = an (an (gr8 g u) (C u)) (cvr g (R z) u)
        rw [an_an]
      have e7 : an (loP (Lf g C)) (loP (cvr g (R z))) = loP (Lf g (fun u => C u ||| cvr g (R z) u)) := by
        rw [eL]; exact pkn_an hL (cvr_lt (hR z hz)) 4
      have e8 : an (hiP (Lf g C)) (hiP (cvr g (R z))) = hiP (Lf g (fun u => C u ||| cvr g (R z) u)) := by
        rw [eL]; exact pkn_an (fun u => hL (u + 4)) (fun u => cvr_lt (hR z hz) (u + 4)) 4
      refine ⟨rs', q', Q2, C2, T2, ?_, j2, j3, j4, Nat.le_trans j5 ?_⟩
      · rw [enc, if_neg (nI_pos (by omega)), if_pos ((nI_ltI (by omega) (by omega)).mpr hz), ixI (show z < 255 by omega) (by decide), clI (by omega), hcs z hz, i1, bnd2, (hcov z hz).1, (hcov z hz).2, anL, anL, e7, e8, nI_1]
        exact j1
      · have hp := cnt_part (L := Lf g C) (M := cvr g (R z)) hL
        rw [eL, ← hp]
        have hd : e * (cntL (fun u => an (Lf g C u) (cvr g (R z) u)) + cntL (fun u => Lf g C u &&& cvr g (R z) u)) = e * cntL (fun u => an (Lf g C u) (cvr g (R z) u)) + e * gn g (Lf g C) (R z) := Nat.mul_add _ _ _
        rw [hd, Nat.mul_add, Nat.mul_one]
        omega
theorem roles_cost {g : Nat → Int32} {R : Nat → Nat} {n q : Nat} {Q : Nat → Nat} {T : Nat → Bool} {C : Nat → Nat} (h : Cho R (fun i => T i = true) n Q q) (hC : Cov g R n T C) : fb_sm (EXt g Q q) 8 = cntL (Lf g C) := fb_sm_cong (fun u hu => by
  show pc (an (nv g u) (JRn g Q u q)) = pc (an (gr8 g u) (C u))
  rw [gr8, if_pos hu, join_union hu h (hC u)])
/-- a choice as a number -/
def mkc (T : Nat → Bool) : Nat → Nat
  | 0 => 0
  | k + 1 => if T k = true then mkc T k ||| 2 ^ k else mkc T k
theorem mkc_bit (T : Nat → Bool) : ∀ k i : Nat, (mkc T k).testBit i = true ↔ i < k ∧ T i = true
  | 0, i => by
    rw [mkc, Nat.zero_testBit]
    exact ⟨fun h => absurd h (by decide), fun h => by omega⟩
  | k + 1, i => by
    have ih := mkc_bit T k i
    rw [mkc]
    by_cases h : T k = true
    · rw [if_pos h, fb_bit_set, Bool.or_eq_true, ih, decide_eq_true_eq]
      constructor
      · rintro (⟨a, b⟩ | rfl)
        · exact ⟨by omega, b⟩
        · exact ⟨Nat.lt_succ_self i, h⟩
      · rintro ⟨a, b⟩
        by_cases q : i = k
        · exact Or.inr q
        · exact Or.inl ⟨by omega, b⟩
    · rw [if_neg h, ih]
      constructor
      · rintro ⟨a, b⟩
        exact ⟨by omega, b⟩
      · rintro ⟨a, b⟩
        by_cases q : i = k
        · subst q; exact absurd b h
        · exact ⟨by omega, b⟩
theorem mkc_lt (T : Nat → Bool) (k : Nat) : mkc T k < 2 ^ k := bits_lt (fun i h => ((mkc_bit T k i).mp h).1)
theorem greedy_choice {g : Nat → Int32} {R : Nat → Nat} {n q : Nat} {Q : Nat → Nat} {T : Nat → Bool} {C : Nat → Nat} (hn : n ≤ 14) (hinc : Inc R n) (hR : ∀ i, i < n → R i < 4096) (h : Cho R (fun i => T i = true) n Q q) (hC : Cov g R n T C) (r e : Nat) : cst g R n (nI r) (nI e) (mkc T n) = nI (r * q + e * cntL (Lf g C)) := by
  have e1 : q = pc (mkc T n) := by
    rw [pc_ct (show n ≤ 64 by omega) (mkc_lt T n)]
    exact Cho_count hinc hR h (fun i => (mkc T n).testBit i) (fun i hi => (mkc_bit T n i).trans ⟨fun z => z.2, fun z => ⟨hi, z⟩⟩)
  have e2 : LF g R n (mkc T n) = Lf g C := by
    funext u
    show an (gr8 g u) (CV g R (mkc T n) n u) = an (gr8 g u) (C u)
    congr 1
    apply Nat.eq_of_testBit_eq
    intro p
    rw [Bool.eq_iff_iff, CV_bit, hC u p]
    constructor
    · rintro ⟨k, a, b, c⟩
      exact ⟨k, a, ((mkc_bit T n k).mp b).2, c⟩
    · rintro ⟨k, a, b, c⟩
      exact ⟨k, a, (mkc_bit T n k).mpr ⟨a, b⟩, c⟩
  rw [cst_nI, ← e1, e2]
/-- what mineGreedily leaves -/
theorem v_mineGreedily {g o : Nat → Int32} (hg : VA g 8 4096) (ho : VA o 12 4096) {s n : Nat} {R : Nat → Nat} (hs : s ≤ 8) (hC : CandOK g o s n R) {fu : Nat} (hf : 20000 ≤ fu) {r e : Nat} (hr : r ≤ 100) (he : e ≤ 100) (rs : Nat → Int32) (rn : Int32) (cs : Nat → Int32) (cn : Int32) (lc hc lg hg2 : Nat → Int64) :
    ∃ (rs' cs' : Nat → Int32) (cn' : Int32) (lc' hc' lg' hg' : Nat → Int64) (q : Nat) (Q C : Nat → Nat) (T : Nat → Bool), m_X0_mineGreedily fu g o (nI r) (nI e) (nI s) rs rn cs cn lc hc lg hg2 = some (nI (r * q + e * cntL (Lf g C)), rs', nI q, cs', cn', lc', hc', lg', hg') ∧
      Cho R (fun i => T i = true) n Q q ∧ (∀ i, i < q → rs' i = nI (Q i)) ∧ Cov g R n T C ∧ r * q + e * cntL (Lf g C) ≤ e * fb_sm (GRt g) 8 := by
  obtain ⟨cs', lc', hc', lg', hg', e0, hcs, hcov, hal⟩ := find_R hg ho hs hC hf cs cn lc hc lg hg2
  have hn := hC.1
  have hC0 : Cho R (fun i => (fun _ : Nat => false) i = true) n (fun _ => 0) 0 := ⟨Nat.zero_le n, fun i j _ h => by omega, fun i h => by omega, fun y => ⟨fun ⟨i, h, _⟩ => by omega, fun ⟨i, _, h, _⟩ => absurd (show false = true from h) (by decide)⟩⟩
  have hcv : Cov g R n (fun _ => false) (fun _ => 0) := fun u p => by
    rw [Nat.zero_testBit]
    exact ⟨fun h => absurd h (by decide), fun ⟨k, a, b, c⟩ => absurd (show false = true from b) (by decide)⟩
  obtain ⟨rs', q, Q, C, T, j1, j2, j3, j4, j5⟩ := gr_rounds (o := o) hg hn hC.2.1 hC.2.2.1 hr he (nI s) hcs lg' hg' hcov (fu := fu) hf n 0 fu (fun _ => 0) rs (fun _ => 0) (fun _ => false) (by omega) (by omega) hC0 (fun i h => by omega) hcv
  have han : Lf g (fun _ => 0) = gr8 g := funext (fun u => by show an (gr8 g u) 0 = gr8 g u; rw [an, Nat.and_zero, Nat.xor_zero])
  rw [han] at j1 j5
  rw [cntL_gr8, Nat.mul_zero, Nat.zero_add] at j5
  refine ⟨rs', cs', nI n, lc', hc', lg', hg', q, Q, C, T, ?_, j2, j3, j4, j5⟩
  rw [m_X0_mineGreedily, e0, bnd6, show Int32.toNatClampNeg 14 = 14 from by decide +kernel]
  dsimp only
  rw [hal.1, hal.2]
  exact j1
