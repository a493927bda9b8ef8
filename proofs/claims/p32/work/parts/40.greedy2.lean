theorem inc_low {Q R : Nat → Nat} {q n : Nat} (h : Inc Q q) (h' : Inc R n) (hs : ∀ x, Im Q q x → Im R n x) : ∀ k, k < q → k < n ∧ R k ≤ Q k := by
  intro k
  induction k with
  | zero =>
    intro hk
    obtain ⟨i, hi, e⟩ := hs (Q 0) ⟨0, hk, rfl⟩
    refine ⟨by omega, ?_⟩
    rcases Nat.eq_zero_or_pos i with z | z
    · subst z; omega
    · have := h' 0 i z hi; omega
  | succ k ih =>
    intro hk
    obtain ⟨a, b⟩ := ih (by omega)
    obtain ⟨i, hi, e⟩ := hs (Q (k + 1)) ⟨k + 1, hk, rfl⟩
    have c := h k (k + 1) (by omega) hk
    have hik : k + 1 ≤ i := by
      rcases Nat.lt_or_ge k i with z | z
      · exact z
      · rcases Nat.lt_or_ge i k with z2 | z2
        · have := h' i k z2 a; omega
        · rw [show i = k by omega] at e; omega
    refine ⟨by omega, ?_⟩
    rcases Nat.lt_or_ge (k + 1) i with z | z
    · have := h' (k + 1) i z hi; omega
    · rw [show i = k + 1 by omega] at e; omega
theorem inc_full {Q R : Nat → Nat} {n : Nat} (h : Inc Q n) (h' : Inc R n) (hs : ∀ x, Im Q n x → Im R n x) : ∀ k, k < n → Q k = R k := by
  have lo := inc_low h h' hs
  have up : ∀ j k, k + j + 1 = n → Q k = R k := by
    intro j
    induction j with
    | zero =>
      intro k hk
      obtain ⟨i, hi, e⟩ := hs (Q k) ⟨k, by omega, rfl⟩
      have a := (lo k (by omega)).2
      rcases Nat.lt_or_ge i k with z | z
      · have := h' i k z (by omega); omega
      · rw [show i = k by omega] at e; exact e.symm
    | succ j ih =>
      intro k hk
      obtain ⟨i, hi, e⟩ := hs (Q k) ⟨k, by omega, rfl⟩
      have a := (lo k (by omega)).2
      have b := ih (k + 1) (by omega)
      have c := h k (k + 1) (by omega) (by omega)
      rcases Nat.lt_trichotomy i k with z | z | z
      · have := h' i k z (by omega); omega
      · rw [z] at e; exact e.symm
      · rcases Nat.lt_or_ge (k + 1) i with z2 | z2
        · have := h' (k + 1) i z2 hi; omega
        · rw [show i = k + 1 by omega] at e; omega
  intro k hk
  exact up (n - 1 - k) k (by omega)
theorem gn_zero {g : Nat → Int32} {C : Nat → Nat} {S : Nat} (h : ∀ u, u < 8 → cvr g S u &&& C u = cvr g S u) : gn g (fun u => an (gr8 g u) (C u)) S = 0 := by
  have e : fb_sm (fun u => pc (an (gr8 g u) (C u) &&& cvr g S u)) 8 = fb_sm (fun _ => 0) 8 := fb_sm_cong (fun u hu => by
    have hz : an (gr8 g u) (C u) &&& cvr g S u = 0 := by
      apply Nat.eq_of_testBit_eq
      intro i
      have := congrArg (fun x => x.testBit i) (h u hu)
      simp only [Nat.testBit_and] at this
      rw [Nat.testBit_and, an_bit, Nat.zero_testBit]
      cases h1 : (gr8 g u).testBit i <;> cases h2 : (C u).testBit i <;> cases h3 : (cvr g S u).testBit i <;> simp_all
    show pc (an (gr8 g u) (C u) &&& cvr g S u) = 0
    rw [hz, pc_0])
  show fb_sm (fun u => pc (an (gr8 g u) (C u) &&& cvr g S u)) 8 = 0
  rw [e, fb_sm_const]
theorem sav_le {g : Nat → Int32} {R : Nat → Nat} {r : Nat} (hr : r ≤ 100) (ec : Int32) {C : Nat → Nat} {k : Nat} (h : ∀ u, u < 8 → cvr g (R k) u &&& C u = cvr g (R k) u) : sav g R (nI r) ec (fun u => an (gr8 g u) (C u)) k ≤ 0 := by
  rw [sav, gn_zero h, nI_0, Int32.mul_zero, fa_le]
  have := pk_sub_toInt (a := 0) (b := r) (by decide) (by omega)
  rw [nI_0] at this
  rw [this]
  show (0 : Int) - (r : Int) ≤ 0
  omega
theorem bor_self (a b : Nat) : a &&& (b ||| a) = a := by
  apply Nat.eq_of_testBit_eq
  intro i
  rw [Nat.testBit_and, Nat.testBit_or]
  cases a.testBit i <;> cases b.testBit i <;> rfl
theorem bor_keep {a b c : Nat} (h : a &&& b = a) : a &&& (b ||| c) = a := by
  apply Nat.eq_of_testBit_eq
  intro i
  have := congrArg (fun x => x.testBit i) h
  simp only [Nat.testBit_and] at this
  rw [Nat.testBit_and, Nat.testBit_or]
  cases h1 : a.testBit i <;> cases h2 : b.testBit i <;> cases h3 : c.testBit i <;> simp_all
theorem greedy_rounds {g o : Nat → Int32} (hg : VA g 8 4096) {n : Nat} {R : Nat → Nat} (hn : n ≤ 255) (hinc : Inc R n) (hR : ∀ i, i < n → R i < 4096) {r : Nat} (hr : r ≤ 100) (ec su : Int32) {cs fo : Nat → Int32} (hcs : ∀ k, k < n → cs k = nI (R k)) (hfo : ∀ k, k < n → fo k = nI (R k)) {lc hc : Nat → Int64} (lg hg2 : Nat → Int64) (hcov : CovOK g R n lc hc) {fu : Nat} (hf : 300 ≤ fu) (co : Nat → Int32) (mn th : Int32) (e : Nat) : ∀ (d q mX z0 : Nat) (Q : Nat → Nat) (rs la cv ta : Nat → Int32) (C : Nat → Nat) (T : Nat → Bool), q + d = n → d < mX → z0 < 2 ^ 31 → Cho R (fun i => T i = true) n Q q → (∀ i, i < q → rs i = nI (Q i)) → RV cv C → (∀ k, k < n → ta k = if T k = true then 1 else 0) → (∀ k, k < n → T k = true → ∀ u, u < 8 → cvr g (R k) u &&& C u = cvr g (R k) u) →
    ∃ (res : Int32) (rs' la' cv' ta' : Nat → Int32) (q' : Nat) (Q' : Nat → Nat),
      m_X0_mineGreedily_28 fu g o (nI r) ec su mX (lN (loP (fun u => an (gr8 g u) (C u)))) (lN (hiP (fun u => an (gr8 g u) (C u)))) (nI q) rs (nI q) cs (nI n) lc hc lg hg2 = some (res, rs', nI q', cs, nI n, lc, hc, lg, hg2) ∧
      m_X1_mineGreedily_40 fu g o (nI r) ec su (e + (d + 1) * (n + 2) + 1) 0 (nI q) (nI z0) 0 0 la fo co cv ta mn (nI n) th = some (res, la', fo, co, cv', ta', nI q', nI n, th) ∧
      q' ≤ 255 ∧ (∀ i, i < q' → Q' i < 4096 ∧ rs' i = nI (Q' i) ∧ la' i = nI (Q' i)) := by
  intro d
  induction d with
  | zero =>
    intro q mX z0 Q rs la cv ta C T h1 h2 h3 h4 h5 h6 h7 h8
    obtain ⟨mX, rfl⟩ : ∃ k, mX = k + 1 := ⟨mX - 1, by omega⟩
    have hq : q = n := by omega
    subst hq
    have hall : ∀ i, i < q → T i = true := by
      intro i hi
      have e1 := inc_full h4.2.1 hinc (fun x hx => by
        obtain ⟨z, a, b, c⟩ := (h4.2.2.2 x).mp hx
        exact ⟨z, a, c⟩) i hi
      obtain ⟨z, a, b, c⟩ := (h4.2.2.2 (Q i)).mp ⟨i, hi, rfl⟩
      rw [e1] at c
      rcases Nat.lt_trichotomy z i with w | w | w
      · have := hinc z i w hi; omega
      · subst w; exact b
      · have := hinc i z w a; omega
    have hsav : ∀ k, k < q → T k = true → sav g R (nI r) ec (fun u => an (gr8 g u) (C u)) k ≤ 0 := fun k hk ht => sav_le hr ec (h8 k hk ht)
    have hsel : sel (sav g R (nI r) ec (fun u => an (gr8 g u) (C u))) q 0 none 0 = none := sel_none q 0 (fun i _ hi => hsav i (by omega) (hall i (by omega)))
    have hm := msel_loop (o := o) hg hn hR (nI r) ec su hfo h6 h7 hsav (fu := fu) (by omega) la co mn th (nI q) (e + 1) q 0 none 0 (by omega) (by decide) (fun i hi => by cases hi)
    rw [hsel] at hm
    dsimp only at hm
    obtain ⟨la', q', Q', e1, e2, e3⟩ := glay_loop (o := o) hg hn hinc hR (nI r) ec su hfo h6 h7 (fu := fu) (by omega) co th (nI q) fu 0 0 Q la (Nat.zero_le _) (by omega) (Cho_0 R _ Q) (fun i hi => by omega)
    obtain ⟨e4, e5⟩ := Cho_one h4 e2
    subst e4
    refine ⟨nI r * nI q + ec * nI (cntL (fun u => an (gr8 g u) (C u))), rs, la', cv, ta, q, Q, ?_, ?_, hn, fun i hi => ⟨h4.2.2.1 i hi, h5 i hi, by rw [e5 i hi]; exact e3 i hi⟩⟩
    · rw [m_X0_mineGreedily_28, if_pos ((nI_leI (by omega) (by omega)).mpr (Nat.le_refl q)), costWith_eq (fun u => an_lt (k := 12) (gr8_lt hg u))]
    · rw [show e + (0 + 1) * (q + 2) + 1 = (e + 1 + q + 1) + 1 by omega, m_X1_mineGreedily_40, if_pos rfl, if_neg (nI_pos h3)]
      refine hm.trans ?_
      rw [m_X1_mineGreedily_40, if_pos rfl, if_pos (by decide)]
      exact e1
  | succ d ih =>
    intro q mX z0 Q rs la cv ta C T h1 h2 h3 h4 h5 h6 h7 h8
    obtain ⟨mX, rfl⟩ : ∃ k, mX = k + 1 := ⟨mX - 1, by omega⟩
    have hqn : q < n := by omega
    have hL : ∀ u, an (gr8 g u) (C u) < 4096 := fun u => an_lt (k := 12) (gr8_lt hg u)
    have hsav : ∀ k, k < n → T k = true → sav g R (nI r) ec (fun u => an (gr8 g u) (C u)) k ≤ 0 := fun k hk ht => sav_le hr ec (h8 k hk ht)
    have hfuel : e + (d + 1 + 1) * (n + 2) + 1 = ((e + (d + 1) * (n + 2) + 1) + n + 1) + 1 := by
      rw [Nat.succ_mul (d + 1) (n + 2)]; omega
    have hm := msel_loop (o := o) hg hn hR (nI r) ec su hfo h6 h7 hsav (fu := fu) (by omega) la co mn th (nI q) (e + (d + 1) * (n + 2) + 1) n 0 none 0 (by omega) (by decide) (fun i hi => by cases hi)
    rw [m_X0_mineGreedily_28, if_neg (fun z => by have := (nI_leI (a := n) (b := q) (by omega) (by omega)).mp z; omega), xsel_eq hn hR (nI r) ec hcov hL hf, bnd1, hfuel, m_X1_mineGreedily_40, if_pos rfl, if_neg (nI_pos h3)]
    cases hsel : sel (sav g R (nI r) ec (fun u => an (gr8 g u) (C u))) n 0 none 0 with
    | none =>
      rw [hsel] at hm
      dsimp only at hm
      obtain ⟨la', q', Q', e1, e2, e3⟩ := glay_loop (o := o) hg hn hinc hR (nI r) ec su hfo h6 h7 (fu := fu) (by omega) co th (nI q) fu 0 0 Q la (Nat.zero_le _) (by omega) (Cho_0 R _ Q) (fun i hi => by omega)
      obtain ⟨e4, e5⟩ := Cho_one h4 e2
      subst e4
      refine ⟨nI r * nI q + ec * nI (cntL (fun u => an (gr8 g u) (C u))), rs, la', cv, ta, q, Q, ?_, ?_, by omega, fun i hi => ⟨h4.2.2.1 i hi, h5 i hi, by rw [e5 i hi]; exact e3 i hi⟩⟩
      · rw [enc, if_pos (by decide), costWith_eq hL]
      · refine hm.trans ?_
        rw [m_X1_mineGreedily_40, if_pos rfl, if_pos (by decide)]
        exact e1
    | some z =>
      rw [hsel] at hm
      dsimp only at hm
      obtain ⟨hz1, hz2⟩ := sel_in n 0 none 0 z (by decide) (fun i hi => by cases hi) hsel
      have hz : z < n := by omega
      have hTz : ¬ T z = true := fun ht => by
        have := hsav z hz ht
        rw [fa_le] at this
        rw [fa_lt] at hz2
        omega
      have hnew : ¬ Im Q q (R z) := fun hI => by
        obtain ⟨i, a, b, c⟩ := (h4.2.2.2 (R z)).mp hI
        rcases Nat.lt_trichotomy i z with w | w | w
        · have := hinc i z w hz; omega
        · subst w; exact hTz b
        · have := hinc z i w a; omega
      obtain ⟨f', Q', i1, i2, i3, i4, i5⟩ := ins_eq (fu := fu) (by omega) (show q < 255 by omega) (by decide) (hR z hz) h4.2.2.1 h4.2.1 hnew h5
      obtain ⟨cv', a1, a2⟩ := add_eq hg (hR z hz) h6 (fu := fu) (by omega)
      rw [a1, bnd1, nI_1] at hm
      have hCho : Cho R (fun i => (fun i => if i = z then true else T i) i = true) n Q' (q + 1) := by
        refine ⟨by omega, i2, i4, fun y => (i5 y).trans ?_⟩
        rw [h4.2.2.2 y]
        constructor
        · rintro (rfl | ⟨i, a, b, c⟩)
          · exact ⟨z, hz, if_pos rfl, rfl⟩
          · refine ⟨i, a, ?_, c⟩
            dsimp only
            split
            · rfl
            · exact b
        · rintro ⟨i, a, b, c⟩
          by_cases w : i = z
          · subst w; exact Or.inl c.symm
          · dsimp only at b
            rw [if_neg w] at b
            exact Or.inr ⟨i, a, b, c⟩
      obtain ⟨res, rs', la', cv2, ta', q', Q2, j1, j2, j3, j4⟩ := ih (q + 1) mX z Q' f' la cv' (upd ta z 1) (fun u => C u ||| cvr g (R z) u) (fun i => if i = z then true else T i) (by omega) (by omega) (by omega) hCho i3 a2 (fun k hk => by
          by_cases w : k = z
          · rw [w, pk_us, if_pos rfl, if_pos rfl]
          · rw [pk_un w, if_neg w]; exact h7 k hk) (fun k hk ht u hu => by
          by_cases w : k = z
          · rw [w]; exact bor_self _ _
          · rw [if_neg w] at ht; exact bor_keep (h8 k hk ht u hu))
      refine ⟨res, rs', la', cv2, ta', q', Q2, ?_, hm.trans j2, j3, j4⟩
      have eL : (fun u => an (gr8 g u) (C u ||| cvr g (R z) u)) = fun u => an (an (gr8 g u) (C u)) (cvr g (R z) u) := by
        funext u
        rw [an_an]
      have e7 : an (loP (fun u => an (gr8 g u) (C u))) (loP (cvr g (R z))) = loP (fun u => an (gr8 g u) (C u ||| cvr g (R z) u)) := by
        rw [eL]; exact pkn_an hL (cvr_lt (hR z hz)) 4
      have e8 : an (hiP (fun u => an (gr8 g u) (C u))) (hiP (cvr g (R z))) = hiP (fun u => an (gr8 g u) (C u ||| cvr g (R z) u)) := by
        rw [eL]; exact pkn_an (fun u => hL (u + 4)) (fun u => cvr_lt (hR z hz) (u + 4)) 4
      rw [enc, if_neg (nI_pos (by omega)), if_pos ((nI_ltI (by omega) (by omega)).mpr hz), ixI (show z < 255 by omega) (by decide), clI (by omega), hcs z hz, i1, bnd2, (hcov z hz).1, (hcov z hz).2, anL, anL, e7, e8, nI_1]
      exact j1
