theorem bit_in {x n i : Nat} (h : x < 2 ^ n) (hb : x.testBit i = true) : i < n := by
  rcases Nat.lt_or_ge i n with q | q
  · exact q
  · rw [Nat.testBit_lt_two_pow (Nat.lt_of_lt_of_le h (Nat.pow_le_pow_right (by decide) q))] at hb
    cases hb
theorem hold_SH {g : Nat → Int32} {U u : Nat} (hu : u < 8) (h : U.testBit u = true) : hold g u (SH g U) :=
  hold_iff.mpr (fun i hi => ((SH_bit g U i).mp hi).2 u hu h)
theorem sub_HO {g : Nat → Int32} {U : Nat} (hU : U < 256) {u : Nat} (h : U.testBit u = true) : (HO g (SH g U)).testBit u = true := by
  have hu := bit_in (n := 8) hU h
  rw [HO_bit]
  exact decide_eq_true ⟨hu, hold_SH hu h⟩
theorem SH_HO {g : Nat → Int32} {U : Nat} (hU : U < 256) : SH g (HO g (SH g U)) = SH g U := by
  apply Nat.eq_of_testBit_eq
  intro i
  rw [Bool.eq_iff_iff]
  constructor
  · intro h
    rw [SH_bit] at h ⊢
    exact ⟨h.1, fun u hu hb => h.2 u hu (sub_HO hU hb)⟩
  · intro h
    rw [SH_bit]
    refine ⟨((SH_bit g U i).mp h).1, fun u hu hb => ?_⟩
    rw [HO_bit] at hb
    exact hold_iff.mp (of_decide_eq_true hb).2 i h
theorem isC_iff {g o : Nat → Int32} {s y : Nat} (hy : 1 ≤ y) : isC g o s y ↔ (∃ V, 1 ≤ V ∧ V < 256 ∧ SH g V = y) ∧ prop o y ∧ s ≤ pc (HO g y) := by
  constructor
  · rintro ⟨V, h1, h2, h3, h4, h5, h6, rfl⟩
    exact ⟨⟨V, h1, h2, rfl⟩, h6, by rw [h3]; exact h5⟩
  · rintro ⟨⟨V, h1, h2, rfl⟩, h6, h5⟩
    refine ⟨HO g (SH g V), ?_, HO_lt g _, by rw [SH_HO h2], by rw [SH_HO h2]; omega, h5, by rw [SH_HO h2]; exact h6, SH_HO h2⟩
    obtain ⟨i, hi⟩ := Nat.exists_testBit_of_ne_zero (show V ≠ 0 by omega)
    have h7 := sub_HO (g := g) h2 hi
    rcases Nat.eq_zero_or_pos (HO g (SH g V)) with q | q
    · rw [q, Nat.zero_testBit] at h7; cases h7
    · exact q
theorem found_loop {g o : Nat → Int32} (hg : VA g 8 4096) (ho : VA o 12 4096) {s n : Nat} {R : Nat → Nat} (hs : s < 2 ^ 31) (hC : CandOK g o s n R) {fu : Nat} (hf : 40 ≤ fu) {co : Nat → Int32} (hco : ∀ z, z < 4096 → (co z = 1 ↔ ∃ V, 1 ≤ V ∧ V < 256 ∧ SH g V = z)) : ∀ (m y j : Nat) (fo : Nat → Int32), 1 ≤ y → y ≤ 4096 → 4096 < y + m → j ≤ n → (∀ k, k < j → R k < y) → (∀ k, j ≤ k → k < n → y ≤ R k) → (∀ k, k < j → fo k = nI (R k)) →
    ∃ fo', m_X1_find_93 fu g o (nI s) m (nI y) fo co (nI j) = some (fo', co, nI n) ∧ ∀ k, k < n → fo' k = nI (R k) := by
  obtain ⟨hn, hinc, hR, hIm⟩ := hC
  intro m
  induction m with
  | zero => intro y j fo h1 h2 h3; omega
  | succ m ih =>
    intro y j fo h1 h2 h3 h4 h5 h6 h7
    rw [m_X1_find_93]
    by_cases hy : y = 4096
    · subst hy
      have hj : j = n := by
        rcases Nat.lt_or_ge j n with q | q
        · have a := h6 j (Nat.le_refl j) q
          have b := hR j q
          omega
        · omega
      subst hj
      rw [if_pos (show (4096 : Int32) ≤ nI 4096 by decide)]
      exact ⟨fo, rfl, h7⟩
    · have hy2 : y < 4096 := by omega
      have skip : ¬ isC g o s y → ∃ fo', m_X1_find_93 fu g o (nI s) m (nI (y + 1)) fo co (nI j) = some (fo', co, nI n) ∧ ∀ k, k < n → fo' k = nI (R k) := fun h =>
        ih (y + 1) j fo (by omega) (by omega) (by omega) h4 (fun k hk => Nat.lt_succ_of_lt (h5 k hk)) (fun k hk hk2 => by
          have a := h6 k hk hk2
          have b : R k ≠ y := fun q => h ((hIm y).mp ⟨k, hk2, q⟩)
          omega) h7
      rw [if_neg (fun q => hy (by have := (nI_leI (a := 4096) (b := y) (by decide) (by omega)).mp q; omega)), ixI hy2 (by decide), clI (by omega), (isProper_eq ho hy2 (by omega)).2, bnd1, whoHas_eq hg hy2 (by omega), bnd1, size_eq (by omega) (by have := HO_lt g y; omega), bnd1, nI_1, nI_1]
      have hHO := HO_lt g y
      have hpc := pc_lt (n := HO g y) 8 (by decide) hHO
      by_cases a1 : co y = 1
      · rw [if_pos a1]
        by_cases a2 : prop o y
        · rw [if_neg (fun q => prB_z.mp q a2)]
          by_cases a3 : s ≤ pc (HO g y)
          · rw [if_neg (fun q => by have := (nI_ltI (a := pc (HO g y)) (b := s) (by omega) hs).mp q; omega)]
            obtain ⟨i, hi, e⟩ := (hIm y).mpr ((isC_iff h1).mpr ⟨(hco y hy2).mp a1, a2, a3⟩)
            have hij : i = j := by
              rcases Nat.lt_trichotomy i j with q | q | q
              · have := h5 i q; omega
              · exact q
              · have a := hinc j i q hi
                have b := h6 j (Nat.le_refl j) (by omega)
                omega
            subst hij
            rw [ixI (show i < 256 by omega) (by decide), clI (by omega)]
            refine ih (y + 1) (i + 1) _ (by omega) (by omega) (by omega) (by omega) (fun k hk => ?_) (fun k hk hk2 => ?_) (fun k hk => ?_)
            · by_cases q : k = i
              · subst q; omega
              · have := h5 k (by omega); omega
            · have := hinc i k (by omega) hk2; omega
            · by_cases q : k = i
              · subst q; rw [pk_us, e]
              · rw [pk_un q]; exact h7 k (by omega)
          · rw [if_pos ((nI_ltI (a := pc (HO g y)) (b := s) (by omega) hs).mpr (by omega))]
            exact skip (fun q => a3 ((isC_iff h1).mp q).2.2)
        · rw [if_pos (prB_z.mpr a2)]
          exact skip (fun q => a2 ((isC_iff h1).mp q).2.1)
      · rw [if_neg a1]
        exact skip (fun q => a1 ((hco y hy2).mpr ((isC_iff h1).mp q).1))
theorem zero_loop (fu : Nat) (g o : Nat → Int32) (su : Int32) (fo : Nat → Int32) (nu : Int32) : ∀ (m k : Nat) (co : Nat → Int32), k ≤ 4096 → 4096 < k + m → (∀ z, z < k → co z = 0) →
    ∃ co', m_X1_find_2 fu g o su m (nI k) fo co nu = m_X1_find_24 fu g o su fu 0 1 0 0 fo co' nu ∧ ∀ z, z < 4096 → co' z = 0 := by
  intro m
  induction m with
  | zero => intro k co h1 h2; omega
  | succ m ih =>
    intro k co h1 h2 h3
    rw [m_X1_find_2]
    by_cases hk : k = 4096
    · subst hk
      rw [if_pos (show (4096 : Int32) ≤ nI 4096 by decide)]
      exact ⟨co, rfl, h3⟩
    · rw [if_neg (fun q => hk (by have := (nI_leI (a := 4096) (b := k) (by decide) (by omega)).mp q; omega)), ixI (show k < 4096 by omega) (by decide), clI (by omega), nI_1]
      refine ih (k + 1) _ (by omega) (by omega) (fun z hz => ?_)
      by_cases q : z = k
      · subst q; rw [pk_us]
      · rw [pk_un q]; exact h3 z (by omega)
theorem mask12 {x : Nat} (h : x < 4096) : nI x &&& 4095 = nI x := by
  have e := fa_mask x 12
  rw [Nat.mod_eq_of_lt h] at e
  exact e
theorem inner_loop {g : Nat → Int32} (hg : VA g 8 4096) (fu : Nat) (o : Nat → Int32) (su : Int32) (fo : Nat → Int32) (nu : Int32) {U : Nat} (hU : U < 256) (co : Nat → Int32) (m : Nat) : ∀ d k : Nat, k + d = 8 → m_X1_find_24 fu g o su (m + d + 1) 1 (nI U) (nI (SHn g U k)) (nI k) fo co nu = m_X1_find_24 fu g o su m 0 (nI (U + 1)) 0 0 fo (upd co (SH g U) 1) nu := by
  intro d
  induction d with
  | zero =>
    intro k h
    have hk : k = 8 := by omega
    subst hk
    have := SHn_lt g U 8
    rw [m_X1_find_24, if_neg (by decide), if_pos ((c8 (by decide)).mpr (Nat.le_refl 8)), ixI (SHn_lt g U 8) (by decide), clI (by omega), nI_1]
    rfl
  | succ d ih =>
    intro k h
    have hk : k < 8 := by omega
    have := SHn_lt g U k
    rw [show m + (d + 1) + 1 = (m + d + 1) + 1 by omega, m_X1_find_24, if_neg (by decide), if_neg (fun q => by have := (c8 (k := k) (by omega)).mp q; omega), isIn_eq (by omega) (by omega), ifb, ixI hk (by decide), clI (by omega), (hg k hk).2, mask12 (SHn_lt g U k), fa_and, nI_1]
    have e := ih (k + 1) (by omega)
    rw [SHn] at e
    by_cases hb : U.testBit k = true
    · rw [if_pos hb] at e ⊢
      exact e
    · rw [if_neg hb] at e ⊢
      exact e
theorem outer_loop {g : Nat → Int32} (hg : VA g 8 4096) (fu : Nat) (o : Nat → Int32) (su : Int32) (fo : Nat → Int32) (nu : Int32) (m : Nat) : ∀ (d U : Nat) (co : Nat → Int32), U + d = 256 →
    ∃ co', m_X1_find_24 fu g o su (m + 10 * d + 1) 0 (nI U) 0 0 fo co nu = m_X1_find_93 fu g o su fu 1 fo co' 0 ∧ ∀ z, co' z = 1 ↔ (co z = 1 ∨ ∃ V, U ≤ V ∧ V < 256 ∧ SH g V = z) := by
  intro d
  induction d with
  | zero =>
    intro U co h
    have hU : U = 256 := by omega
    subst hU
    rw [m_X1_find_24, if_pos rfl, if_pos (show (256 : Int32) ≤ nI 256 by decide)]
    exact ⟨co, rfl, fun z => ⟨Or.inl, fun h => h.elim id (fun ⟨V, a, b, _⟩ => by omega)⟩⟩
  | succ d ih =>
    intro U co h
    have hU : U < 256 := by omega
    rw [show m + 10 * (d + 1) + 1 = ((m + 10 * d + 1) + 8 + 1) + 1 by omega, m_X1_find_24, if_pos rfl, if_neg (fun q => by have := (nI_leI (a := 256) (b := U) (by decide) (by omega)).mp q; omega)]
    have e1 := inner_loop hg fu o su fo nu hU co (m + 10 * d + 1) 8 0 rfl
    obtain ⟨co', e2, h2⟩ := ih (U + 1) (upd co (SH g U) 1) (by omega)
    refine ⟨co', e1.trans e2, fun z => (h2 z).trans ?_⟩
    by_cases q : z = SH g U
    · subst q
      rw [pk_us]
      exact ⟨fun _ => Or.inr ⟨U, Nat.le_refl U, hU, rfl⟩, fun _ => Or.inl rfl⟩
    · rw [pk_un q]
      refine or_congr Iff.rfl ⟨fun ⟨V, a, b, c⟩ => ⟨V, by omega, b, c⟩, fun ⟨V, a, b, c⟩ => ⟨V, ?_, b, c⟩⟩
      by_cases q2 : V = U
      · subst q2; exact absurd c.symm q
      · omega
/-- the model finds the same candidates -/
theorem find_eq {g o : Nat → Int32} (hg : VA g 8 4096) (ho : VA o 12 4096) {s n : Nat} {R : Nat → Nat} (hs : s < 2 ^ 31) (hC : CandOK g o s n R) {fu : Nat} (hf : 5000 ≤ fu) (fo co : Nat → Int32) (nu : Int32) :
    ∃ fo' co', m_X1_find fu g o fo co (nI s) nu = some (fo', co', nI n) ∧ ∀ k, k < n → fo' k = nI (R k) := by
  obtain ⟨co1, e1, h1⟩ := zero_loop fu g o (nI s) fo nu fu 0 co (by decide) (by omega) (fun z h => by omega)
  obtain ⟨co2, e2, h2⟩ := outer_loop hg fu o (nI s) fo nu (fu - 2551) 255 1 co1 rfl
  rw [show fu - 2551 + 10 * 255 + 1 = fu by omega] at e2
  obtain ⟨fo', e3, h3⟩ := found_loop hg ho hs hC (fu := fu) (by omega) (co := co2) (fun z hz => (h2 z).trans ⟨fun h => h.elim (fun q => absurd q (by rw [h1 z hz]; decide)) id, Or.inr⟩) fu 1 0 fo (by decide) (by decide) (by omega) (by omega) (fun k h => by omega) (fun k _ hk => by
    obtain ⟨V, a, b, c, d, e, f, i⟩ := (hC.2.2.2 (R k)).mp ⟨k, hk, rfl⟩
    omega) (fun k h => by omega)
  refine ⟨fo', co2, ?_, h3⟩
  rw [m_X1_find]
  exact e1.trans (e2.trans e3)
