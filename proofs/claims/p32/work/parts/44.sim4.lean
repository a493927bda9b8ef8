-- one call on both sides: candidates, prices, mining
theorem s_find {g o : Nat → Int32} (hg : VA g 8 4096) (ho : VA o 12 4096) {s : Nat} (hs : s ≤ 8) {fu : Nat} (hf : 5000 ≤ fu) (cs : Nat → Int32) (cn : Int32) (lc hc lg hg2 : Nat → Int64) (fo co : Nat → Int32) (nu : Int32) :
    ∃ (cs' : Nat → Int32) (n : Nat) (R : Nat → Nat) (lc' hc' lg' hg' : Nat → Int64) (fo' co' : Nat → Int32), m_X0_findCandidates fu g o (nI s) cs cn lc hc lg hg2 = some (cs', nI n, lc', hc', lg', hg') ∧ m_X1_find fu g o fo co (nI s) nu = some (fo', co', nI n) ∧ n ≤ 255 ∧ Inc R n ∧ (∀ i, i < n → R i < 4096) ∧ (∀ k, k < n → cs' k = nI (R k)) ∧ (∀ k, k < n → fo' k = nI (R k)) ∧ CovOK g R n lc' hc' ∧ AllLeft g lg' hg' := by
  obtain ⟨cs', n, R, lc', hc', e, hC, h1, h2⟩ := findCandidates_eq hg ho (s := s) (by omega) (fu := fu) (by omega) cs cn lc hc lg hg2
  obtain ⟨fo', co', e2, h3⟩ := find_eq hg ho (by omega) hC hf fo co nu
  exact ⟨cs', n, R, lc', hc', _, _, fo', co', e, e2, hC.1, hC.2.1, hC.2.2.1, h1, h3, h2, if_pos rfl, if_pos rfl⟩
theorem s_candidates {g o : Nat → Int32} (hg : VA g 8 4096) (ho : VA o 12 4096) {s : Nat} (hs : s ≤ 8) {fu : Nat} (hf : 5000 ≤ fu) (cs : Nat → Int32) (cn : Int32) (lc hc lg hg2 : Nat → Int64) (fo co : Nat → Int32) (nu th : Int32) :
    ∃ (r : Int32) (cs' : Nat → Int32) (cn' : Int32) (lc' hc' lg' hg' : Nat → Int64) (fo' co' : Nat → Int32) (nu' : Int32), m_X0_candidates fu g o (nI s) cs cn lc hc lg hg2 = some (r, cs', cn', lc', hc', lg', hg') ∧ m_X1_candidates fu g o fo co (nI s) nu th = some (r, fo', co', nu', 0) := by
  obtain ⟨cs', n, R, lc', hc', lg', hg', fo', co', e0, e1, _⟩ := s_find hg ho hs hf cs cn lc hc lg hg2 fo co nu
  refine ⟨nI n, cs', nI n, lc', hc', lg', hg', fo', co', nI n, ?_, ?_⟩
  · rw [m_X0_candidates, e0, bnd6]
  · rw [m_X1_candidates, e1, bnd3, m_X1_plain, bnd2]
theorem s_candidate {g o : Nat → Int32} (hg : VA g 8 4096) (ho : VA o 12 4096) {s : Nat} (hs : s ≤ 8) {fu : Nat} (hf : 5000 ≤ fu) (cs : Nat → Int32) (cn : Int32) (lc hc lg hg2 : Nat → Int64) (fo co : Nat → Int32) (nu th a : Int32) :
    ∃ (r0 : String ⊕ Int32) (cs' : Nat → Int32) (cn' : Int32) (lc' hc' lg' hg' : Nat → Int64) (rb : Int32) (fo' co' : Nat → Int32) (nu' th' : Int32), m_X0_candidate fu g o (nI s) cs cn lc hc lg hg2 a = some (r0, cs', cn', lc', hc', lg', hg') ∧ m_X1_candidate fu g o fo co (nI s) nu th a = some (rb, fo', co', nu', th') ∧ OC r0 rb th' IOE IOE := by
  obtain ⟨cs', n, R, lc', hc', lg', hg', fo', co', e0, e1, hn, hinc, hR, hcs, hfo, hcov, hal⟩ := s_find hg ho hs hf cs cn lc hc lg hg2 fo co nu
  rw [m_X0_candidate, e0, bnd6, m_X1_candidate, e1, bnd3]
  rcases rol_is hn a with ⟨h1, h0⟩ | ⟨a, ha, rfl, h1, h0, h00⟩
  · refine ⟨.inl IOE, cs', nI n, lc', hc', lg', hg', -1, fo', co', nI n, 1, ?_, ?_, OC_1⟩
    · rcases h0 with h0 | ⟨h0, h00⟩
      · rw [if_pos h0]
      · rw [if_neg h0, if_neg h00]
    · rw [if_pos h1, hd1, bnd2, if_neg n10]
  · refine ⟨.inr (nI (R a)), cs', nI n, lc', hc', lg', hg', nI (R a), fo', co', nI n, 0, ?_, ?_, OC_0⟩
    · rw [if_neg h0, if_pos h00, ixI (by omega) (by decide), clI (by omega)]
      exact congrArg (fun x => some (Sum.inr x, cs', nI n, lc', hc', lg', hg')) (hcs a ha)
    · rw [if_neg h1, hd0, bnd2, if_pos p00, ixI (by omega) (by decide), clI (by omega)]
      exact congrArg (fun x => some (x, fo', co', nI n, (0 : Int32))) (hfo a ha)
theorem c14 {n : Nat} (hn : n ≤ 255) : nI n ≤ (14 : Int32) ↔ n ≤ 14 := nI_leI (b := 14) (by omega) (by decide)
theorem shr_z {a n : Nat} (ha : a < 2 ^ 31) (hn : n ≤ 14) : nI a >>> (nI n &&& 31) = 0 ↔ a < 2 ^ n := by
  rw [pk_shrN ha (nI n &&& 31) n (sl32 n (by omega)), nI_z (Nat.lt_of_le_of_lt (Nat.div_le_self a (2 ^ n)) ha)]
  constructor
  · intro h
    rcases Nat.lt_or_ge a (2 ^ n) with z | z
    · exact z
    · have := Nat.div_pos z (Nat.two_pow_pos n)
      omega
  · intro h
    exact Nat.div_eq_of_lt h
theorem s_costOf {g o : Nat → Int32} (hg : VA g 8 4096) (ho : VA o 12 4096) {s : Nat} (hs : s ≤ 8) {fu : Nat} (hf : 20000 ≤ fu) (rc ec : Int32) (cs : Nat → Int32) (cn : Int32) (lc hc lg hg2 : Nat → Int64) (fo co cv : Nat → Int32) (nu th a : Int32) :
    ∃ (r0 : String ⊕ Int32) (cs' : Nat → Int32) (cn' : Int32) (lc' hc' lg' hg' : Nat → Int64) (rb : Int32) (fo' co' cv' : Nat → Int32) (nu' th' : Int32), m_X0_costOf fu g o rc ec (nI s) cs cn lc hc lg hg2 a = some (r0, cs', cn', lc', hc', lg', hg') ∧ m_X1_costOf fu g o fo co cv rc ec (nI s) nu th a = some (rb, fo', co', cv', nu', th') ∧ OC r0 rb th' ISE IAE := by
  obtain ⟨cs', n, R, lc', hc', lg', hg', fo', co', e0, e1, hn, hinc, hR, hcs, hfo, hcov, hal⟩ := s_find hg ho hs (fu := fu) (by omega) cs cn lc hc lg hg2 fo co nu
  rw [m_X0_costOf, e0, bnd6, m_X1_costOf, m_X1_isTooMuch, e1, bnd3]
  by_cases h14 : n ≤ 14
  · have hN : 2 ^ n ≤ 2 ^ 14 := Nat.pow_le_pow_right (by decide) h14
    rw [if_pos ((c14 hn).mpr h14), if_pos ((c14 hn).mpr h14), bnd4, if_pos p00, end_eq h14]
    by_cases h0 : a < 0
    · refine ⟨.inl IAE, cs', nI n, lc', hc', lg', hg', -1, fo', co', cv, nI n, 2, ?_, ?_, OC_2⟩
      · rw [if_pos h0]
      · rw [if_pos h0, hd2, bnd2, if_neg n10]
    · obtain ⟨b, hb, rfl⟩ := nI_of h0
      by_cases hl : b < 2 ^ n
      · obtain ⟨cv', ep⟩ := price_eq hg h14 hR rc ec hfo (ch := b) (by omega) (fu := fu) (by omega) cv
        have ex := costOfChoice_eq hg h14 hR rc ec hcov hal (ch := b) (by omega) (fu := fu) (by omega)
        refine ⟨.inr (cst g R n rc ec b), cs', nI n, lc', hc', lg', hg', cst g R n rc ec b, fo', co', cv', nI n, 0, ?_, ?_, OC_0⟩
        · rw [if_neg h0, if_pos ((nI_ltI hb (by omega)).mpr hl), ex, bnd1]
        · rw [if_neg h0, if_pos ((shr_z hb h14).mpr hl), hd0, bnd2, if_pos p00, ep, bnd2]
      · refine ⟨.inl IAE, cs', nI n, lc', hc', lg', hg', -1, fo', co', cv, nI n, 2, ?_, ?_, OC_2⟩
        · rw [if_neg h0, if_neg (fun z => hl ((nI_ltI hb (by omega)).mp z))]
        · rw [if_neg h0, if_neg (fun z => hl ((shr_z hb h14).mp z)), hd2, bnd2, if_neg n10]
  · refine ⟨.inl ISE, cs', nI n, lc', hc', lg', hg', -1, fo', co', cv, nI n, 1, ?_, ?_, OC_1⟩
    · rw [if_neg (fun z => h14 ((c14 hn).mp z))]
    · rw [if_neg (fun z => h14 ((c14 hn).mp z)), bnd4, if_neg n10, hd1, bnd2, if_neg n10]
theorem s_leastCost {g o : Nat → Int32} (hg : VA g 8 4096) (ho : VA o 12 4096) {s : Nat} (hs : s ≤ 8) {fu : Nat} (hf : 20000 ≤ fu) (rc ec : Int32) (cs : Nat → Int32) (cn : Int32) (lc hc lg hg2 : Nat → Int64) (fo co cv : Nat → Int32) (nu th : Int32) :
    ∃ (r0 : String ⊕ Int32) (cs' : Nat → Int32) (cn' : Int32) (lc' hc' lg' hg' : Nat → Int64) (rb : Int32) (fo' co' cv' : Nat → Int32) (nu' th' : Int32), m_X0_leastCost fu g o rc ec (nI s) cs cn lc hc lg hg2 = some (r0, cs', cn', lc', hc', lg', hg') ∧ m_X1_leastCost fu g o fo co cv rc ec (nI s) nu th = some (rb, fo', co', cv', nu', th') ∧ OC r0 rb th' ISE ISE := by
  obtain ⟨cs', n, R, lc', hc', lg', hg', fo', co', e0, e1, hn, hinc, hR, hcs, hfo, hcov, hal⟩ := s_find hg ho hs (fu := fu) (by omega) cs cn lc hc lg hg2 fo co nu
  rw [m_X0_leastCost, e0, bnd6, m_X1_leastCost, m_X1_isTooMuch, e1, bnd3]
  by_cases h14 : n ≤ 14
  · have hN : 2 ^ n ≤ 2 ^ 14 := Nat.pow_le_pow_right (by decide) h14
    have hp := Nat.two_pow_pos n
    obtain ⟨lg2, hg3, eb, hal2⟩ := bestChoice_eq hg h14 hR rc ec hcov hal hf
    have hbs : bsel (cst g R n rc ec) (2 ^ n - 1) 1 0 < 2 ^ n := bsel_lt (2 ^ n - 1) 1 0 (by omega) hp
    have ex := costOfChoice_eq hg h14 hR rc ec hcov hal2 (ch := bsel (cst g R n rc ec) (2 ^ n - 1) 1 0) (by omega) (fu := fu) (by omega)
    obtain ⟨cv1, ep⟩ := price_eq hg h14 hR rc ec hfo (ch := 0) (by decide) (fu := fu) (by omega) cv
    obtain ⟨cv2, el⟩ := least_loop hg h14 hR rc ec hfo (fu := fu) (by omega) o (nI s) co' 0 (2 ^ n - 1) 1 0 fu cv1 (by omega) (by omega) hp
    rw [if_pos ((c14 hn).mpr h14), if_pos ((c14 hn).mpr h14), bnd4, if_pos p00]
    refine ⟨.inr (cst g R n rc ec (bsel (cst g R n rc ec) (2 ^ n - 1) 1 0)), cs', nI n, lc', hc', lg2, hg3, cst g R n rc ec (bsel (cst g R n rc ec) (2 ^ n - 1) 1 0), fo', co', cv2, nI n, 0, ?_, ?_, OC_0⟩
    · rw [eb, bnd3, ex, bnd1]
    · rw [hd0, bnd2, if_pos p00, show (0 : Int32) = nI 0 from rfl, ep, bnd2]
      exact el
  · refine ⟨.inl ISE, cs', nI n, lc', hc', lg', hg', -1, fo', co', cv, nI n, 1, ?_, ?_, OC_1⟩
    · rw [if_neg (fun z => h14 ((c14 hn).mp z))]
    · rw [if_neg (fun z => h14 ((c14 hn).mp z)), bnd4, if_neg n10, hd1, bnd2, if_neg n10]
theorem s_mineBest {g o : Nat → Int32} (hg : VA g 8 4096) (ho : VA o 12 4096) {s : Nat} (hs : s ≤ 8) {fu : Nat} (hf : 20000 ≤ fu) (rc ec : Int32) {rs la : Nat → Int32} {rn : Int32} {q : Nat} {R0 : Nat → Nat} (hv : VR rs la rn q R0) (cs : Nat → Int32) (cn : Int32) (lc hc lg hg2 : Nat → Int64) (fo co cv : Nat → Int32) (nu th : Int32) :
    ∃ (r0 : String ⊕ Int32) (rs' : Nat → Int32) (rn' : Int32) (cs' : Nat → Int32) (cn' : Int32) (lc' hc' lg' hg' : Nat → Int64) (rb : Int32) (la' fo' co' cv' : Nat → Int32) (nu' th' : Int32) (q' : Nat) (R' : Nat → Nat), m_X0_mineBest fu g o rc ec (nI s) rs rn cs cn lc hc lg hg2 = some (r0, rs', rn', cs', cn', lc', hc', lg', hg') ∧ m_X1_mineBest fu g o la fo co cv rc ec (nI s) rn nu th = some (rb, la', fo', co', cv', rn', nu', th') ∧ VR rs' la' rn' q' R' ∧ OC r0 rb th' ISE ISE := by
  obtain ⟨cs', n, R, lc', hc', lg', hg', fo', co', e0, e1, hn, hinc, hR, hcs, hfo, hcov, hal⟩ := s_find hg ho hs (fu := fu) (by omega) cs cn lc hc lg hg2 fo co nu
  rw [m_X0_mineBest, e0, bnd6, m_X1_mineBest, m_X1_isTooMuch, e1, bnd3]
  by_cases h14 : n ≤ 14
  · have hN : 2 ^ n ≤ 2 ^ 14 := Nat.pow_le_pow_right (by decide) h14
    have hp := Nat.two_pow_pos n
    obtain ⟨lg2, hg3, eb, hal2⟩ := bestChoice_eq hg h14 hR rc ec hcov hal hf
    have hbs : bsel (cst g R n rc ec) (2 ^ n - 1) 1 0 < 2 ^ n := bsel_lt (2 ^ n - 1) 1 0 (by omega) hp
    obtain ⟨cv1, em⟩ := mbest_eq hg h14 hR rc ec hfo hf cv
    obtain ⟨rs', qx, Qx, ex, hcx, hrx⟩ := xlay_loop (o := o) hg h14 hinc hR rc ec (nI s) hcs hcov hal2 (ch := bsel (cst g R n rc ec) (2 ^ n - 1) 1 0) (by omega) (fu := fu) (by omega) fu 0 0 (fun _ => 0) rs (Nat.zero_le n) (by omega) (Cho_0 _ _ _) (fun i h => by omega)
    obtain ⟨la', cv2, qy, Qy, ey, hcy, hry⟩ := mlay_loop (o := o) hg h14 hinc hR rc ec (nI s) hfo co' 0 (ch := bsel (cst g R n rc ec) (2 ^ n - 1) 1 0) (by omega) (fu := fu) (by omega) fu 0 0 (fun _ => 0) la cv1 (Nat.zero_le n) (by omega) (Cho_0 _ _ _) (fun i h => by omega)
    obtain ⟨hqq, hQQ⟩ := Cho_one hcx hcy
    subst hqq
    rw [if_pos ((c14 hn).mpr h14), if_pos ((c14 hn).mpr h14), bnd4, if_pos p00]
    refine ⟨.inr (cst g R n rc ec (bsel (cst g R n rc ec) (2 ^ n - 1) 1 0)), rs', nI qx, cs', nI n, lc', hc', lg2, hg3, cst g R n rc ec (bsel (cst g R n rc ec) (2 ^ n - 1) 1 0), la', fo', co', cv2, nI n, 0, qx, Qx, ?_, ?_, ⟨by have := hcx.1; omega, rfl, fun i hi => ⟨hcx.2.2.1 i hi, hrx i hi, by rw [hry i hi, hQQ i hi]⟩⟩, OC_0⟩
    · rw [eb, bnd3]
      exact ex
    · rw [hd0, bnd2, if_pos p00, em, bnd2]
      exact ey
  · refine ⟨.inl ISE, rs, rn, cs', nI n, lc', hc', lg', hg', -1, la, fo', co', cv, nI n, 1, q, R0, ?_, ?_, hv, OC_1⟩
    · rw [if_neg (fun z => h14 ((c14 hn).mp z))]
    · rw [if_neg (fun z => h14 ((c14 hn).mp z)), bnd4, if_neg n10, hd1, bnd2, if_neg n10]
theorem ta_loop {fu : Nat} {g o : Nat → Int32} (rc ec su : Int32) (la fo co cv : Nat → Int32) (mn th : Int32) {n : Nat} (hn : n ≤ 255) : ∀ (m k : Nat) (ta : Nat → Int32), k ≤ n → n < k + m → (∀ i, i < k → ta i = 0) →
    ∃ ta', m_X1_mineGreedily_15 fu g o rc ec su m (nI k) la fo co cv ta mn (nI n) th = m_X1_mineGreedily_40 fu g o rc ec su fu 0 0 0 0 0 la fo co cv ta' mn (nI n) th ∧ ∀ i, i < n → ta' i = 0 := by
  intro m
  induction m with
  | zero => intro k ta h1 h2; omega
  | succ m ih =>
    intro k ta h1 h2 h3
    rw [m_X1_mineGreedily_15]
    by_cases hk : k = n
    · subst hk
      exact ⟨ta, if_pos (nI_le (Nat.le_refl k) (by omega)), h3⟩
    · rw [if_neg (nI_ge (by omega) (by omega)), ixI (by omega) (by decide), clI (by omega), nI_1]
      refine ih (k + 1) _ (by omega) (by omega) (fun i hi => ?_)
      by_cases e : i = k
      · exact if_pos e
      · exact (if_neg e).trans (h3 i (by omega))
theorem s_mineGreedily {g o : Nat → Int32} (hg : VA g 8 4096) (ho : VA o 12 4096) {s : Nat} (hs : s ≤ 8) {fu : Nat} (hf : 70000 ≤ fu) {r : Nat} (hr : r ≤ 100) (ec : Int32) (rs la : Nat → Int32) (rn : Int32) (cs : Nat → Int32) (cn : Int32) (lc hc lg hg2 : Nat → Int64) (fo co cv ta : Nat → Int32) (nu th : Int32) :
    ∃ (r0 : Int32) (rs' : Nat → Int32) (rn' : Int32) (cs' : Nat → Int32) (cn' : Int32) (lc' hc' lg' hg' : Nat → Int64) (la' fo' co' cv' ta' : Nat → Int32) (nu' : Int32) (q' : Nat) (R' : Nat → Nat), m_X0_mineGreedily fu g o (nI r) ec (nI s) rs rn cs cn lc hc lg hg2 = some (r0, rs', rn', cs', cn', lc', hc', lg', hg') ∧ m_X1_mineGreedily fu g o la fo co cv ta (nI r) ec (nI s) rn nu th = some (r0, la', fo', co', cv', ta', rn', nu', 0) ∧ VR rs' la' rn' q' R' := by
  obtain ⟨cs', n, R, lc', hc', lg', hg', fo', co', e0, e1, hn, hinc, hR, hcs, hfo, hcov, hal⟩ := s_find hg ho hs (fu := fu) (by omega) cs cn lc hc lg hg2 fo co nu
  obtain ⟨cv1, eu, hu⟩ := uncover_eq (fu := fu) (by omega) cv
  obtain ⟨ta1, et, ht⟩ := ta_loop (fu := fu) (g := g) (o := o) (nI r) ec (nI s) la fo' co' cv1 rn 0 hn fu 0 ta (Nat.zero_le n) (by omega) (fun i h => by omega)
  have hb : (n + 1) * (n + 2) + 1 ≤ 70000 := by
    have := Nat.mul_le_mul (show n + 1 ≤ 256 by omega) (show n + 2 ≤ 257 by omega)
    omega
  have hC : Cho R (fun i => (fun _ : Nat => false) i = true) n (fun _ => 0) 0 := ⟨Nat.zero_le n, fun i j _ h => by omega, fun i h => by omega, fun y => ⟨fun ⟨i, h, _⟩ => by omega, fun ⟨i, _, h, _⟩ => absurd (show false = true from h) (by decide)⟩⟩
  obtain ⟨res, rs', la', cv', ta', q', Q', ex, ey, hq', hRR⟩ := greedy_rounds (o := o) hg hn hinc hR hr ec (nI s) hcs hfo lg' hg' hcov (fu := fu) (by omega) co' rn 0 (fu - ((n + 1) * (n + 2) + 1)) n 0 fu 0 (fun _ => 0) rs la cv1 ta1 (fun _ => 0) (fun _ => false) (by omega) (by omega) (by decide) hC (fun i h => by omega) hu (fun k hk => by rw [ht k hk]; rfl) (fun k _ h => absurd (show false = true from h) (by decide))
  have han : (fun u => an (gr8 g u) ((fun _ => 0) u)) = gr8 g := funext (fun u => by show an (gr8 g u) 0 = gr8 g u; rw [an, Nat.and_zero, Nat.xor_zero])
  rw [han] at ex
  rw [show fu - ((n + 1) * (n + 2) + 1) + (n + 1) * (n + 2) + 1 = fu by omega] at ey
  refine ⟨res, rs', nI q', cs', nI n, lc', hc', lg', hg', la', fo', co', cv', ta', nI n, q', Q', ?_, ?_, ⟨hq', rfl, hRR⟩⟩
  · rw [m_X0_mineGreedily, e0, bnd6, show Int32.toNatClampNeg 14 = 14 from by decide +kernel]
    dsimp only
    rw [hal.1, hal.2]
    exact ex
  · rw [m_X1_mineGreedily, e1, bnd3, eu, bnd1]
    exact et.trans ey
