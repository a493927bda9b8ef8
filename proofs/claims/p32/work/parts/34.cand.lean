-- rising rows
def Inc (R : Nat → Nat) (n : Nat) : Prop := ∀ i j, i < j → j < n → R i < R j
def Im (R : Nat → Nat) (n x : Nat) : Prop := ∃ i, i < n ∧ R i = x
theorem inc_one {R R' : Nat → Nat} {n n' : Nat} (h : Inc R n) (h' : Inc R' n') (h1 : ∀ x, Im R n x → Im R' n' x) (h2 : ∀ x, Im R' n' x → Im R n x) : ∀ k, k < n → k < n' ∧ R k = R' k := by
  intro k
  induction k using Nat.strongRecOn with
  | ind k ih =>
    intro hk
    obtain ⟨i, hi, e⟩ := h1 (R k) ⟨k, hk, rfl⟩
    have hik : k ≤ i := by
      rcases Nat.lt_or_ge i k with q | q
      · have a := (ih i q (by omega)).2
        have b := h i k q hk
        omega
      · exact q
    have hk' : k < n' := by omega
    obtain ⟨j, hj, e2⟩ := h2 (R' k) ⟨k, hk', rfl⟩
    have hjk : k ≤ j := by
      rcases Nat.lt_or_ge j k with q | q
      · have a := (ih j q (by omega)).2
        have b := h' j k q hk'
        omega
      · exact q
    have a1 : R' k ≤ R' i := by
      rcases Nat.lt_or_ge k i with q | q
      · exact Nat.le_of_lt (h' k i q hi)
      · rw [show i = k by omega]; exact Nat.le_refl _
    have a2 : R k ≤ R j := by
      rcases Nat.lt_or_ge k j with q | q
      · exact Nat.le_of_lt (h k j q hj)
      · rw [show j = k by omega]; exact Nat.le_refl _
    exact ⟨hk', by omega⟩
theorem inc_ext {R R' : Nat → Nat} {n n' : Nat} (h : Inc R n) (h' : Inc R' n') (he : ∀ x, Im R n x ↔ Im R' n' x) : n = n' ∧ ∀ k, k < n → R k = R' k := by
  have a := inc_one h h' (fun x => (he x).mp) (fun x => (he x).mpr)
  have b := inc_one h' h (fun x => (he x).mpr) (fun x => (he x).mp)
  refine ⟨?_, fun k hk => (a k hk).2⟩
  rcases Nat.lt_trichotomy n n' with q | q | q
  · have := (b n q).1; omega
  · exact q
  · have := (a n' q).1; omega
theorem ins_loop (fu x n : Nat) (R : Nat → Nat) (hn : n < 255) (hx : x < 2 ^ 31) (hR : ∀ i, i < n → R i < 2 ^ 31) : ∀ (m a : Nat) (f : Nat → Int32), a ≤ n → a < m → (∀ k, k < a → f k = nI (R k)) → (∀ k, a < k → k ≤ n → f k = nI (R (k - 1))) → (∀ k, a ≤ k → k < n → x < R k) →
    ∃ (b : Nat) (f' : Nat → Int32), b ≤ n ∧ m_X0_insertInOrder_14 fu (nI n) (nI x) m (nI a) f = some (nI (n + 1), f') ∧ (b = 0 ∨ R (b - 1) ≤ x) ∧ (∀ k, b ≤ k → k < n → x < R k) ∧ (∀ k, k < b → f' k = nI (R k)) ∧ f' b = nI x ∧ ∀ k, b < k → k ≤ n → f' k = nI (R (k - 1)) := by
  intro m
  induction m with
  | zero => intro a f h1 h2; omega
  | succ m ih =>
    intro a f h1 h2 h3 h4 h5
    rw [m_X0_insertInOrder_14]
    cases a with
    | zero =>
      rw [if_pos (show nI 0 ≤ 0 by decide), ixI (by decide) (by decide), clI (by decide), nI_1]
      exact ⟨0, upd f 0 (nI x), by omega, rfl, Or.inl rfl, h5, fun k hk => by omega, pk_us, fun k hk hk2 => by rw [pk_un (by omega)]; exact h4 k hk hk2⟩
    | succ j =>
      have hj := h3 j (by omega)
      rw [if_neg (nI_nle (by omega) (by omega)), nI_pred, ixI (k := j) (by omega) (by decide), clI (k := j) (by omega), hj, ixI (k := j + 1) (by omega) (by decide), clI (k := j + 1) (by omega), pk_m1]
      by_cases hc : R j ≤ x
      · rw [if_pos ((nI_leI (hR j (by omega)) hx).mpr hc), nI_1]
        exact ⟨j + 1, upd f (j + 1) (nI x), by omega, rfl, Or.inr hc, h5, fun k hk => by rw [pk_un (by omega)]; exact h3 k hk, pk_us, fun k hk hk2 => by rw [pk_un (by omega)]; exact h4 k hk hk2⟩
      · rw [if_neg (fun q => hc ((nI_leI (hR j (by omega)) hx).mp q)), ixI (k := j + 1) (by omega) (by decide)]
        refine ih j (upd f (j + 1) (nI (R j))) (by omega) (by omega) (fun k hk => by rw [pk_un (by omega)]; exact h3 k (by omega)) (fun k hk hk2 => ?_) (fun k hk hk2 => ?_)
        · by_cases e : k = j + 1
          · subst e; rw [pk_us, Nat.add_sub_cancel]
          · rw [pk_un e]; exact h4 k (by omega) hk2
        · by_cases e : k = j
          · subst e; omega
          · exact h5 k (by omega) hk2
/-- a new number goes to its place -/
theorem ins_eq {fu x n B : Nat} {R : Nat → Nat} {f : Nat → Int32} (hf : 256 ≤ fu) (hn : n < 255) (hB : B ≤ 2 ^ 31) (hx : x < B) (hR : ∀ i, i < n → R i < B) (hi : Inc R n) (hnew : ¬ Im R n x) (hv : ∀ k, k < n → f k = nI (R k)) :
    ∃ (f' : Nat → Int32) (R' : Nat → Nat), m_X0_insertInOrder fu f (nI n) (nI x) = some (nI (n + 1), f') ∧ Inc R' (n + 1) ∧ (∀ k, k < n + 1 → f' k = nI (R' k)) ∧ (∀ i, i < n + 1 → R' i < B) ∧ ∀ y, Im R' (n + 1) y ↔ y = x ∨ Im R n y := by
  obtain ⟨b, f', hb, e, h1, h2, h3, h4, h5⟩ := ins_loop fu x n R hn (by omega) (fun i h => Nat.lt_of_lt_of_le (hR i h) hB) fu n f (Nat.le_refl n) (by omega) hv (fun k h1 h2 => by omega) (fun k h1 h2 => by omega)
  have hlo : ∀ k, k < b → R k < x := by
    intro k hk
    have hne : R k ≠ x := fun q => hnew ⟨k, by omega, q⟩
    rcases h1 with h1 | h1
    · omega
    · by_cases q : k = b - 1
      · subst q; omega
      · have := hi k (b - 1) (by omega) (by omega)
        omega
  refine ⟨f', fun k => if k < b then R k else if k = b then x else R (k - 1), ?_, ?_, ?_, ?_, ?_⟩
  · rw [m_X0_insertInOrder, if_neg (nI_pos (by omega)), if_pos (show nI n < (255 : Int32) from (nI_ltI (b := 255) (by omega) (by decide)).mpr hn)]
    exact e
  · intro i j hij hj
    dsimp only
    by_cases a1 : i < b
    · rw [if_pos a1]
      by_cases a2 : j < b
      · rw [if_pos a2]; exact hi i j hij (by omega)
      · rw [if_neg a2]
        by_cases a3 : j = b
        · rw [if_pos a3]; exact hlo i a1
        · rw [if_neg a3]
          exact Nat.lt_trans (hlo i a1) (h2 (j - 1) (by omega) (by omega))
    · rw [if_neg a1, if_neg (show ¬ j < b by omega), if_neg (show ¬ j = b by omega)]
      by_cases a3 : i = b
      · rw [if_pos a3]; exact h2 (j - 1) (by omega) (by omega)
      · rw [if_neg a3]; exact hi (i - 1) (j - 1) (by omega) (by omega)
  · intro k hk
    dsimp only
    by_cases a1 : k < b
    · rw [if_pos a1]; exact h3 k a1
    · rw [if_neg a1]
      by_cases a3 : k = b
      · rw [if_pos a3, a3]; exact h4
      · rw [if_neg a3]; exact h5 k (by omega) (by omega)
  · intro k hk
    dsimp only
    by_cases a1 : k < b
    · rw [if_pos a1]; exact hR k (by omega)
    · rw [if_neg a1]
      by_cases a3 : k = b
      · rw [if_pos a3]; exact hx
      · rw [if_neg a3]; exact hR _ (by omega)
  · intro y
    constructor
    · rintro ⟨i, hi2, e2⟩
      dsimp only at e2
      by_cases a1 : i < b
      · rw [if_pos a1] at e2; exact Or.inr ⟨i, by omega, e2⟩
      · rw [if_neg a1] at e2
        by_cases a3 : i = b
        · rw [if_pos a3] at e2; exact Or.inl e2.symm
        · rw [if_neg a3] at e2; exact Or.inr ⟨i - 1, by omega, e2⟩
    · rintro (rfl | ⟨i, hi2, e2⟩)
      · refine ⟨b, by omega, ?_⟩
        dsimp only
        rw [if_neg (Nat.lt_irrefl b), if_pos rfl]
      · by_cases a1 : i < b
        · refine ⟨i, by omega, ?_⟩
          dsimp only
          rw [if_pos a1]; exact e2
        · refine ⟨i + 1, by omega, ?_⟩
          dsimp only
          rw [if_neg (show ¬ i + 1 < b by omega), if_neg (show ¬ i + 1 = b by omega), Nat.add_sub_cancel]; exact e2
-- grants of four users in a long
def pkn (L : Nat → Nat) : Nat → Nat
  | 0 => 0
  | k + 1 => pkn L k + 2 ^ (12 * k) * L k
theorem pkn_lt {L : Nat → Nat} (hL : ∀ u, L u < 4096) : ∀ k, pkn L k < 2 ^ (12 * k)
  | 0 => Nat.two_pow_pos _
  | k + 1 => by
    have h1 := pkn_lt hL k
    have h2 : 2 ^ (12 * k) * L k ≤ 2 ^ (12 * k) * 4095 := Nat.mul_le_mul_left _ (by have := hL k; omega)
    have h3 : 2 ^ (12 * (k + 1)) = 2 ^ (12 * k) * 4096 := by rw [show 12 * (k + 1) = 12 * k + 12 by omega, Nat.pow_add]
    rw [pkn, h3]
    omega
def loP (L : Nat → Nat) : Nat := pkn L 4
def hiP (L : Nat → Nat) : Nat := pkn (fun u => L (u + 4)) 4
theorem lowPart_lo {k S : Nat} (hk : k < 4) (hS : S < 4096) : m_X0_lowPart (nI k) (nI S) = lN (S * 2 ^ (12 * k)) := by
  rw [m_X0_lowPart, if_neg (fun q => by have := (nI_leI (a := 4) (b := k) (by decide) (by omega)).mp q; omega), nI_l (by omega), show (12 : Int32) = nI 12 from rfl, pk_mul]
  exact wb_shl S (by omega)
theorem lowPart_hi {k S : Nat} (hk : 4 ≤ k) (hk2 : k < 8) : m_X0_lowPart (nI k) (nI S) = 0 := by
  rw [m_X0_lowPart, if_pos (show (4 : Int32) ≤ nI k from (nI_leI (a := 4) (b := k) (by decide) (by omega)).mpr hk)]
theorem highPart_hi {k S : Nat} (hk : 4 ≤ k) (hk2 : k < 8) (hS : S < 4096) : m_X0_highPart (nI k) (nI S) = lN (S * 2 ^ (12 * (k - 4))) := by
  rw [m_X0_highPart, if_neg (fun q => by have := (nI_ltI (a := k) (b := 4) (by omega) (by decide)).mp q; omega), nI_l (by omega), show (12 : Int32) = nI 12 from rfl, show (4 : Int32) = nI 4 from rfl, pk_sub hk, pk_mul]
  exact wb_shl S (by omega)
theorem highPart_lo {k S : Nat} (hk : k < 4) : m_X0_highPart (nI k) (nI S) = 0 := by
  rw [m_X0_highPart, if_pos (show nI k < (4 : Int32) from (nI_ltI (a := k) (b := 4) (by omega) (by decide)).mpr hk)]
theorem orZ (a : Nat) : lN a ||| 0 = lN a := by
  have h := fb_orL a 0
  rw [Nat.or_zero] at h
  exact h
theorem orS {a S i : Nat} (h : a < 2 ^ i) : lN a ||| lN (S * 2 ^ i) = lN (a + 2 ^ i * S) := by
  rw [fb_orL, Nat.mul_comm S, Nat.or_comm, ← Nat.two_pow_add_eq_or_of_lt h, Nat.add_comm]
theorem orLow {L : Nat → Nat} (hL : ∀ u, L u < 4096) {k : Nat} (hk : k < 8) : lN (pkn L (min k 4)) ||| m_X0_lowPart (nI k) (nI (L k)) = lN (pkn L (min (k + 1) 4)) := by
  rcases Nat.lt_or_ge k 4 with q | q
  · rw [lowPart_lo q (hL k), show min k 4 = k by omega, show min (k + 1) 4 = k + 1 by omega, orS (pkn_lt hL k), pkn]
  · rw [lowPart_hi q hk, show min k 4 = 4 by omega, show min (k + 1) 4 = 4 by omega, orZ]
theorem orHigh {L : Nat → Nat} (hL : ∀ u, L u < 4096) {k : Nat} (hk : k < 8) : lN (pkn (fun u => L (u + 4)) (k - 4)) ||| m_X0_highPart (nI k) (nI (L k)) = lN (pkn (fun u => L (u + 4)) (k + 1 - 4)) := by
  rcases Nat.lt_or_ge k 4 with q | q
  · rw [highPart_lo q, show k - 4 = 0 by omega, show k + 1 - 4 = 0 by omega, orZ]
  · rw [highPart_hi q hk (hL k), orS (pkn_lt (fun u => hL (u + 4)) (k - 4)), show k + 1 - 4 = (k - 4) + 1 by omega, pkn, show k - 4 + 4 = k by omega]
theorem pkn_skipL {L : Nat → Nat} {k : Nat} (h : L k = 0) : pkn L (min (k + 1) 4) = pkn L (min k 4) := by
  rcases Nat.lt_or_ge k 4 with q | q
  · rw [show min k 4 = k by omega, show min (k + 1) 4 = k + 1 by omega, pkn, h, Nat.mul_zero, Nat.add_zero]
  · rw [show min k 4 = 4 by omega, show min (k + 1) 4 = 4 by omega]
theorem pkn_skipH {L : Nat → Nat} {k : Nat} (h : L k = 0) : pkn (fun u => L (u + 4)) (k + 1 - 4) = pkn (fun u => L (u + 4)) (k - 4) := by
  rcases Nat.lt_or_ge k 4 with q | q
  · rw [show k - 4 = 0 by omega, show k + 1 - 4 = 0 by omega]
  · rw [show k + 1 - 4 = (k - 4) + 1 by omega, pkn, show k - 4 + 4 = k by omega, h, Nat.mul_zero, Nat.add_zero]
/-- the grants of a row, nothing beyond the eight users -/
def gr8 (g : Nat → Int32) (u : Nat) : Nat := if u < 8 then nv g u else 0
theorem gr8_lt {g : Nat → Int32} (hg : VA g 8 4096) (u : Nat) : gr8 g u < 4096 := by
  unfold gr8
  split
  · next h => exact (hg u h).1
  · decide
theorem cl14 : Int32.toNatClampNeg 14 = 14 := by decide
theorem findAllLeft_loop {g : Nat → Int32} (hg : VA g 8 4096) (fu : Nat) (lg hg2 : Nat → Int64) : ∀ m k : Nat, k ≤ 8 → 8 < k + m → m_X0_findAllLeft_7 fu g m (lN (pkn (gr8 g) (min k 4))) (lN (pkn (fun u => gr8 g (u + 4)) (k - 4))) (nI k) lg hg2 = some (vp_updL lg 14 (lN (loP (gr8 g))), vp_updL hg2 14 (lN (hiP (gr8 g)))) := by
  intro m
  induction m with
  | zero => intro k h1 h2; omega
  | succ m ih =>
    intro k h1 h2
    rw [m_X0_findAllLeft_7]
    by_cases hk : k = 8
    · subst hk
      rw [if_pos ((c8 (by decide)).mpr (Nat.le_refl 8)), cl14]
      rfl
    · have hk8 : k < 8 := by omega
      have e : g k = nI (gr8 g k) := by rw [gr8, if_pos hk8]; exact (hg k hk8).2
      rw [if_neg (fun q => hk (by have := (c8 (k := k) (by omega)).mp q; omega)), ixI hk8 (by decide), clI (by omega), e, orLow (gr8_lt hg) hk8, orHigh (gr8_lt hg) hk8, nI_1]
      exact ih (k + 1) (by omega) (by omega)
theorem findAllLeft_eq {g : Nat → Int32} (hg : VA g 8 4096) {fu : Nat} (hf : 9 ≤ fu) (lg hg2 : Nat → Int64) : m_X0_findAllLeft fu g lg hg2 = some (vp_updL lg 14 (lN (loP (gr8 g))), vp_updL hg2 14 (lN (hiP (gr8 g)))) := findAllLeft_loop hg fu lg hg2 fu 0 (by decide) (by omega)
/-- what a candidate covers of a user -/
def cvr (g : Nat → Int32) (S u : Nat) : Nat := if u < 8 ∧ hold g u S then S else 0
theorem cvr_lt {g : Nat → Int32} {S : Nat} (hS : S < 4096) (u : Nat) : cvr g S u < 4096 := by
  unfold cvr
  split
  · exact hS
  · decide
theorem findCover_loop {g : Nat → Int32} (hg : VA g 8 4096) {S k0 : Nat} (hS : S < 4096) (hk0 : k0 < 255) (fu : Nat) (cs : Nat → Int32) (lc hc : Nat → Int64) : ∀ m k : Nat, k ≤ 8 → 8 < k + m → m_X0_findCover_15 fu g cs (nI k0) m (nI S) (lN (pkn (cvr g S) (min k 4))) (lN (pkn (fun u => cvr g S (u + 4)) (k - 4))) (nI k) lc hc = some (vp_updL lc k0 (lN (loP (cvr g S))), vp_updL hc k0 (lN (hiP (cvr g S)))) := by
  intro m
  induction m with
  | zero => intro k h1 h2; omega
  | succ m ih =>
    intro k h1 h2
    rw [m_X0_findCover_15]
    by_cases hk : k = 8
    · subst hk
      rw [if_pos ((c8 (by decide)).mpr (Nat.le_refl 8)), ixI hk0 (by decide), clI (by omega)]
      rfl
    · have hk8 : k < 8 := by omega
      rw [if_neg (fun q => hk (by have := (c8 (k := k) (by omega)).mp q; omega)), holds_eq hg hk8 hS, bnd1, ifb, nI_1]
      have := ih (k + 1) (by omega) (by omega)
      by_cases h : hold g k S
      · have e : cvr g S k = S := by rw [cvr, if_pos ⟨hk8, h⟩]
        have a1 := orLow (cvr_lt (g := g) hS) hk8
        have a2 := orHigh (cvr_lt (g := g) hS) hk8
        rw [e] at a1 a2
        rw [if_pos h, a1, a2]
        exact this
      · have e : cvr g S k = 0 := by rw [cvr, if_neg (fun q => h q.2)]
        rw [if_neg h, ← pkn_skipL e, ← pkn_skipH (L := cvr g S) e]
        exact this
theorem findCover_eq {g : Nat → Int32} (hg : VA g 8 4096) {S k0 : Nat} (hS : S < 4096) (hk0 : k0 < 255) {fu : Nat} (hf : 9 ≤ fu) {cs : Nat → Int32} (hc0 : cs k0 = nI S) (lc hc : Nat → Int64) : m_X0_findCover fu g cs lc hc (nI k0) = some (vp_updL lc k0 (lN (loP (cvr g S))), vp_updL hc k0 (lN (hiP (cvr g S)))) := by
  rw [m_X0_findCover, ixI hk0 (by decide), clI (by omega), hc0]
  exact findCover_loop hg hS hk0 fu cs lc hc fu 0 (by decide) (by omega)
def CovOK (g : Nat → Int32) (R : Nat → Nat) (n : Nat) (lc hc : Nat → Int64) : Prop := ∀ j, j < n → lc j = lN (loP (cvr g (R j))) ∧ hc j = lN (hiP (cvr g (R j)))
theorem covers_loop {g o : Nat → Int32} (hg : VA g 8 4096) (su : Int32) {n : Nat} {R : Nat → Nat} (hn : n ≤ 255) (hR : ∀ i, i < n → R i < 4096) {fu : Nat} (hf : 9 ≤ fu) {cs : Nat → Int32} (hcs : ∀ k, k < n → cs k = nI (R k)) (lg hg2 : Nat → Int64) : ∀ (m k : Nat) (lc hc : Nat → Int64), k ≤ n → n < k + m → CovOK g R k lc hc →
    ∃ lc' hc', m_X0_findCandidates_86 fu g o su m (nI k) cs (nI n) lc hc lg hg2 = some (cs, nI n, lc', hc', vp_updL lg 14 (lN (loP (gr8 g))), vp_updL hg2 14 (lN (hiP (gr8 g)))) ∧ CovOK g R n lc' hc' := by
  intro m
  induction m with
  | zero => intro k lc hc h1 h2; omega
  | succ m ih =>
    intro k lc hc h1 h2 h3
    rw [m_X0_findCandidates_86]
    by_cases hk : k = n
    · subst hk
      rw [if_pos ((nI_leI (by omega) (by omega)).mpr (Nat.le_refl k)), findAllLeft_eq hg hf, bnd2]
      exact ⟨lc, hc, rfl, h3⟩
    · have hkn : k < n := by omega
      rw [if_neg (fun q => by have := (nI_leI (a := n) (b := k) (by omega) (by omega)).mp q; omega), findCover_eq hg (hR k hkn) (by omega) hf (hcs k hkn), bnd2, nI_1]
      dsimp only
      refine ih (k + 1) _ _ (by omega) (by omega) (fun j hj => ?_)
      by_cases e : j = k
      · subst e; exact ⟨pk_uLs, pk_uLs⟩
      · rw [pk_uLn e, pk_uLn e]; exact h3 j (by omega)
/-- the candidates -/
def isC (g o : Nat → Int32) (s y : Nat) : Prop := ∃ V, 1 ≤ V ∧ V < 256 ∧ HO g (SH g V) = V ∧ SH g V ≠ 0 ∧ s ≤ pc V ∧ prop o (SH g V) ∧ SH g V = y
def isCb (g o : Nat → Int32) (s U y : Nat) : Prop := ∃ V, 1 ≤ V ∧ V < U ∧ HO g (SH g V) = V ∧ SH g V ≠ 0 ∧ s ≤ pc V ∧ prop o (SH g V) ∧ SH g V = y
theorem isCb_no {g o : Nat → Int32} {s U : Nat} (h : ¬ (HO g (SH g U) = U ∧ SH g U ≠ 0 ∧ s ≤ pc U ∧ prop o (SH g U))) (y : Nat) : isCb g o s (U + 1) y ↔ isCb g o s U y := by
  constructor
  · rintro ⟨V, a, b, c, d, e, f, i⟩
    by_cases q : V = U
    · subst q; exact absurd ⟨c, d, e, f⟩ h
    · exact ⟨V, a, by omega, c, d, e, f, i⟩
  · rintro ⟨V, a, b, r⟩
    exact ⟨V, a, by omega, r⟩
theorem isCb_yes {g o : Nat → Int32} {s U : Nat} (h0 : 1 ≤ U) (h : HO g (SH g U) = U ∧ SH g U ≠ 0 ∧ s ≤ pc U ∧ prop o (SH g U)) (y : Nat) : isCb g o s (U + 1) y ↔ y = SH g U ∨ isCb g o s U y := by
  constructor
  · rintro ⟨V, a, b, c, d, e, f, i⟩
    by_cases q : V = U
    · subst q; exact Or.inl i.symm
    · exact Or.inr ⟨V, a, by omega, c, d, e, f, i⟩
  · rintro (rfl | ⟨V, a, b, r⟩)
    · exact ⟨U, h0, by omega, h.1, h.2.1, h.2.2.1, h.2.2.2, rfl⟩
    · exact ⟨V, a, by omega, r⟩
theorem prB_z {o : Nat → Int32} {S : Nat} : prB o S = 0 ↔ ¬ prop o S := by
  unfold prB
  by_cases h : prop o S
  · rw [if_pos h]
    exact ⟨fun q => absurd q (by decide), fun q => absurd h q⟩
  · rw [if_neg h]
    exact ⟨fun _ => h, fun _ => rfl⟩
theorem cand_loop {g o : Nat → Int32} (hg : VA g 8 4096) (ho : VA o 12 4096) {s : Nat} (hs : s < 2 ^ 31) {fu : Nat} (hf : 256 ≤ fu) (lc hc lg hg2 : Nat → Int64) : ∀ (m U n : Nat) (R : Nat → Nat) (cs : Nat → Int32), 1 ≤ U → U ≤ 256 → 256 < U + m → n < U → Inc R n → (∀ k, k < n → cs k = nI (R k)) → (∀ i, i < n → R i < 4096) → (∀ y, Im R n y ↔ isCb g o s U y) →
    ∃ (cs' : Nat → Int32) (n' : Nat) (R' : Nat → Nat), m_X0_findCandidates_7 fu g o (nI s) m (nI U) cs (nI n) lc hc lg hg2 = m_X0_findCandidates_86 fu g o (nI s) fu 0 cs' (nI n') lc hc lg hg2 ∧ n' < 256 ∧ Inc R' n' ∧ (∀ k, k < n' → cs' k = nI (R' k)) ∧ (∀ i, i < n' → R' i < 4096) ∧ (∀ y, Im R' n' y ↔ isC g o s y) := by
  intro m
  induction m with
  | zero => intro U n R cs h1 h2 h3; omega
  | succ m ih =>
    intro U n R cs h1 h2 h3 h4 h5 h6 h7 h8
    rw [m_X0_findCandidates_7]
    by_cases hU : U = 256
    · subst hU
      rw [if_pos (show (255 : Int32) < nI 256 by decide)]
      exact ⟨cs, n, R, rfl, h4, h5, h6, h7, h8⟩
    · have hU2 : U < 256 := by omega
      rw [if_neg (fun q => by have := (nI_ltI (a := 255) (b := U) (by decide) (by omega)).mp q; omega), sharedBy_eq hg hU2 (by omega), bnd1, holdersOf_eq hg (SH_lt g U) (by omega), bnd1, nI_1]
      have hHO := HO_lt g (SH g U)
      have hSH := SH_lt g U
      have no : ∀ (h : ¬ (HO g (SH g U) = U ∧ SH g U ≠ 0 ∧ s ≤ pc U ∧ prop o (SH g U))), ∃ (cs' : Nat → Int32) (n' : Nat) (R' : Nat → Nat), m_X0_findCandidates_7 fu g o (nI s) m (nI (U + 1)) cs (nI n) lc hc lg hg2 = m_X0_findCandidates_86 fu g o (nI s) fu 0 cs' (nI n') lc hc lg hg2 ∧ n' < 256 ∧ Inc R' n' ∧ (∀ k, k < n' → cs' k = nI (R' k)) ∧ (∀ i, i < n' → R' i < 4096) ∧ (∀ y, Im R' n' y ↔ isC g o s y) := fun h =>
        ih (U + 1) n R cs (by omega) (by omega) (by omega) (by omega) h5 h6 h7 (fun y => (h8 y).trans (isCb_no h y).symm)
      by_cases a1 : HO g (SH g U) = U
      · rw [if_pos (show nI (HO g (SH g U)) = nI U by rw [a1])]
        by_cases a2 : SH g U = 0
        · rw [if_pos (show nI (SH g U) = 0 by rw [a2]; rfl)]
          exact no (fun q => q.2.1 a2)
        · rw [if_neg (fun q => a2 ((nI_z (by omega)).mp q)), bc32 (by omega)]
          have hpc := pc_lt (n := U) 8 (by decide) hU2
          by_cases a3 : s ≤ pc U
          · rw [if_neg (fun q => by have := (nI_ltI (a := pc U) (b := s) (by omega) hs).mp q; omega), (isProper_eq ho hSH (by omega)).1, bnd1]
            by_cases a4 : prop o (SH g U)
            · rw [if_neg (fun q => prB_z.mp q a4)]
              have hnew : ¬ Im R n (SH g U) := by
                rw [h8]
                rintro ⟨V, b1, b2, b3, b4, b5, b6, b7⟩
                rw [b7, a1] at b3
                omega
              obtain ⟨f', R', e1, e2, e3, e4, e5⟩ := ins_eq (fu := fu) hf (show n < 255 by omega) (by decide) hSH h7 h5 hnew h6
              rw [e1, bnd2]
              exact ih (U + 1) (n + 1) R' f' (by omega) (by omega) (by omega) (by omega) e2 e3 e4 (fun y => (e5 y).trans ((or_congr Iff.rfl (h8 y)).trans (isCb_yes h1 ⟨a1, a2, a3, a4⟩ y).symm))
            · rw [if_pos (prB_z.mpr a4)]
              exact no (fun q => a4 q.2.2.2)
          · rw [if_pos ((nI_ltI (a := pc U) (b := s) (by omega) hs).mpr (by omega))]
            exact no (fun q => a3 q.2.2.1)
      · rw [if_neg (fun q => a1 ((nI_eq (by omega) (by omega)).mp q))]
        exact no (fun q => a1 q.1)
/-- what findCandidates leaves -/
def CandOK (g o : Nat → Int32) (s n : Nat) (R : Nat → Nat) : Prop := n ≤ 255 ∧ Inc R n ∧ (∀ i, i < n → R i < 4096) ∧ ∀ y, Im R n y ↔ isC g o s y
theorem findCandidates_eq {g o : Nat → Int32} (hg : VA g 8 4096) (ho : VA o 12 4096) {s : Nat} (hs : s < 2 ^ 31) {fu : Nat} (hf : 260 ≤ fu) (cs : Nat → Int32) (cn : Int32) (lc hc lg hg2 : Nat → Int64) :
    ∃ (cs' : Nat → Int32) (n : Nat) (R : Nat → Nat) (lc' hc' : Nat → Int64), m_X0_findCandidates fu g o (nI s) cs cn lc hc lg hg2 = some (cs', nI n, lc', hc', vp_updL lg 14 (lN (loP (gr8 g))), vp_updL hg2 14 (lN (hiP (gr8 g)))) ∧ CandOK g o s n R ∧ (∀ k, k < n → cs' k = nI (R k)) ∧ CovOK g R n lc' hc' := by
  obtain ⟨cs', n, R, e, h1, h2, h3, h4, h5⟩ := cand_loop hg ho hs (fu := fu) (by omega) lc hc lg hg2 fu 1 0 (fun _ => 0) cs (by decide) (by decide) (by omega) (by decide) (fun i j _ h => by omega) (fun k h => by omega) (fun i h => by omega) (fun y => ⟨fun ⟨i, h, _⟩ => by omega, fun ⟨V, a, b, _⟩ => by omega⟩)
  obtain ⟨lc', hc', e2, h6⟩ := covers_loop (o := o) hg (nI s) (n := n) (R := R) (by omega) h4 (fu := fu) (by omega) h3 lg hg2 fu 0 lc hc (by omega) (by omega) (fun j h => by omega)
  refine ⟨cs', n, R, lc', hc', ?_, ⟨by omega, h2, h4, h5⟩, h3, h6⟩
  rw [m_X0_findCandidates]
  exact e.trans e2
