theorem inc_le {Q R : Nat → Nat} {q n : Nat} (h : Inc Q q) (h' : Inc R n) (hs : ∀ x, Im Q q x → Im R n x) : q ≤ n := by
  have key : ∀ k, k < q → k < n ∧ R k ≤ Q k := by
    intro k
    induction k with
    | zero =>
      intro hk
      obtain ⟨i, hi, e⟩ := hs (Q 0) ⟨0, hk, rfl⟩
      refine ⟨by omega, ?_⟩
      rcases Nat.eq_zero_or_pos i with z | z
      · subst z; omega
      · have := h' 0 i z hi; omega
    | succ k ih =>
      intro hk
      obtain ⟨a, b⟩ := ih (by omega)
      obtain ⟨i, hi, e⟩ := hs (Q (k + 1)) ⟨k + 1, hk, rfl⟩
      have c := h k (k + 1) (by omega) hk
      have hik : k + 1 ≤ i := by
        rcases Nat.lt_or_ge k i with z | z
        · exact z
        · rcases Nat.lt_or_ge i k with z2 | z2
          · have := h' i k z2 a; omega
          · rw [show i = k by omega] at e; omega
      refine ⟨by omega, ?_⟩
      rcases Nat.lt_or_ge (k + 1) i with z | z
      · have := h' (k + 1) i z hi; omega
      · rw [show i = k + 1 by omega] at e; omega
  rcases Nat.lt_or_ge n q with z | z
  · have := (key n z).1; omega
  · exact z
-- what a candidate would cover more
def gn (g : Nat → Int32) (L : Nat → Nat) (S : Nat) : Nat := cntL (fun u => L u &&& cvr g S u)
theorem gain_x {g : Nat → Int32} {L : Nat → Nat} (hL : ∀ u, L u < 4096) {S : Nat} (hS : S < 4096) : m_J13_bitCount_95d88 (lN (loP L) &&& lN (loP (cvr g S))) + m_J13_bitCount_95d88 (lN (hiP L) &&& lN (hiP (cvr g S))) = nI (gn g L S) := by
  have hl : ∀ u, L u &&& cvr g S u < 4096 := fun u => Nat.lt_of_le_of_lt Nat.and_le_left (hL u)
  have e1 : loP L &&& loP (cvr g S) = loP (fun u => L u &&& cvr g S u) := pkn_and hL (cvr_lt hS) 4
  have e2 : hiP L &&& hiP (cvr g S) = hiP (fun u => L u &&& cvr g S u) := pkn_and (fun u => hL (u + 4)) (fun u => cvr_lt hS (u + 4)) 4
  rw [fb_andL, fb_andL, e1, e2, bc64 (Nat.lt_trans (loP_lt hl) (by decide)), bc64 (Nat.lt_trans (hiP_lt hl) (by decide)), nI_add, cnt_pack hl, gn]
theorem gain_m_one {G C S : Nat} (h : G &&& S = S) : an G C &&& S = an S C := by
  apply Nat.eq_of_testBit_eq
  intro i
  have := congrArg (fun x => x.testBit i) h
  simp only [Nat.testBit_and] at this
  rw [Nat.testBit_and, an_bit, an_bit]
  cases h1 : G.testBit i <;> cases h2 : S.testBit i <;> cases h3 : C.testBit i <;> simp_all
theorem gain_loop {g : Nat → Int32} (hg : VA g 8 4096) {C : Nat → Nat} {cv : Nat → Int32} (h : RV cv C) {S : Nat} (hS : S < 4096) {fu : Nat} (hf : 40 ≤ fu) : ∀ m k : Nat, k ≤ 8 → 8 < k + m → m_X1_gain_4 fu g cv (nI S) m (nI (fb_sm (fun u => pc (an (gr8 g u) (C u) &&& cvr g S u)) k)) (nI k) = some (nI (gn g (fun u => an (gr8 g u) (C u)) S)) := by
  intro m
  induction m with
  | zero => intro k h1 h2; omega
  | succ m ih =>
    intro k h1 h2
    rw [m_X1_gain_4]
    by_cases hk : k = 8
    · subst hk
      rw [if_pos ((c8 (by decide)).mpr (Nat.le_refl 8))]
      rfl
    · have hk8 : k < 8 := by omega
      have hl : an S (C k) < 4096 := an_lt (k := 12) hS
      rw [if_neg (fun q => hk (by have := (c8 (k := k) (by omega)).mp q; omega)), isWithin_eq hg hk8 hS, bnd1, ifb, ixI hk8 (by decide), clI (by omega), h k hk8, anI, size_eq (by omega) (by omega), bnd1, show (0 : Int32) = nI 0 from rfl, nI_add, nI_add, nI_1]
      have := ih (k + 1) (by omega) (by omega)
      rw [fb_sm_succ] at this
      by_cases hh : hold g k S
      · have e : an (gr8 g k) (C k) &&& cvr g S k = an S (C k) := by
          rw [cvr, if_pos ⟨hk8, hh⟩, gr8, if_pos hk8]
          exact gain_m_one hh
        rw [e] at this
        rw [if_pos hh]
        exact this
      · have e : an (gr8 g k) (C k) &&& cvr g S k = 0 := by rw [cvr, if_neg (fun z => hh z.2), Nat.and_zero]
        rw [e, pc_0] at this
        rw [if_neg hh]
        exact this
theorem gain_eq {g : Nat → Int32} (hg : VA g 8 4096) {C : Nat → Nat} {cv : Nat → Int32} (h : RV cv C) {S : Nat} (hS : S < 4096) {fu : Nat} (hf : 40 ≤ fu) : m_X1_gain fu g cv (nI S) = some (nI (gn g (fun u => an (gr8 g u) (C u)) S)) := gain_loop hg h hS hf fu 0 (by decide) (by omega)
-- the candidate that saves most
def enc : Option Nat → Int32
  | none => -1
  | some k => nI k
def sel (S : Nat → Int32) : Nat → Nat → Option Nat → Int32 → Option Nat
  | 0, _, a, _ => a
  | d + 1, k, a, b => if S k ≤ b then sel S d (k + 1) a b else sel S d (k + 1) (some k) (S k)
theorem sel_in {S : Nat → Int32} : ∀ (d k : Nat) (a : Option Nat) (b : Int32) (z : Nat), 0 ≤ b → (∀ i, a = some i → i < k ∧ 0 < S i) → sel S d k a b = some z → z < k + d ∧ 0 < S z
  | 0, k, a, b, z, hb, ha, h => by
    obtain ⟨h1, h2⟩ := ha z h
    exact ⟨h1, h2⟩
  | d + 1, k, a, b, z, hb, ha, h => by
    rw [sel] at h
    by_cases q : S k ≤ b
    · rw [if_pos q] at h
      have := sel_in d (k + 1) a b z hb (fun i hi => ⟨Nat.lt_succ_of_lt (ha i hi).1, (ha i hi).2⟩) h
      exact ⟨by omega, this.2⟩
    · rw [if_neg q] at h
      have hp : 0 < S k := by rw [fa_le] at q hb; rw [fa_lt]; omega
      have := sel_in d (k + 1) (some k) (S k) z (by rw [fa_lt] at hp; rw [fa_le]; omega) (fun i hi => by cases hi; exact ⟨Nat.lt_succ_self k, hp⟩) h
      exact ⟨by omega, this.2⟩
theorem sel_none {S : Nat → Int32} : ∀ (d k : Nat), (∀ i, k ≤ i → i < k + d → S i ≤ 0) → sel S d k none 0 = none
  | 0, _, _ => rfl
  | d + 1, k, h => by
    rw [sel, if_pos (h k (Nat.le_refl k) (by omega))]
    exact sel_none d (k + 1) (fun i h1 h2 => h i (by omega) (by omega))
def sav (g : Nat → Int32) (R : Nat → Nat) (rc ec : Int32) (L : Nat → Nat) (k : Nat) : Int32 := ec * nI (gn g L (R k)) - rc
theorem xsel_loop {g : Nat → Int32} {n : Nat} {R : Nat → Nat} (hn : n ≤ 255) (hR : ∀ i, i < n → R i < 4096) (rc ec : Int32) {lc hc : Nat → Int64} (hcov : CovOK g R n lc hc) {L : Nat → Nat} (hL : ∀ u, L u < 4096) (fu : Nat) : ∀ (d k m : Nat) (a : Option Nat) (b : Int32), k + d = n → d < m → m_X0_mostSavingCandidate_9 fu rc ec (nI n) lc hc (lN (loP L)) (lN (hiP L)) m (enc a) b (nI k) = some (enc (sel (sav g R rc ec L) d k a b)) := by
  intro d
  induction d with
  | zero =>
    intro k m a b h1 h2
    obtain ⟨m, rfl⟩ : ∃ k, m = k + 1 := ⟨m - 1, by omega⟩
    rw [m_X0_mostSavingCandidate_9, if_pos ((nI_leI (by omega) (by omega)).mpr (by omega))]
    rfl
  | succ d ih =>
    intro k m a b h1 h2
    obtain ⟨m, rfl⟩ : ∃ k, m = k + 1 := ⟨m - 1, by omega⟩
    have hk : k < n := by omega
    rw [m_X0_mostSavingCandidate_9, if_neg (fun z => by have := (nI_leI (a := n) (b := k) (by omega) (by omega)).mp z; omega), ixI (show k < 255 by omega) (by decide), clI (by omega), (hcov k hk).1, (hcov k hk).2, gain_x hL (hR k hk), nI_1, sel]
    have e : ec * nI (gn g L (R k)) - rc = sav g R rc ec L k := rfl
    rw [e]
    by_cases q : sav g R rc ec L k ≤ b
    · rw [if_pos q, if_pos q]
      exact ih (k + 1) m a b (by omega) (by omega)
    · rw [if_neg q, if_neg q]
      exact ih (k + 1) m (some k) _ (by omega) (by omega)
theorem xsel_eq {g : Nat → Int32} {n : Nat} {R : Nat → Nat} (hn : n ≤ 255) (hR : ∀ i, i < n → R i < 4096) (rc ec : Int32) {lc hc : Nat → Int64} (hcov : CovOK g R n lc hc) {L : Nat → Nat} (hL : ∀ u, L u < 4096) {fu : Nat} (hf : 300 ≤ fu) : m_X0_mostSavingCandidate fu rc ec (nI n) lc hc (lN (loP L)) (lN (hiP L)) = some (enc (sel (sav g R rc ec L) n 0 none 0)) :=
  xsel_loop hn hR rc ec hcov hL fu n 0 fu none 0 (by omega) (by omega)
theorem bl01 {b : Bool} : (if b = true then (1 : Int32) else 0) = 1 ↔ b = true := by cases b <;> decide
/-- the model's inner loop, to its end -/
theorem msel_loop {g o : Nat → Int32} (hg : VA g 8 4096) {n : Nat} {R : Nat → Nat} (hn : n ≤ 255) (hR : ∀ i, i < n → R i < 4096) (rc ec su : Int32) {fo : Nat → Int32} (hfo : ∀ k, k < n → fo k = nI (R k)) {C : Nat → Nat} {cv : Nat → Int32} (hcv : RV cv C) {T : Nat → Bool} {ta : Nat → Int32} (hta : ∀ k, k < n → ta k = if T k = true then 1 else 0) (hT : ∀ k, k < n → T k = true → sav g R rc ec (fun u => an (gr8 g u) (C u)) k ≤ 0) {fu : Nat} (hf : 40 ≤ fu) (la co : Nat → Int32) (mn th v1 : Int32) (m : Nat) : ∀ (d k : Nat) (a : Option Nat) (b : Int32), k + d = n → 0 ≤ b → (∀ i, a = some i → i < n) →
    m_X1_mineGreedily_40 fu g o rc ec su (m + d + 1) 1 v1 (enc a) b (nI k) la fo co cv ta mn (nI n) th = match sel (sav g R rc ec (fun u => an (gr8 g u) (C u))) d k a b with
      | none => m_X1_mineGreedily_40 fu g o rc ec su m 0 v1 (-1) 0 0 la fo co cv ta mn (nI n) th
      | some z => bnd1 (m_X1_add fu g cv (nI (R z))) (fun cv' => m_X1_mineGreedily_40 fu g o rc ec su m 0 (v1 + 1) (nI z) 0 0 la fo co cv' (upd ta z 1) mn (nI n) th) := by
  intro d
  induction d with
  | zero =>
    intro k a b h1 hb ha
    rw [m_X1_mineGreedily_40, if_neg (by decide), if_pos ((nI_leI (by omega) (by omega)).mpr (by omega)), sel]
    cases a with
    | none => rw [enc, if_pos (by decide)]
    | some z =>
      have hz := ha z rfl
      rw [enc, if_neg (nI_pos (by omega)), ixI (show z < 256 by omega) (by decide), clI (by omega), hfo z hz]
  | succ d ih =>
    intro k a b h1 hb ha
    have hk : k < n := by omega
    rw [show m + (d + 1) + 1 = (m + d + 1) + 1 by omega, m_X1_mineGreedily_40, if_neg (by decide), if_neg (fun z => by have := (nI_leI (a := n) (b := k) (by omega) (by omega)).mp z; omega), ixI (show k < 256 by omega) (by decide), clI (by omega), hfo k hk, gain_eq hg hcv (hR k hk) hf, bnd1, nI_1, sel, hta k hk]
    have e : ec * nI (gn g (fun u => an (gr8 g u) (C u)) (R k)) - rc = sav g R rc ec (fun u => an (gr8 g u) (C u)) k := rfl
    rw [e]
    by_cases t : T k = true
    · have hle : sav g R rc ec (fun u => an (gr8 g u) (C u)) k ≤ b := by
        have := hT k hk t
        rw [fa_le] at this hb ⊢
        omega
      rw [if_pos (bl01.mpr t), if_pos hb, if_pos hle]
      exact ih (k + 1) a b (by omega) hb ha
    · rw [if_neg (fun z => t (bl01.mp z))]
      by_cases q : sav g R rc ec (fun u => an (gr8 g u) (C u)) k ≤ b
      · rw [if_pos q, if_pos q]
        exact ih (k + 1) a b (by omega) hb ha
      · rw [if_neg q, if_neg q]
        refine ih (k + 1) (some k) _ (by omega) ?_ (fun i hi => by cases hi; exact hk)
        rw [fa_le] at q hb ⊢
        omega
/-- the model lays the roles of the chosen candidates -/
theorem glay_loop {g o : Nat → Int32} (hg : VA g 8 4096) {n : Nat} {R : Nat → Nat} (hn : n ≤ 255) (hinc : Inc R n) (hR : ∀ i, i < n → R i < 4096) (rc ec su : Int32) {fo : Nat → Int32} (hfo : ∀ k, k < n → fo k = nI (R k)) {C : Nat → Nat} {cv : Nat → Int32} (hcv : RV cv C) {T : Nat → Bool} {ta : Nat → Int32} (hta : ∀ k, k < n → ta k = if T k = true then 1 else 0) {fu : Nat} (hf : 40 ≤ fu) (co : Nat → Int32) (th v1 : Int32) : ∀ (m k q : Nat) (Q : Nat → Nat) (la : Nat → Int32), k ≤ n → n < k + m → Cho R (fun i => T i = true) k Q q → (∀ i, i < q → la i = nI (Q i)) →
    ∃ (la' : Nat → Int32) (q' : Nat) (Q' : Nat → Nat), m_X1_mineGreedily_150 fu g o rc ec su m v1 (nI k) la fo co cv ta (nI q) (nI n) th = some (rc * v1 + ec * nI (cntL (fun u => an (gr8 g u) (C u))), la', fo, co, cv, ta, nI q', nI n, th) ∧ Cho R (fun i => T i = true) n Q' q' ∧ ∀ i, i < q' → la' i = nI (Q' i) := by
  intro m
  induction m with
  | zero => intro k q Q la h1 h2; omega
  | succ m ih =>
    intro k q Q la h1 h2 h3 h4
    rw [m_X1_mineGreedily_150]
    by_cases hk : k = n
    · subst hk
      rw [if_pos ((nI_leI (by omega) (by omega)).mpr (Nat.le_refl k)), uncovered_eq hg hcv hf, bnd1]
      exact ⟨la, q, Q, rfl, h3, h4⟩
    · have hkn : k < n := by omega
      have hq := h3.1
      rw [if_neg (fun z => by have := (nI_leI (a := n) (b := k) (by omega) (by omega)).mp z; omega), ixI (show k < 256 by omega) (by decide), ixI (show q < 256 by omega) (by decide), clI (by omega), clI (by omega), hfo k hkn, nI_1, nI_1, hta k hkn]
      by_cases t : T k = true
      · have hnew := Cho_new hinc hkn h3
        obtain ⟨e2, e5⟩ := app_inc h3.2.1 hnew
        rw [if_pos (bl01.mpr t)]
        refine ih (k + 1) (q + 1) _ _ (by omega) (by omega) (Cho_take h3 t e2 (fun i hi => ?_) e5) (fun i hi => ?_)
        · by_cases z : i = q
          · rw [if_pos z]; exact hR k hkn
          · rw [if_neg z]; exact h3.2.2.1 i (by omega)
        · by_cases z : i = q
          · rw [if_pos z, z, pk_us]
          · rw [if_neg z, pk_un z]; exact h4 i (by omega)
      · rw [if_neg (fun z => t (bl01.mp z))]
        exact ih (k + 1) q Q la (by omega) (by omega) (Cho_skip h3 t) h4
