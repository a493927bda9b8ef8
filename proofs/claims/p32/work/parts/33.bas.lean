-- bits of a number, an index, an int
theorem sl32 : ∀ n, n < 32 → ((nI n &&& 31).toBitVec.smod 32).toNat = n := by decide +kernel
theorem p2_lt {i : Nat} (h : i < 31) : 2 ^ i < 2 ^ 31 := Nat.pow_lt_pow_right (by decide) h
theorem shr1 {a i : Nat} (ha : a < 2 ^ 31) (hi : i < 31) : (nI a >>> (nI i &&& 31)) &&& 1 = nI (a / 2 ^ i % 2) := by
  have h := fa_mask (a / 2 ^ i) 1
  rw [Nat.pow_one] at h
  rw [pk_shrN ha (nI i &&& 31) i (sl32 i (by omega))]
  exact h
theorem tb_div (a i : Nat) : a.testBit i = true ↔ a / 2 ^ i % 2 = 1 := by
  rw [Nat.testBit_eq_decide_div_mod_eq, decide_eq_true_eq]
theorem has_eq {a i : Nat} (ha : a < 2 ^ 31) (hi : i < 31) : m_X0_has (nI a) (nI i) = if a.testBit i = true then 1 else 0 := by
  rw [m_X0_has, shr1 ha hi]
  by_cases h : a.testBit i = true
  · rw [if_pos h, (tb_div a i).mp h, if_neg (nI_ne0 (by decide) (by decide))]
  · have h2 : a / 2 ^ i % 2 = 0 := by
      have := mt (tb_div a i).mpr h
      omega
    rw [if_neg h, h2, if_pos nI_0]
theorem isIn_eq {a i : Nat} (ha : a < 2 ^ 31) (hi : i < 31) : m_X1_isIn (nI a) (nI i) = if a.testBit i = true then 1 else 0 := by
  rw [m_X1_isIn, shr1 ha hi]
  by_cases h : a.testBit i = true
  · rw [if_pos h, (tb_div a i).mp h, if_pos (show nI 1 = 1 from rfl)]
  · have h2 : a / 2 ^ i % 2 = 0 := by
      have := mt (tb_div a i).mpr h
      omega
    rw [if_neg h, h2, if_neg (by decide)]
theorem bit1 {i : Nat} (hi : i < 31) : (1 : Int32) <<< (nI i &&& 31) = nI (2 ^ i) := by
  have h := pk_shlN (n := 1) (nI i &&& 31) i (sl32 i (by omega)) (by have := p2_lt hi; omega)
  rw [Nat.one_mul] at h
  exact h
theorem ifb {c : Prop} [Decidable c] {α : Type} (A B : α) : (if (if c then (1 : Int32) else 0) = 0 then A else B) = if c then B else A := by
  by_cases h : c
  · rw [if_pos h, if_pos h, if_neg (by decide)]
  · rw [if_neg h, if_neg h, if_pos rfl]
theorem an32 (x y : Int32) : x &&& (y ^^^ (-1)) = x ^^^ (x &&& y) := by
  apply Int32.toBitVec_inj.mp
  rw [Int32.toBitVec_and, Int32.toBitVec_xor, Int32.toBitVec_xor, Int32.toBitVec_and, show (-1 : Int32).toBitVec = BitVec.allOnes 32 from rfl]
  apply BitVec.eq_of_getLsbD_eq
  intro i hi
  simp only [BitVec.getLsbD_and, BitVec.getLsbD_xor, BitVec.getLsbD_allOnes, hi, decide_true]
  cases x.toBitVec.getLsbD i <;> cases y.toBitVec.getLsbD i <;> rfl
theorem an64 (x y : Int64) : x &&& (y ^^^ (-1)) = x ^^^ (x &&& y) := by
  apply Int64.toBitVec_inj.mp
  rw [Int64.toBitVec_and, Int64.toBitVec_xor, Int64.toBitVec_xor, Int64.toBitVec_and, show (-1 : Int64).toBitVec = BitVec.allOnes 64 from rfl]
  apply BitVec.eq_of_getLsbD_eq
  intro i hi
  simp only [BitVec.getLsbD_and, BitVec.getLsbD_xor, BitVec.getLsbD_allOnes, hi, decide_true]
  cases x.toBitVec.getLsbD i <;> cases y.toBitVec.getLsbD i <;> rfl
/-- a without b's bits -/
def an (a b : Nat) : Nat := a ^^^ (a &&& b)
theorem an_bit (a b i : Nat) : (an a b).testBit i = (a.testBit i && !b.testBit i) := by
  rw [an, Nat.testBit_xor, Nat.testBit_and]
  cases a.testBit i <;> cases b.testBit i <;> rfl
theorem an_lt {a b k : Nat} (h : a < 2 ^ k) : an a b < 2 ^ k := Nat.xor_lt_two_pow h (Nat.lt_of_le_of_lt Nat.and_le_left h)
theorem anI (a b : Nat) : nI a &&& (nI b ^^^ (-1)) = nI (an a b) := by rw [an32, fa_and, fb_xorI, an]
theorem anL (a b : Nat) : lN a &&& (lN b ^^^ (-1)) = lN (an a b) := by rw [an64, fb_andL, fb_xorL, an]
theorem an_zero {S G : Nat} : an S G = 0 ↔ G &&& S = S := by
  constructor
  · intro h
    apply Nat.eq_of_testBit_eq
    intro i
    have := congrArg (fun x => x.testBit i) h
    simp only [an_bit, Nat.zero_testBit] at this
    rw [Nat.testBit_and]
    cases h1 : S.testBit i <;> cases h2 : G.testBit i <;> simp_all
  · intro h
    apply Nat.eq_of_testBit_eq
    intro i
    have := congrArg (fun x => x.testBit i) h
    simp only [Nat.testBit_and] at this
    rw [an_bit, Nat.zero_testBit]
    cases h1 : S.testBit i <;> cases h2 : G.testBit i <;> simp_all
theorem nI_z {n : Nat} (h : n < 2 ^ 31) : nI n = 0 ↔ n = 0 := nI_eq h (b := 0) (by decide)
-- rows of small numbers
def nv (f : Nat → Int32) (k : Nat) : Nat := (f k).toNatClampNeg
def VA (f : Nat → Int32) (N B : Nat) : Prop := ∀ k, k < N → nv f k < B ∧ f k = nI (nv f k)
theorem ixI {α : Type} {k N : Nat} {A : Option α} (h : k < N) (hN : N < 2 ^ 31) : ix (nI k) N A = A := ix_in (vp_in_nI h hN)
theorem clI {k : Nat} (h : k < 2 ^ 31) : Int32.toNatClampNeg (nI k) = k := nI_clamp h
abbrev hold (g : Nat → Int32) (u S : Nat) : Prop := nv g u &&& S = S
theorem hold_iff {g : Nat → Int32} {u S : Nat} : hold g u S ↔ ∀ i, S.testBit i = true → (nv g u).testBit i = true := by
  constructor
  · intro h i hi
    have := congrArg (fun x => x.testBit i) h
    simp only [Nat.testBit_and] at this
    rw [hi] at this
    simpa using this
  · intro h
    apply Nat.eq_of_testBit_eq
    intro i
    rw [Nat.testBit_and]
    cases hi : S.testBit i
    · simp
    · simp [h i hi]
theorem holds_eq {g : Nat → Int32} (hg : VA g 8 4096) {u S : Nat} (hu : u < 8) (hS : S < 4096) : m_X0_holds g (nI u) (nI S) = some (if hold g u S then 1 else 0) := by
  obtain ⟨h1, h2⟩ := hg u hu
  have hb : nv g u &&& S < 2 ^ 31 := Nat.lt_of_le_of_lt Nat.and_le_left (by omega)
  rw [m_X0_holds, ixI hu (by decide), clI (by omega), h2, fa_and]
  by_cases h : hold g u S
  · rw [if_pos h, if_pos ((nI_eq hb (by omega)).mpr h)]
  · rw [if_neg h, if_neg (fun q => h ((nI_eq hb (by omega)).mp q))]
theorem isWithin_eq {g : Nat → Int32} (hg : VA g 8 4096) {u S : Nat} (hu : u < 8) (hS : S < 4096) : m_X1_isWithin g (nI S) (nI u) = some (if hold g u S then 1 else 0) := by
  obtain ⟨h1, h2⟩ := hg u hu
  have hb : an S (nv g u) < 2 ^ 31 := an_lt (by omega)
  rw [m_X1_isWithin, ixI hu (by decide), clI (by omega), h2, anI]
  by_cases h : hold g u S
  · rw [if_pos h, if_pos ((nI_z hb).mpr (an_zero.mpr h))]
  · rw [if_neg h, if_neg (fun q => h (an_zero.mp ((nI_z hb).mp q)))]
theorem c8 {k : Nat} (hk : k < 2 ^ 31) : (8 : Int32) ≤ nI k ↔ 8 ≤ k := nI_leI (a := 8) (by decide) hk
theorem c12 {k : Nat} (hk : k < 2 ^ 31) : (12 : Int32) ≤ nI k ↔ 12 ≤ k := nI_leI (a := 12) (by decide) hk
/-- the holders of a set -/
def HOn (g : Nat → Int32) (S : Nat) : Nat → Nat
  | 0 => 0
  | k + 1 => if hold g k S then HOn g S k ||| 2 ^ k else HOn g S k
def HO (g : Nat → Int32) (S : Nat) : Nat := HOn g S 8
theorem HOn_bit (g : Nat → Int32) (S : Nat) : ∀ k i : Nat, (HOn g S k).testBit i = decide (i < k ∧ hold g i S)
  | 0, i => by simp [HOn]
  | k + 1, i => by
    rw [HOn]
    by_cases h : hold g k S
    · rw [if_pos h, Nat.testBit_or, HOn_bit g S k i, Nat.testBit_two_pow]
      by_cases hi : k = i
      · subst hi
        rw [decide_eq_true (show k < k + 1 ∧ hold g k S from ⟨Nat.lt_succ_self k, h⟩), decide_eq_true (show k = k from rfl), Bool.or_true]
      · have : i < k + 1 ↔ i < k := by omega
        simp [hi, this]
    · rw [if_neg h, HOn_bit g S k i]
      by_cases hi : i = k
      · subst hi; simp [h]
      · have : i < k + 1 ↔ i < k := by omega
        simp [this]
theorem HO_bit (g : Nat → Int32) (S i : Nat) : (HO g S).testBit i = decide (i < 8 ∧ hold g i S) := HOn_bit g S 8 i
theorem bits_lt {x n : Nat} (h : ∀ i, x.testBit i = true → i < n) : x < 2 ^ n := by
  refine Nat.lt_pow_two_of_testBit x (fun i hi => ?_)
  cases hx : x.testBit i
  · rfl
  · have := h i hx
    omega
theorem HO_lt (g : Nat → Int32) (S : Nat) : HO g S < 256 := bits_lt (n := 8) (fun i h => by rw [HO_bit] at h; exact (of_decide_eq_true h).1)
theorem holdersOf_loop {g : Nat → Int32} (hg : VA g 8 4096) {S : Nat} (hS : S < 4096) (fu : Nat) : ∀ m k : Nat, k ≤ 8 → 8 < k + m → m_X0_holdersOf_4 fu g (nI S) m (nI (HOn g S k)) (nI k) = some (nI (HOn g S 8)) := by
  intro m
  induction m with
  | zero => intro k h1 h2; omega
  | succ m ih =>
    intro k h1 h2
    rw [m_X0_holdersOf_4]
    by_cases hk : k = 8
    · subst hk
      rw [if_pos ((c8 (by decide)).mpr (Nat.le_refl 8))]
    · rw [if_neg (fun q => hk (by have := (c8 (k := k) (by omega)).mp q; omega)), holds_eq hg (by omega) hS, bnd1, ifb, nI_1, bit1 (by omega), fa_or]
      have := ih (k + 1) (by omega) (by omega)
      rw [HOn] at this
      by_cases h : hold g k S
      · rw [if_pos h] at this ⊢
        exact this
      · rw [if_neg h] at this ⊢
        exact this
theorem holdersOf_eq {g : Nat → Int32} (hg : VA g 8 4096) {S : Nat} (hS : S < 4096) {fu : Nat} (hf : 9 ≤ fu) : m_X0_holdersOf fu g (nI S) = some (nI (HO g S)) := holdersOf_loop hg hS fu fu 0 (by decide) (by omega)
def WHn (g : Nat → Int32) (S : Nat) : Nat → Nat
  | 0 => 0
  | j + 1 => 2 * WHn g S j + if hold g (7 - j) S then 1 else 0
theorem WHn_bit (g : Nat → Int32) (S : Nat) : ∀ j i : Nat, j ≤ 8 → (WHn g S j).testBit i = decide (i < j ∧ hold g (8 - j + i) S)
  | 0, i, _ => by simp [WHn]
  | j + 1, i, h => by
    rw [WHn]
    have hd : (2 * WHn g S j + if hold g (7 - j) S then 1 else 0) / 2 = WHn g S j := by split <;> omega
    cases i with
    | zero =>
      rw [Nat.testBit_zero]
      have e : 8 - (j + 1) + 0 = 7 - j := by omega
      rw [e]
      by_cases hh : hold g (7 - j) S
      · rw [if_pos hh]
        have : (2 * WHn g S j + 1) % 2 = 1 := by omega
        rw [decide_eq_true this, decide_eq_true (show 0 < j + 1 ∧ hold g (7 - j) S from ⟨Nat.succ_pos j, hh⟩)]
      · rw [if_neg hh]
        have : ¬ (2 * WHn g S j + 0) % 2 = 1 := by omega
        simp [hh]
    | succ i =>
      rw [Nat.testBit_add_one, hd, WHn_bit g S j i (by omega)]
      have e : 8 - (j + 1) + (i + 1) = 8 - j + i := by omega
      have e2 : i + 1 < j + 1 ↔ i < j := by omega
      rw [e]
      simp [e2]
theorem WHn_HO (g : Nat → Int32) (S : Nat) : WHn g S 8 = HO g S := by
  apply Nat.eq_of_testBit_eq
  intro i
  rw [WHn_bit g S 8 i (by decide), HO_bit]
  simp
theorem whoHas_loop {g : Nat → Int32} (hg : VA g 8 4096) {S : Nat} (hS : S < 4096) (fu : Nat) : ∀ m j : Nat, j ≤ 8 → 8 < j + m → m_X1_whoHas_5 fu g (nI S) m (nI (WHn g S j)) (nI (8 - j) + (-1)) = some (nI (WHn g S 8)) := by
  intro m
  induction m with
  | zero => intro j h1 h2; omega
  | succ m ih =>
    intro j h1 h2
    rw [m_X1_whoHas_5]
    by_cases hj : j = 8
    · subst hj
      rw [if_pos (by decide)]
    · obtain ⟨k, hk⟩ : ∃ k, 8 - j = k + 1 := ⟨7 - j, by omega⟩
      rw [hk, pk_m1, if_neg (nI_pos (by omega)), isWithin_eq hg (by omega) hS, bnd1, ifb, show (2 : Int32) = nI 2 from rfl, pk_mul, show (0 : Int32) = nI 0 from rfl, show (1 : Int32) = nI 1 from rfl, nI_add, nI_add]
      have := ih (j + 1) (by omega) (by omega)
      rw [WHn, show 7 - j = k by omega, show 8 - (j + 1) = k by omega] at this
      by_cases h : hold g k S
      · rw [if_pos h] at this ⊢
        exact this
      · rw [if_neg h] at this ⊢
        exact this
theorem whoHas_eq {g : Nat → Int32} (hg : VA g 8 4096) {S : Nat} (hS : S < 4096) {fu : Nat} (hf : 9 ≤ fu) : m_X1_whoHas fu g (nI S) = some (nI (HO g S)) := by
  have h := whoHas_loop hg hS fu fu 0 (by decide) (by omega)
  rw [WHn_HO] at h
  exact h
/-- what all of some users have -/
def SHn (g : Nat → Int32) (U : Nat) : Nat → Nat
  | 0 => 4095
  | k + 1 => if U.testBit k = true then SHn g U k &&& nv g k else SHn g U k
def SH (g : Nat → Int32) (U : Nat) : Nat := SHn g U 8
theorem SHn_lt (g : Nat → Int32) (U : Nat) : ∀ k : Nat, SHn g U k < 4096
  | 0 => show 4095 < 4096 by decide
  | k + 1 => by
    have := SHn_lt g U k
    rw [SHn]
    split
    · exact Nat.lt_of_le_of_lt Nat.and_le_left this
    · exact this
theorem SHn_bit (g : Nat → Int32) (U : Nat) : ∀ k i : Nat, (SHn g U k).testBit i = true ↔ i < 12 ∧ ∀ u, u < k → U.testBit u = true → (nv g u).testBit i = true
  | 0, i => by
    rw [SHn, show (4095 : Nat) = 2 ^ 12 - 1 from rfl, Nat.testBit_two_pow_sub_one, decide_eq_true_eq]
    exact ⟨fun h => ⟨h, fun u hu => by omega⟩, fun h => h.1⟩
  | k + 1, i => by
    have ih := SHn_bit g U k i
    rw [SHn]
    by_cases hk : U.testBit k = true
    · rw [if_pos hk, Nat.testBit_and, Bool.and_eq_true, ih]
      constructor
      · rintro ⟨⟨a, b⟩, c⟩
        refine ⟨a, fun u hu hU => ?_⟩
        by_cases e : u = k
        · subst e; exact c
        · exact b u (by omega) hU
      · rintro ⟨a, b⟩
        exact ⟨⟨a, fun u hu hU => b u (by omega) hU⟩, b k (by omega) hk⟩
    · rw [if_neg hk, ih]
      constructor
      · rintro ⟨a, b⟩
        refine ⟨a, fun u hu hU => ?_⟩
        by_cases e : u = k
        · subst e; exact absurd hU hk
        · exact b u (by omega) hU
      · rintro ⟨a, b⟩
        exact ⟨a, fun u hu hU => b u (by omega) hU⟩
theorem SH_bit (g : Nat → Int32) (U i : Nat) : (SH g U).testBit i = true ↔ i < 12 ∧ ∀ u, u < 8 → U.testBit u = true → (nv g u).testBit i = true := SHn_bit g U 8 i
theorem SH_lt (g : Nat → Int32) (U : Nat) : SH g U < 4096 := SHn_lt g U 8
theorem sharedBy_loop {g : Nat → Int32} (hg : VA g 8 4096) {U : Nat} (hU : U < 256) (fu : Nat) : ∀ m k : Nat, k ≤ 8 → 8 < k + m → m_X0_sharedBy_6 fu g (nI U) m (nI (SHn g U k)) (nI k) = some (nI (SHn g U 8)) := by
  intro m
  induction m with
  | zero => intro k h1 h2; omega
  | succ m ih =>
    intro k h1 h2
    rw [m_X0_sharedBy_6]
    by_cases hk : k = 8
    · subst hk
      rw [if_pos ((c8 (by decide)).mpr (Nat.le_refl 8))]
    · have hk8 : k < 8 := by omega
      rw [if_neg (fun q => hk (by have := (c8 (k := k) (by omega)).mp q; omega)), has_eq (by omega) (by omega), ifb, ixI hk8 (by decide), clI (by omega), (hg k hk8).2, nI_1, fa_and]
      have := ih (k + 1) (by omega) (by omega)
      rw [SHn] at this
      by_cases h : U.testBit k = true
      · rw [if_pos h] at this ⊢
        exact this
      · rw [if_neg h] at this ⊢
        exact this
theorem sharedBy_eq {g : Nat → Int32} (hg : VA g 8 4096) {U : Nat} (hU : U < 256) {fu : Nat} (hf : 9 ≤ fu) : m_X0_sharedBy fu g (nI U) = some (nI (SH g U)) := sharedBy_loop hg hU fu fu 0 (by decide) (by omega)
-- proper sets
def propN (o : Nat → Int32) (S k : Nat) : Prop := ∀ p, p < 12 → k ≤ p → S.testBit p = true → nv o p &&& S = 0
def prop (o : Nat → Int32) (S : Nat) : Prop := ∀ p, p < 12 → S.testBit p = true → nv o p &&& S = 0
theorem isProper_loop {o : Nat → Int32} (ho : VA o 12 4096) {S : Nat} (hS : S < 4096) (fu : Nat) : ∀ m k : Nat, k ≤ 12 → 12 < k + m → (propN o S k → m_X0_isProper_2 fu o (nI S) m (nI k) = some 1 ∧ m_X1_isProper_2 fu o (nI S) m (nI k) = some 1) ∧ (¬ propN o S k → m_X0_isProper_2 fu o (nI S) m (nI k) = some 0 ∧ m_X1_isProper_2 fu o (nI S) m (nI k) = some 0) := by
  intro m
  induction m with
  | zero => intro k h1 h2; omega
  | succ m ih =>
    intro k h1 h2
    rw [m_X0_isProper_2, m_X1_isProper_2]
    by_cases hk : k = 12
    · subst hk
      rw [if_pos ((c12 (by decide)).mpr (Nat.le_refl 12)), if_pos ((c12 (by decide)).mpr (Nat.le_refl 12))]
      exact ⟨fun _ => ⟨rfl, rfl⟩, fun h => absurd (fun p h1 h2 => by omega) h⟩
    · have hk8 : k < 12 := by omega
      have hn : ¬ (12 : Int32) ≤ nI k := fun q => hk (by have := (c12 (k := k) (by omega)).mp q; omega)
      have hb : nv o k &&& S < 2 ^ 31 := Nat.lt_of_le_of_lt Nat.and_le_right (by omega)
      rw [if_neg hn, if_neg hn, has_eq (by omega) (by omega), isIn_eq (by omega) (by omega), ifb, ifb, ixI hk8 (by decide), ixI hk8 (by decide), clI (by omega), (ho k hk8).2, nI_1, fa_and]
      obtain ⟨i1, i2⟩ := ih (k + 1) (by omega) (by omega)
      by_cases h : S.testBit k = true
      · rw [if_pos h, if_pos h]
        by_cases hz : nv o k &&& S = 0
        · have hz2 : nI (nv o k &&& S) = 0 := by rw [hz]; rfl
          rw [if_pos hz2, if_pos hz2]
          have e : propN o S k ↔ propN o S (k + 1) := ⟨fun q p h1 h2 h3 => q p h1 (by omega) h3, fun q p h1 h2 h3 => by
            by_cases e : p = k
            · subst e; exact hz
            · exact q p h1 (by omega) h3⟩
          exact ⟨fun q => i1 (e.mp q), fun q => i2 (fun z => q (e.mpr z))⟩
        · have hz2 : ¬ nI (nv o k &&& S) = 0 := fun q => hz ((nI_z hb).mp q)
          rw [if_neg hz2, if_neg hz2]
          exact ⟨fun q => absurd (q k hk8 (Nat.le_refl k) h) hz, fun _ => ⟨rfl, rfl⟩⟩
      · rw [if_neg h, if_neg h]
        have e : propN o S k ↔ propN o S (k + 1) := ⟨fun q p h1 h2 h3 => q p h1 (by omega) h3, fun q p h1 h2 h3 => by
          by_cases e : p = k
          · subst e; exact absurd h3 h
          · exact q p h1 (by omega) h3⟩
        exact ⟨fun q => i1 (e.mp q), fun q => i2 (fun z => q (e.mpr z))⟩
theorem prop_0 {o : Nat → Int32} {S : Nat} : propN o S 0 ↔ prop o S := ⟨fun h p h1 h3 => h p h1 (Nat.zero_le p) h3, fun h p h1 _ h3 => h p h1 h3⟩
noncomputable def prB (o : Nat → Int32) (S : Nat) : Int32 := @ite _ (prop o S) (Classical.propDecidable _) 1 0
theorem isProper_eq {o : Nat → Int32} (ho : VA o 12 4096) {S : Nat} (hS : S < 4096) {fu : Nat} (hf : 13 ≤ fu) : m_X0_isProper fu o (nI S) = some (prB o S) ∧ m_X1_isProper fu o (nI S) = some (prB o S) := by
  obtain ⟨h1, h2⟩ := isProper_loop ho hS fu fu 0 (by decide) (by omega)
  rw [prop_0] at h1 h2
  by_cases h : prop o S
  · rw [prB, if_pos h]
    exact h1 h
  · rw [prB, if_neg h]
    exact h2 h
