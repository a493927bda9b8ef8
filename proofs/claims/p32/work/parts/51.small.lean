-- the law's small methods
theorem l_size_loop (fu : Nat) {a : Nat} (ha : a < 4096) : ∀ m k c : Nat, k ≤ 12 → 12 < k + m → c + pcb (12 - k) (a / 2 ^ k) = pc a → m_L_size_4 fu (nI a) m (nI c) (nI k) = some (nI (pc a)) := by
  intro m
  induction m with
  | zero => intro k c h1 h2; omega
  | succ m ih =>
    intro k c h1 h2 h3
    rw [m_L_size_4]
    by_cases hk : k = 12
    · subst hk
      rw [if_pos ((c12 (by decide)).mpr (Nat.le_refl 12))]
      rw [Nat.sub_self, pcb, Nat.add_zero] at h3
      rw [h3]
    · have hn : ¬ (12 : Int32) ≤ nI k := fun q => hk (by have := (c12 (k := k) (by omega)).mp q; omega)
      obtain ⟨j, hj⟩ : ∃ j, 12 - k = j + 1 := ⟨11 - k, by omega⟩
      have e : a / 2 ^ k / 2 = a / 2 ^ (k + 1) := by rw [Nat.div_div_eq_div_mul, ← Nat.pow_succ]
      rw [hj, pcb, e] at h3
      rw [if_neg hn, shr1 (by omega) (by omega), nI_add, nI_1]
      exact ih (k + 1) (c + a / 2 ^ k % 2) (by omega) (by omega) (by rw [show 12 - (k + 1) = j by omega]; omega)
theorem l_size {fu a : Nat} (hf : 20000 ≤ fu) (ha : a < 4096) : m_L_size fu (nI a) = some (nI (pc a)) := by
  refine l_size_loop fu ha fu 0 0 (by decide) (by omega) ?_
  rw [Nat.zero_add, Nat.pow_zero, Nat.div_one, pc_of 12 (by decide) ha]
theorem l_shared_loop {g : Nat → Int32} (hg : VA g 8 4096) {U : Nat} (hU : U < 256) (fu : Nat) : ∀ m k : Nat, k ≤ 8 → 8 < k + m → m_L_shared_6 fu g (nI U) m (nI (SHn g U k)) (nI k) = some (nI (SH g U)) := by
  intro m
  induction m with
  | zero => intro k h1 h2; omega
  | succ m ih =>
    intro k h1 h2
    rw [m_L_shared_6]
    by_cases hk : k = 8
    · subst hk
      rw [if_pos ((c8 (by decide)).mpr (Nat.le_refl 8))]
      rfl
    · have hk8 : k < 8 := by omega
      have := ih (k + 1) (by omega) (by omega)
      rw [SHn] at this
      rw [if_neg (fun q => hk (by have := (c8 (k := k) (by omega)).mp q; omega)), shr1 (by omega) (by omega), v_permissions hg hk8, br0, nI_1, fa_and]
      by_cases h : U.testBit k = true
      · rw [(tb_div U k).mp h, if_pos (show nI 1 = 1 from rfl)]
        rw [if_pos h] at this
        exact this
      · have h2 : U / 2 ^ k % 2 = 0 := by
          have := mt (tb_div U k).mpr h
          omega
        have h3 := SHn_lt g U k
        have e : nI (SHn g U k) &&& 4095 = nI (SHn g U k) := by
          rw [fa_lit 4095, fa_and, show (4095 : Nat) = 2 ^ 12 - 1 from rfl, Nat.and_two_pow_sub_one_eq_mod, Nat.mod_eq_of_lt h3]
        rw [h2, if_neg (by decide), e]
        rw [if_neg h] at this
        exact this
theorem l_shared {g : Nat → Int32} (hg : VA g 8 4096) {U fu : Nat} (hU : U < 256) (hf : 20000 ≤ fu) : m_L_shared fu g (nI U) = some (nI (SH g U)) := l_shared_loop hg hU fu fu 0 (by decide) (by omega)
theorem c40 {k : Nat} (hk : k < 2 ^ 31) : (40 : Int32) ≤ nI k ↔ 40 ≤ k := nI_leI (a := 40) (by decide) hk
theorem l_same_loop {b0 b1 : Nat → Int32} (h : ∀ i, i < 40 → b0 i = b1 i) (fu : Nat) : ∀ m k : Nat, k ≤ 40 → 40 < k + m → m_L_same_2 fu b0 b1 m (nI k) = some 1 := by
  intro m
  induction m with
  | zero => intro k h1 h2; omega
  | succ m ih =>
    intro k h1 h2
    rw [m_L_same_2]
    by_cases hk : k = 40
    · subst hk
      rw [if_pos ((c40 (by decide)).mpr (Nat.le_refl 40))]
    · rw [if_neg (fun q => hk (by have := (c40 (k := k) (by omega)).mp q; omega)), ixI (k := k) (by omega) (by decide), clI (by omega), if_pos (h k (by omega)), nI_1]
      exact ih (k + 1) (by omega) (by omega)
theorem l_same {b0 b1 : Nat → Int32} {fu : Nat} (h : ∀ i, i < 40 → b0 i = b1 i) (hf : 20000 ≤ fu) : m_L_same fu b0 b1 = some 1 := l_same_loop h fu fu 0 (by decide) (by omega)
-- what tell tells
def TL (g rm op : Nat → Int32) (pe qt : Int32) (R : Nat → Nat) (q k : Nat) (t : Nat → Int32) : Prop := ∀ u, u < k → t u = nI (nv g u) ∧ t (8 + u) = nI (LSP g rm pe (qt + 1) u)
theorem tell_roles {g rm op rs : Nat → Int32} (rc ec pe qt : Int32) {q : Nat} {R : Nat → Nat} (hR : RO rs q R) (fu : Nat) : ∀ (m k : Nat) (t : Nat → Int32), k ≤ q → q < k + m → t 33 = nI q → ∃ t', m_L_tell_94 fu g rm op rc ec pe qt rs (nI q) m (nI k) t = some t' ∧ ∀ i, i < 36 → t' i = t i := by
  have hq := hR.1
  intro m
  induction m with
  | zero => intro k t h1 h2; omega
  | succ m ih =>
    intro k t h1 h2 h3
    rw [m_L_tell_94, show Int32.toNatClampNeg 33 = 33 from by decide +kernel, show Int32.toNatClampNeg 36 = 36 from by decide +kernel, h3]
    by_cases hk : k = q
    · subst hk
      rw [if_pos (nI_le (Nat.le_refl k) (by omega))]
      exact ⟨t, rfl, fun _ _ => rfl⟩
    · rw [if_neg (nI_ge (by omega) (by omega)), v_role hR (show k < q by omega), br0, nI_1]
      obtain ⟨t', e, h⟩ := ih (k + 1) _ (by omega) (by omega) (show upd t 36 (31 * t 36 + nI (R k)) 33 = nI q from (if_neg (by decide)).trans h3)
      exact ⟨t', e, fun i hi => (h i hi).trans (if_neg (by omega))⟩
theorem tell_users {g rm op rs : Nat → Int32} (hg : VA g 8 4096) (ho : VA op 12 4096) (rc ec pe qt : Int32) {q : Nat} {R : Nat → Nat} (hR : RO rs q R) {fu : Nat} (hf : 20000 ≤ fu) : ∀ (m k : Nat) (t : Nat → Int32), k ≤ 8 → 8 < k + m → TL g rm op pe qt R q k t → ∃ t', m_L_tell_7 fu g rm op rc ec pe qt rs (nI q) m (nI k) t = some t' ∧ TL g rm op pe qt R q 8 t' ∧ t' 32 = qt ∧ t' 33 = nI q ∧ t' 35 = nI (fb_sm (GRt g) 8) := by
  intro m
  induction m with
  | zero => intro k t h1 h2; omega
  | succ m ih =>
    intro k t h1 h2 h3
    rw [m_L_tell_7]
    by_cases hk : k = 8
    · subst hk
      rw [if_pos ((c8 (by decide)).mpr (Nat.le_refl 8)), v_cost hg hR rc ec hf, bnd1, v_grants hg hf, bnd1, show Int32.toNatClampNeg 33 = 33 from by decide +kernel, show Int32.toNatClampNeg 32 = 32 from by decide +kernel, show Int32.toNatClampNeg 34 = 34 from by decide +kernel, show Int32.toNatClampNeg 35 = 35 from by decide +kernel]
      generalize he : upd (upd (upd (upd t 32 (m_X0_quarter qt)) 33 (m_X0_roles (nI q))) 34 (rc * nI q + ec * nI (fb_sm (EXt g R q) 8))) 35 (nI (fb_sm (GRt g) 8)) = T
      have e33 : T 33 = nI q := by rw [← he]; rfl
      obtain ⟨t', e, h⟩ := tell_roles (g := g) (rm := rm) (op := op) rc ec pe qt hR fu fu 0 T (Nat.zero_le q) (by have := hR.1; omega) e33
      refine ⟨t', e, fun u hu => ?_, ?_, (h 33 (by decide)).trans e33, ?_⟩
      · have lo : ∀ i, i < 32 → T i = t i := fun i hi => by
          rw [← he]
          exact (if_neg (by omega)).trans ((if_neg (by omega)).trans ((if_neg (by omega)).trans (if_neg (by omega))))
        rw [h u (by omega), h (8 + u) (by omega), lo u (by omega), lo (8 + u) (by omega)]
        exact h3 u hu
      · rw [h 32 (by decide), ← he]; rfl
      · rw [h 35 (by decide), ← he]; rfl
    · have hk8 : k < 8 := by omega
      rw [if_neg (fun q => hk (by have := (c8 (k := k) (by omega)).mp q; omega)), v_permissions hg hk8, br0, ixI (k := k) (by omega) (by decide), v_due hg rm pe qt hk8 hf, br0, show (8 : Int32) + nI k = nI (8 + k) from nI_add 8 k, show (16 : Int32) + nI k = nI (16 + k) from nI_add 16 k, show (24 : Int32) + nI k = nI (24 + k) from nI_add 24 k, ixI (k := 8 + k) (by omega) (by decide), v_violations hg ho hk8 hf, br0, ixI (k := 16 + k) (by omega) (by decide), v_byRoles hg hR hk8 hf, br0, ixI (k := 24 + k) (by omega) (by decide), clI (k := k) (by omega), clI (k := 8 + k) (by omega), clI (k := 16 + k) (by omega), clI (k := 24 + k) (by omega), nI_1]
      refine ih (k + 1) _ (by omega) (by omega) (fun u hu => ?_)
      by_cases e : u = k
      · subst e
        exact ⟨(if_neg (by omega)).trans ((if_neg (by omega)).trans ((if_neg (by omega)).trans (if_pos rfl))), (if_neg (by omega)).trans ((if_neg (by omega)).trans (if_pos rfl))⟩
      · obtain ⟨a, b⟩ := h3 u (by omega)
        exact ⟨((if_neg (by omega)).trans ((if_neg (by omega)).trans ((if_neg (by omega)).trans (if_neg (by omega))))).trans a, ((if_neg (by omega)).trans ((if_neg (by omega)).trans ((if_neg (by omega)).trans (if_neg (by omega))))).trans b⟩
theorem l_tell {g rm op rs : Nat → Int32} (hg : VA g 8 4096) (ho : VA op 12 4096) (rc ec pe qt : Int32) {q : Nat} {R : Nat → Nat} (hR : RO rs q R) {fu : Nat} (hf : 20000 ≤ fu) : ∃ t, m_L_tell fu g rm op rc ec pe qt rs (nI q) = some t ∧ (∀ u, u < 8 → t u = nI (nv g u) ∧ t (8 + u) = nI (LSP g rm pe (qt + 1) u)) ∧ t 32 = qt ∧ t 33 = nI q ∧ t 35 = nI (fb_sm (GRt g) 8) :=
  tell_users hg ho rc ec pe qt hR hf fu 0 _ (by decide) (by omega) (fun u hu => by omega)
