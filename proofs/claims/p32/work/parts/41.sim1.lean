-- one call on both sides: the simple ones
abbrev IOE : String := "java/lang/IndexOutOfBoundsException"
abbrev IAE : String := "java/lang/IllegalArgumentException"
abbrev ISE : String := "java/lang/IllegalStateException"
def OC (r0 : String ⊕ Int32) (rb t : Int32) (E1 E2 : String) : Prop := (r0 = .inr rb ∧ t = 0) ∨ (r0 = .inl E1 ∧ t = 1) ∨ (E2 ≠ E1 ∧ r0 = .inl E2 ∧ t = 2)
theorem OC_0 {rb : Int32} {E1 E2 : String} : OC (.inr rb) rb 0 E1 E2 := Or.inl ⟨rfl, rfl⟩
theorem OC_1 {rb : Int32} {E1 E2 : String} : OC (.inl E1) rb 1 E1 E2 := Or.inr (Or.inl ⟨rfl, rfl⟩)
theorem OC_2 {rb : Int32} {E1 E2 : String} (h : E2 ≠ E1 := by decide +kernel) : OC (.inl E2) rb 2 E1 E2 := Or.inr (Or.inr ⟨h, rfl, rfl⟩)
theorem hd0 (th : Int32) : m_X1_holds th 0 = some (0, 0) := by rw [m_X1_holds, if_pos (by decide)]
theorem hd1 (th : Int32) : m_X1_holds th 1 = some (1, 1) := by rw [m_X1_holds, if_neg (by decide)]
theorem hd2 (th : Int32) : m_X1_holds th 2 = some (1, 2) := by rw [m_X1_holds, if_neg (by decide)]
theorem n10 : ¬ (1 : Int32) = 0 := by decide
theorem p00 : (0 : Int32) = 0 := rfl
theorem rng_le {N k : Nat} (hN : N < 2 ^ 31) (hk : k < 2 ^ 31) {L : Int32} (hL : L = nI N) : L ≤ nI k ↔ N ≤ k := by rw [hL]; exact nI_leI hN hk
theorem rng_lt {N k : Nat} (hN : N < 2 ^ 31) (hk : k < 2 ^ 31) {L : Int32} (hL : L = nI N) : L < nI k ↔ N < k := by rw [hL]; exact nI_ltI hN hk
theorem btw_is (M : Nat) (hM : M < 2 ^ 31) {L : Int32} (hL : L = nI M) (a : Int32) : (m_X1_between a 0 L = 0 ∧ (a < 0 ∨ ∃ u, u < 2 ^ 31 ∧ M < u ∧ a = nI u)) ∨ ∃ u, u ≤ M ∧ a = nI u ∧ ¬ m_X1_between a 0 L = 0 := by
  by_cases h : a < 0
  · exact Or.inl ⟨by rw [m_X1_between, if_pos h], Or.inl h⟩
  · obtain ⟨u, hu, rfl⟩ := nI_of h
    by_cases h8 : M < u
    · exact Or.inl ⟨by rw [m_X1_between, if_neg h, if_pos ((rng_lt hM hu hL).mpr h8)], Or.inr ⟨u, hu, h8, rfl⟩⟩
    · refine Or.inr ⟨u, by omega, rfl, ?_⟩
      rw [m_X1_between, if_neg h, if_neg (fun q => h8 ((rng_lt hM hu hL).mp q))]
      exact n10
theorem isUser_is (a : Int32) : (m_X0_isUser a = 0 ∧ m_X1_isUser a = 0) ∨ ∃ u, u < 8 ∧ a = nI u ∧ ¬ m_X0_isUser a = 0 ∧ ¬ m_X1_isUser a = 0 := by
  rw [m_X1_isUser]
  rcases btw_is 7 (by decide) (L := 7) rfl a with ⟨h, h2⟩ | ⟨u, hu, rfl, h⟩
  · refine Or.inl ⟨?_, h⟩
    rcases h2 with h2 | ⟨u, hu, h3, rfl⟩
    · rw [m_X0_isUser, if_pos h2]
    · rw [m_X0_isUser, if_neg (nI_pos hu), if_pos ((c8 hu).mpr (by omega))]
  · refine Or.inr ⟨u, by omega, rfl, ?_, h⟩
    rw [m_X0_isUser, if_neg (nI_pos (by omega)), if_neg (fun q => by have := (c8 (k := u) (by omega)).mp q; omega)]
    exact n10
theorem isPerm_is (a : Int32) : (m_X0_isPermission a = 0 ∧ m_X1_isPermission a = 0) ∨ ∃ u, u < 12 ∧ a = nI u ∧ ¬ m_X0_isPermission a = 0 ∧ ¬ m_X1_isPermission a = 0 := by
  rw [m_X1_isPermission]
  rcases btw_is 11 (by decide) (L := 11) rfl a with ⟨h, h2⟩ | ⟨u, hu, rfl, h⟩
  · refine Or.inl ⟨?_, h⟩
    rcases h2 with h2 | ⟨u, hu, h3, rfl⟩
    · rw [m_X0_isPermission, if_pos h2]
    · rw [m_X0_isPermission, if_neg (nI_pos hu), if_pos ((c12 hu).mpr (by omega))]
  · refine Or.inr ⟨u, by omega, rfl, ?_, h⟩
    rw [m_X0_isPermission, if_neg (nI_pos (by omega)), if_neg (fun q => by have := (c12 (k := u) (by omega)).mp q; omega)]
    exact n10
theorem isSet_is (a : Int32) : (m_X0_isPermissionSet a = 0 ∧ m_X1_between a 0 4095 = 0) ∨ ∃ u, u < 4096 ∧ a = nI u ∧ ¬ m_X0_isPermissionSet a = 0 ∧ ¬ m_X1_between a 0 4095 = 0 := by
  rcases btw_is 4095 (by decide) (L := 4095) rfl a with ⟨h, h2⟩ | ⟨u, hu, rfl, h⟩
  · refine Or.inl ⟨?_, h⟩
    rcases h2 with h2 | ⟨u, hu, h3, rfl⟩
    · rw [m_X0_isPermissionSet, if_pos h2]
    · rw [m_X0_isPermissionSet, if_neg (nI_pos hu), if_pos (show (4095 : Int32) < nI u from (rng_lt (N := 4095) (by decide) hu rfl).mpr h3)]
  · refine Or.inr ⟨u, by omega, rfl, ?_, h⟩
    rw [m_X0_isPermissionSet, if_neg (nI_pos (by omega)), if_neg (fun q => by have := (rng_lt (N := 4095) (k := u) (by decide) (by omega) rfl).mp q; omega)]
    exact n10
theorem isCost_is (a : Int32) : (m_X0_isCost a = 0 ∧ m_X1_between a 0 100 = 0) ∨ ∃ u, u ≤ 100 ∧ a = nI u ∧ ¬ m_X0_isCost a = 0 ∧ ¬ m_X1_between a 0 100 = 0 := by
  rcases btw_is 100 (by decide) (L := 100) rfl a with ⟨h, h2⟩ | ⟨u, hu, rfl, h⟩
  · refine Or.inl ⟨?_, h⟩
    rcases h2 with h2 | ⟨u, hu, h3, rfl⟩
    · rw [m_X0_isCost, if_pos h2]
    · rw [m_X0_isCost, if_neg (nI_pos hu), if_pos (show (100 : Int32) < nI u from (rng_lt (N := 100) (by decide) hu rfl).mpr h3)]
  · refine Or.inr ⟨u, by omega, rfl, ?_, h⟩
    rw [m_X0_isCost, if_neg (nI_pos (by omega)), if_neg (fun q => by have := (rng_lt (N := 100) (k := u) (by decide) (by omega) rfl).mp q; omega)]
    exact n10
theorem VA_upd {f : Nat → Int32} {N B k v : Nat} (h : VA f N B) (hv : v < B) (hB : B ≤ 2 ^ 31) : VA (upd f k (nI v)) N B := fun j hj => by
  by_cases e : j = k
  · have e1 : upd f k (nI v) j = nI v := if_pos e
    rw [nv, e1, clI (by omega)]
    exact ⟨hv, rfl⟩
  · have e1 : upd f k (nI v) j = f j := if_neg e
    rw [nv, e1]
    exact h j hj
theorem nI_mulI (a b : Nat) : nI a * nI b = nI (a * b) := (Int32.ofNat_mul a b).symm
theorem gi_eq (u p : Nat) : m_X0_grantIndex (nI u) (nI p) = nI (12 * u + p) := by
  rw [m_X0_grantIndex, fa_lit 12, nI_mulI, nI_add, Nat.mul_comm]
theorem gi1_eq (u p : Nat) : (12 : Int32) * nI u + nI p = nI (12 * u + p) := by
  rw [fa_lit 12, nI_mulI, nI_add]
theorem set_bit_lt {x p : Nat} (hx : x < 4096) (hp : p < 12) : x ||| 2 ^ p < 4096 := Nat.or_lt_two_pow (n := 12) hx (Nat.pow_lt_pow_right (by decide) hp)
theorem s_grant {g : Nat → Int32} (hg : VA g 8 4096) (rm : Nat → Int32) (qt th a b : Int32) : ∃ r0 g' rm' rb th', m_X0_grant g rm qt a b = some (r0, g', rm') ∧ m_X1_grant g rm qt th a b = some (rb, g', rm', th') ∧ VA g' 8 4096 ∧ OC r0 rb th' IOE IOE := by
  rcases isUser_is a with ⟨h0, h1⟩ | ⟨u, hu, rfl, h0, h1⟩
  · refine ⟨.inl IOE, g, rm, 0, 1, ?_, ?_, hg, OC_1⟩
    · rw [m_X0_grant, if_pos h0]
    · rw [m_X1_grant, if_pos h1, hd1, bnd2, if_neg n10]
  · rcases isPerm_is b with ⟨k0, k1⟩ | ⟨p, hp, rfl, k0, k1⟩
    · refine ⟨.inl IOE, g, rm, 0, 1, ?_, ?_, hg, OC_1⟩
      · rw [m_X0_grant, if_neg h0, if_pos k0]
      · rw [m_X1_grant, if_neg h1, if_pos k1, hd1, bnd2, if_neg n10]
    · obtain ⟨ha, hb⟩ := hg u hu
      have e0 : m_X0_grant g rm qt (nI u) (nI p) = if (nv g u).testBit p = true then some (.inr 0, g, rm) else some (.inr 1, upd g u (nI (nv g u ||| 2 ^ p)), upd rm (12 * u + p) qt) := by
        rw [m_X0_grant, if_neg h0, if_neg k0, ixI hu (by decide), clI (by omega), hb, has_eq (by omega) (by omega), ifb, gi_eq, ixI (by omega) (by decide), clI (by omega), bit1 (by omega), fa_or]
      have e1 : m_X1_grant g rm qt th (nI u) (nI p) = if (nv g u).testBit p = true then some (0, g, rm, 0) else some (1, upd g u (nI (nv g u ||| 2 ^ p)), upd rm (12 * u + p) qt, 0) := by
        rw [m_X1_grant, if_neg h1, if_neg k1, hd0, bnd2, if_pos p00, ixI hu (by decide), clI (by omega), m_X1_give, ixI hu (by decide), gi1_eq, ixI (by omega) (by decide), bnd2, clI (by omega), clI (by omega), hb, isIn_eq (by omega) (by omega), ifb, bit1 (by omega), fa_or]
      by_cases t : (nv g u).testBit p = true
      · exact ⟨_, _, _, _, _, e0.trans (if_pos t), e1.trans (if_pos t), hg, OC_0⟩
      · exact ⟨_, _, _, _, _, e0.trans (if_neg t), e1.trans (if_neg t), VA_upd hg (set_bit_lt ha hp) (by decide), OC_0⟩
theorem s_revoke {g : Nat → Int32} (hg : VA g 8 4096) (th a b : Int32) : ∃ r0 g' rb th', m_X0_revoke g a b = some (r0, g') ∧ m_X1_revoke g th a b = some (rb, g', th') ∧ VA g' 8 4096 ∧ OC r0 rb th' IOE IOE := by
  rcases isUser_is a with ⟨h0, h1⟩ | ⟨u, hu, rfl, h0, h1⟩
  · refine ⟨.inl IOE, g, 0, 1, ?_, ?_, hg, OC_1⟩
    · rw [m_X0_revoke, if_pos h0]
    · rw [m_X1_revoke, if_pos h1, hd1, bnd2, if_neg n10]
  · rcases isPerm_is b with ⟨k0, k1⟩ | ⟨p, hp, rfl, k0, k1⟩
    · refine ⟨.inl IOE, g, 0, 1, ?_, ?_, hg, OC_1⟩
      · rw [m_X0_revoke, if_neg h0, if_pos k0]
      · rw [m_X1_revoke, if_neg h1, if_pos k1, hd1, bnd2, if_neg n10]
    · obtain ⟨ha, hb⟩ := hg u hu
      have e0 : m_X0_revoke g (nI u) (nI p) = some (.inr (if (nv g u).testBit p = true then 1 else 0), upd g u (nI (an (nv g u) (2 ^ p)))) := by
        rw [m_X0_revoke, if_neg h0, if_neg k0, ixI hu (by decide), clI (by omega), hb, has_eq (by omega) (by omega), bit1 (by omega), anI]
      have e1 : m_X1_revoke g th (nI u) (nI p) = some ((if (nv g u).testBit p = true then 1 else 0), upd g u (nI (an (nv g u) (2 ^ p))), 0) := by
        rw [m_X1_revoke, if_neg h1, if_neg k1, hd0, bnd2, if_pos p00, ixI hu (by decide), clI (by omega), hb, isIn_eq (by omega) (by omega), bit1 (by omega), anI]
      exact ⟨_, _, _, _, e0, e1, VA_upd hg (an_lt (k := 12) ha) (by decide), OC_0⟩
theorem s_permissions {g : Nat → Int32} (th a : Int32) : ∃ r0 rb th', m_X0_permissions g a = some r0 ∧ m_X1_permissions g th a = some (rb, th') ∧ OC r0 rb th' IOE IOE := by
  rcases isUser_is a with ⟨h0, h1⟩ | ⟨u, hu, rfl, h0, h1⟩
  · refine ⟨.inl IOE, -1, 1, ?_, ?_, OC_1⟩
    · rw [m_X0_permissions, if_pos h0]
    · rw [m_X1_permissions, if_pos h1, hd1, bnd2, if_neg n10]
  · refine ⟨.inr (g u), g u, 0, ?_, ?_, OC_0⟩
    · rw [m_X0_permissions, if_neg h0, ixI hu (by decide), clI (by omega)]
    · rw [m_X1_permissions, if_neg h1, hd0, bnd2, if_pos p00, ixI hu (by decide), clI (by omega)]
theorem s_setCosts (rc ec th a b : Int32) (hrc : ∃ r, r ≤ 100 ∧ rc = nI r) : ∃ r0 rc' ec' th', m_X0_setCosts rc ec a b = some (r0, rc', ec') ∧ m_X1_setCosts rc ec th a b = some (rc', ec', th') ∧ (∃ r, r ≤ 100 ∧ rc' = nI r) ∧ OC r0 0 th' IAE IAE := by
  rcases isCost_is a with ⟨h0, h1⟩ | ⟨u, hu, rfl, h0, h1⟩
  · refine ⟨.inl IAE, rc, ec, 1, ?_, ?_, hrc, OC_1⟩
    · rw [m_X0_setCosts, if_pos h0]
    · rw [m_X1_setCosts, if_pos h1, hd1, bnd2, if_neg n10]
  · rcases isCost_is b with ⟨k0, k1⟩ | ⟨p, hp, rfl, k0, k1⟩
    · refine ⟨.inl IAE, rc, ec, 1, ?_, ?_, hrc, OC_1⟩
      · rw [m_X0_setCosts, if_neg h0, if_pos k0]
      · rw [m_X1_setCosts, if_neg h1, if_pos k1, hd1, bnd2, if_neg n10]
    · refine ⟨.inr 0, nI u, nI p, 0, ?_, ?_, ⟨u, hu, rfl⟩, OC_0⟩
      · rw [m_X0_setCosts, if_neg h0, if_neg k0]
      · rw [m_X1_setCosts, if_neg h1, if_neg k1, hd0, bnd2, if_pos p00]
theorem btw1_is (a : Int32) : (m_X1_between a 1 8 = 0 ∧ (a < 1 ∨ ¬ a < 1 ∧ ¬ a ≤ 8)) ∨ ∃ s, 1 ≤ s ∧ s ≤ 8 ∧ a = nI s ∧ ¬ m_X1_between a 1 8 = 0 ∧ ¬ a < 1 ∧ a ≤ 8 := by
  by_cases h : a < 1
  · exact Or.inl ⟨by rw [m_X1_between, if_pos h], Or.inl h⟩
  · by_cases h8 : a ≤ 8
    · refine Or.inr ?_
      have h0 : ¬ a < 0 := fun q => h (fa_trans q (by decide))
      obtain ⟨u, hu, rfl⟩ := nI_of h0
      have a1 : 1 ≤ u := by
        rcases Nat.eq_zero_or_pos u with z | z
        · subst z; exact absurd (by decide) h
        · exact z
      have a8 : u ≤ 8 := (nI_leI (b := 8) hu (by decide)).mp h8
      refine ⟨u, a1, a8, rfl, ?_, h, h8⟩
      rw [m_X1_between, if_neg h, if_neg (fun q => (fa_of_lt q).2.1 h8)]
      exact n10
    · exact Or.inl ⟨by rw [m_X1_between, if_neg h, if_pos (fa_of_nle h8)], Or.inr ⟨h, h8⟩⟩
theorem s_setSupport (su th a : Int32) (hsu : ∃ s, 1 ≤ s ∧ s ≤ 8 ∧ su = nI s) : ∃ r0 su' rb th', m_X0_setSupport su a = some (r0, su') ∧ m_X1_setSupport su th a = some (rb, su', th') ∧ (∃ s, 1 ≤ s ∧ s ≤ 8 ∧ su' = nI s) ∧ OC r0 rb th' IAE IAE := by
  rcases btw1_is a with ⟨h1, h0⟩ | ⟨s, s1, s8, e, h1, h0, h00⟩
  · refine ⟨.inl IAE, su, -1, 1, ?_, ?_, hsu, OC_1⟩
    · rcases h0 with h0 | ⟨h0, h00⟩
      · rw [m_X0_setSupport, if_pos h0]
      · rw [m_X0_setSupport, if_neg h0, if_neg h00]
    · rw [m_X1_setSupport, if_pos h1, hd1, bnd2, if_neg n10]
  · refine ⟨.inr su, a, su, 0, ?_, ?_, ⟨s, s1, s8, e⟩, OC_0⟩
    · rw [m_X0_setSupport, if_neg h0, if_pos h00]
    · rw [m_X1_setSupport, if_neg h1, hd0, bnd2, if_pos p00]
theorem s_setPeriod (pe th a : Int32) : ∃ r0 pe' rb th', m_X0_setPeriod pe a = some (r0, pe') ∧ m_X1_setPeriod pe th a = some (rb, pe', th') ∧ OC r0 rb th' IAE IAE := by
  rcases btw1_is a with ⟨h1, h0⟩ | ⟨s, s1, s8, e, h1, h0, h00⟩
  · refine ⟨.inl IAE, pe, -1, 1, ?_, ?_, OC_1⟩
    · rcases h0 with h0 | ⟨h0, h00⟩
      · rw [m_X0_setPeriod, if_pos h0]
      · rw [m_X0_setPeriod, if_neg h0, if_neg h00]
    · rw [m_X1_setPeriod, if_pos h1, hd1, bnd2, if_neg n10]
  · refine ⟨.inr pe, a, pe, 0, ?_, ?_, OC_0⟩
    · rw [m_X0_setPeriod, if_neg h0, if_pos h00]
    · rw [m_X1_setPeriod, if_neg h1, hd0, bnd2, if_pos p00]
theorem s_review {g : Nat → Int32} (hg : VA g 8 4096) (rm : Nat → Int32) (qt th a b : Int32) : ∃ r0 rm' rb th', m_X0_review g rm qt a b = some (r0, rm') ∧ m_X1_review g rm qt th a b = some (rb, rm', th') ∧ OC r0 rb th' IOE ISE := by
  rcases isUser_is a with ⟨h0, h1⟩ | ⟨u, hu, rfl, h0, h1⟩
  · refine ⟨.inl IOE, rm, -1, 1, ?_, ?_, OC_1⟩
    · rw [m_X0_review, if_pos h0]
    · rw [m_X1_review, if_pos h1, hd1, bnd2, if_neg n10]
  · rcases isPerm_is b with ⟨k0, k1⟩ | ⟨p, hp, rfl, k0, k1⟩
    · refine ⟨.inl IOE, rm, -1, 1, ?_, ?_, OC_1⟩
      · rw [m_X0_review, if_neg h0, if_pos k0]
      · rw [m_X1_review, if_neg h1, if_pos k1, hd1, bnd2, if_neg n10]
    · obtain ⟨ha, hb⟩ := hg u hu
      have e0 : m_X0_review g rm qt (nI u) (nI p) = if (nv g u).testBit p = true then some (.inr (qt - rm (12 * u + p)), upd rm (12 * u + p) qt) else some (.inl ISE, rm) := by
        rw [m_X0_review, if_neg h0, if_neg k0, ixI hu (by decide), clI (by omega), hb, has_eq (by omega) (by omega), ifb, gi_eq, ixI (by omega) (by decide), clI (by omega)]
      have e1 : m_X1_review g rm qt th (nI u) (nI p) = if (nv g u).testBit p = true then some (qt - rm (12 * u + p), upd rm (12 * u + p) qt, 0) else some (-1, rm, 2) := by
        rw [m_X1_review, if_neg h1, if_neg k1, hd0, hd2, bnd2, bnd2, if_pos p00, if_neg n10, ixI hu (by decide), gi1_eq, ixI (by omega) (by decide), clI (by omega), clI (by omega), hb, isIn_eq (by omega) (by omega), ifb]
      by_cases t : (nv g u).testBit p = true
      · exact ⟨_, _, _, _, e0.trans (if_pos t), e1.trans (if_pos t), OC_0⟩
      · exact ⟨_, _, _, _, e0.trans (if_neg t), e1.trans (if_neg t), OC_2⟩
theorem s_holders {g : Nat → Int32} (hg : VA g 8 4096) {fu : Nat} (hf : 9 ≤ fu) (th a : Int32) : ∃ r0 rb th', m_X0_holders fu g a = some r0 ∧ m_X1_holders fu g th a = some (rb, th') ∧ OC r0 rb th' IAE IAE := by
  rcases isSet_is a with ⟨h0, h1⟩ | ⟨S, hS, rfl, h0, h1⟩
  · refine ⟨.inl IAE, -1, 1, ?_, ?_, OC_1⟩
    · rw [m_X0_holders, if_pos h0]
    · rw [m_X1_holders, if_pos h1, hd1, bnd2, if_neg n10]
  · refine ⟨.inr (nI (HO g S)), nI (HO g S), 0, ?_, ?_, OC_0⟩
    · rw [m_X0_holders, if_neg h0, holdersOf_eq hg hS hf, bnd1]
    · rw [m_X1_holders, if_neg h1, hd0, bnd2, if_pos p00, whoHas_eq hg hS hf, bnd1]
