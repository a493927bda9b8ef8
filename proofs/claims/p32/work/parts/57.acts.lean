-- what the acts answer and change
theorem low_is {n : Nat} (h0 : 0 < n) (hn : n < 2 ^ 31) {b : Int32} (hb : b = nI n) (a : Int32) : ∃ j, j < n ∧ m_L_low a b = nI j := by
  obtain ⟨N, hN, rfl⟩ := wb_of32 a
  refine ⟨N % 2 ^ 31 % n, Nat.mod_lt _ h0, ?_⟩
  have e : nI N &&& 2147483647 = nI (N % 2 ^ 31) := fa_mask N 31
  rw [m_L_low, e, hb]
  exact pk_rem (Nat.mod_lt _ (Nat.two_pow_pos 31)) h0 hn
theorem usr_no {u : Nat} (h : 8 ≤ u) (hu : u < 2 ^ 31) : m_X0_isUser (nI u) = 0 := by
  rw [m_X0_isUser, if_neg (nI_pos hu), if_pos ((c8 hu).mpr h)]
theorem RMu {rm : Nat → Int32} {qt : Int32} {i : Nat} : ∀ j, upd rm i qt j = rm j ∨ upd rm i qt j = qt := fun j => by
  by_cases e : j = i
  · exact Or.inr (if_pos e)
  · exact Or.inl (if_neg e)
theorem x_setg_loop {g : Nat → Int32} (qt : Int32) {u S x : Nat} (hu : u < 8) (hS : S < 4096) (hx : x < 4096) (fu : Nat) : ∀ (m k : Nat) (rm : Nat → Int32), k ≤ 12 → 12 < k + m → ∃ rm', m_X0_setGrants_44 fu qt (nI u) (nI S) m (nI x) (nI k) g rm = some (.inr (nI (pc (x ^^^ S))), upd g u (nI S), rm') ∧ ∀ i, rm' i = rm i ∨ rm' i = qt := by
  intro m
  induction m with
  | zero => intro k rm h1 h2; omega
  | succ m ih =>
    intro k rm h1 h2
    rw [m_X0_setGrants_44]
    by_cases hk : k = 12
    · subst hk
      have hxs : x ^^^ S < 2 ^ 12 := Nat.xor_lt_two_pow hx hS
      rw [if_pos ((c12 (by decide)).mpr (Nat.le_refl 12)), ixI hu (by decide), clI (by omega), fb_xorI, bc32 (by omega)]
      exact ⟨rm, rfl, fun i => Or.inl rfl⟩
    · have hn : ¬ (12 : Int32) ≤ nI k := fun q => hk (by have := (c12 (k := k) (by omega)).mp q; omega)
      have l1 : an S x < 2 ^ 12 := an_lt hS
      rw [if_neg hn, anI, has_eq (by omega) (by omega), ifb, nI_1]
      by_cases t : (an S x).testBit k = true
      · rw [if_pos t, gi_eq, ixI (k := 12 * u + k) (by omega) (by decide), clI (k := 12 * u + k) (by omega)]
        obtain ⟨rm', e, h⟩ := ih (k + 1) (upd rm (12 * u + k) qt) (by omega) (by omega)
        refine ⟨rm', e, fun i => ?_⟩
        rcases h i with h | h
        · rcases RMu (rm := rm) (qt := qt) (i := 12 * u + k) i with q | q
          · exact Or.inl (h.trans q)
          · exact Or.inr (h.trans q)
        · exact Or.inr h
      · rw [if_neg t]
        exact ih (k + 1) rm (by omega) (by omega)
theorem x_setGrants {g : Nat → Int32} (hg : VA g 8 4096) (rm : Nat → Int32) (qt a b : Int32) {fu : Nat} (hf : 20000 ≤ fu) :
    (∃ E, (E = IOE ∨ E = IAE) ∧ m_X0_setGrants fu g rm qt a b = some (.inl E, g, rm)) ∨ ∃ v g' rm', v ≤ 12 ∧ m_X0_setGrants fu g rm qt a b = some (.inr (nI v), g', rm') ∧ VA g' 8 4096 ∧ ∀ i, rm' i = rm i ∨ rm' i = qt := by
  rcases isUser_is a with ⟨h0, -⟩ | ⟨u, hu, rfl, h0, -⟩
  · exact Or.inl ⟨IOE, Or.inl rfl, by rw [m_X0_setGrants, if_pos h0]⟩
  · rcases isSet_is b with ⟨k0, -⟩ | ⟨S, hS, rfl, k0, -⟩
    · exact Or.inl ⟨IAE, Or.inr rfl, by rw [m_X0_setGrants, if_neg h0, if_pos k0]⟩
    · obtain ⟨ha, hb⟩ := hg u hu
      have hxs : nv g u ^^^ S < 2 ^ 12 := Nat.xor_lt_two_pow ha hS
      obtain ⟨rm', e, h⟩ := x_setg_loop (g := g) qt hu hS ha fu fu 0 rm (by decide) (by omega)
      refine Or.inr ⟨pc (nv g u ^^^ S), upd g u (nI S), rm', pc_lt 12 (by decide) hxs, ?_, VA_upd hg hS (by decide), h⟩
      rw [m_X0_setGrants, if_neg h0, if_neg k0, ixI hu (by decide), clI (by omega), hb]
      exact e
theorem x_grant {g : Nat → Int32} (hg : VA g 8 4096) (rm : Nat → Int32) (qt a b : Int32) :
    m_X0_grant g rm qt a b = some (.inl IOE, g, rm) ∨ ∃ v g' rm', (v = 0 ∨ v = 1) ∧ m_X0_grant g rm qt a b = some (.inr v, g', rm') ∧ VA g' 8 4096 ∧ ∀ i, rm' i = rm i ∨ rm' i = qt := by
  rcases isUser_is a with ⟨h0, -⟩ | ⟨u, hu, rfl, h0, -⟩
  · exact Or.inl (by rw [m_X0_grant, if_pos h0])
  · rcases isPerm_is b with ⟨k0, -⟩ | ⟨p, hp, rfl, k0, -⟩
    · exact Or.inl (by rw [m_X0_grant, if_neg h0, if_pos k0])
    · obtain ⟨ha, hb⟩ := hg u hu
      have e0 : m_X0_grant g rm qt (nI u) (nI p) = if (nv g u).testBit p = true then some (.inr 0, g, rm) else some (.inr 1, upd g u (nI (nv g u ||| 2 ^ p)), upd rm (12 * u + p) qt) := by
        rw [m_X0_grant, if_neg h0, if_neg k0, ixI hu (by decide), clI (by omega), hb, has_eq (by omega) (by omega), ifb, gi_eq, ixI (by omega) (by decide), clI (by omega), bit1 (by omega), fa_or]
      by_cases t : (nv g u).testBit p = true
      · exact Or.inr ⟨0, g, rm, Or.inl rfl, e0.trans (if_pos t), hg, fun i => Or.inl rfl⟩
      · exact Or.inr ⟨1, _, _, Or.inr rfl, e0.trans (if_neg t), VA_upd hg (set_bit_lt ha hp) (by decide), RMu⟩
theorem x_revoke {g : Nat → Int32} (hg : VA g 8 4096) (a b : Int32) :
    m_X0_revoke g a b = some (.inl IOE, g) ∨ ∃ v g', (v = 0 ∨ v = 1) ∧ m_X0_revoke g a b = some (.inr v, g') ∧ VA g' 8 4096 := by
  rcases isUser_is a with ⟨h0, -⟩ | ⟨u, hu, rfl, h0, -⟩
  · exact Or.inl (by rw [m_X0_revoke, if_pos h0])
  · rcases isPerm_is b with ⟨k0, -⟩ | ⟨p, hp, rfl, k0, -⟩
    · exact Or.inl (by rw [m_X0_revoke, if_neg h0, if_pos k0])
    · obtain ⟨ha, hb⟩ := hg u hu
      have e0 : m_X0_revoke g (nI u) (nI p) = some (.inr (if (nv g u).testBit p = true then 1 else 0), upd g u (nI (an (nv g u) (2 ^ p)))) := by
        rw [m_X0_revoke, if_neg h0, if_neg k0, ixI hu (by decide), clI (by omega), hb, has_eq (by omega) (by omega), bit1 (by omega), anI]
      refine Or.inr ⟨_, _, ?_, e0, VA_upd hg (an_lt (k := 12) ha) (by decide)⟩
      split
      · exact Or.inr rfl
      · exact Or.inl rfl
theorem IRR_XF {o : Nat → Int32} (ho : VO o) (h : IRR o) {p q : Nat} (hp : p < 12) (hq : q < 12) (hpq : p ≠ q) : IRR (XF o p q) := by
  have lx : nv o p ^^^ 2 ^ q < 4096 := Nat.xor_lt_two_pow (n := 12) (ho.1 p hp).1 (Nat.pow_lt_pow_right (by decide) hq)
  have ly : nv o q ^^^ 2 ^ p < 4096 := Nat.xor_lt_two_pow (n := 12) (ho.1 q hq).1 (Nat.pow_lt_pow_right (by decide) hp)
  intro i hi
  by_cases e1 : i = q
  · subst e1
    rw [nv, XF, show upd (upd o p (nI (nv o p ^^^ 2 ^ i))) i (nI (nv o i ^^^ 2 ^ p)) i = nI (nv o i ^^^ 2 ^ p) from if_pos rfl, clI (by omega), fb_bit_flip, h i hi, decide_eq_false (Ne.symm hpq)]
    rfl
  · by_cases e2 : i = p
    · subst e2
      rw [nv, XF, show upd (upd o i (nI (nv o i ^^^ 2 ^ q))) q (nI (nv o q ^^^ 2 ^ i)) i = nI (nv o i ^^^ 2 ^ q) from (if_neg e1).trans (if_pos rfl), clI (by omega), fb_bit_flip, h i hi, decide_eq_false hpq]
      rfl
    · rw [nv, XF, show upd (upd o p (nI (nv o p ^^^ 2 ^ q))) q (nI (nv o q ^^^ 2 ^ p)) i = o i from (if_neg e1).trans (if_neg e2)]
      exact h i hi
theorem x_setConflict {o : Nat → Int32} (h : VO o) (a b c : Int32) (hc : c = 0 ∨ c = 1) :
    (∃ E, (E = IOE ∨ E = IAE) ∧ m_X0_setConflict o a b c = some (.inl E, o)) ∨ ∃ p q v, p < 12 ∧ q < 12 ∧ p ≠ q ∧ a = nI p ∧ b = nI q ∧ (v = 0 ∨ v = 1) ∧ m_X0_setConflict o a b c = some (.inr v, if v = c then o else XF o p q) := by
  rcases isPerm_is a with ⟨h0, -⟩ | ⟨p, hp, rfl, h0, -⟩
  · exact Or.inl ⟨IOE, Or.inl rfl, by rw [m_X0_setConflict, if_pos h0]⟩
  · rcases isPerm_is b with ⟨k0, -⟩ | ⟨q, hq, rfl, k0, -⟩
    · exact Or.inl ⟨IOE, Or.inl rfl, by rw [m_X0_setConflict, if_neg h0, if_pos k0]⟩
    · by_cases e : p = q
      · subst e
        exact Or.inl ⟨IAE, Or.inr rfl, by rw [m_X0_setConflict, if_neg h0, if_neg k0, if_pos rfl]⟩
      · have hne : ¬ nI p = nI q := fun z => e ((nI_eq (by omega) (by omega)).mp z)
        obtain ⟨ha, hb⟩ := h.1 p hp
        obtain ⟨ha2, hb2⟩ := h.1 q hq
        have hu : ∀ w, upd o p w q = o q := fun w => if_neg (Ne.symm e)
        have e0 : m_X0_setConflict o (nI p) (nI q) c = if c = 0 then some (.inr (if (nv o p).testBit q = true then 1 else 0), upd (upd o p (nI (an (nv o p) (2 ^ q)))) q (nI (an (nv o q) (2 ^ p)))) else some (.inr (if (nv o p).testBit q = true then 1 else 0), upd (upd o p (nI (nv o p ||| 2 ^ q))) q (nI (nv o q ||| 2 ^ p))) := by
          rw [m_X0_setConflict, if_neg h0, if_neg k0, if_neg hne, ixI hp (by decide), ixI hq (by decide), ixI hq (by decide), clI (k := p) (by omega), clI (k := q) (by omega), hu, hu, hb, hb2, has_eq (by omega) (by omega), bit1 (by omega), bit1 (by omega), anI, anI, fa_or, fa_or]
        have hsame : upd (upd o p (nI (nv o p))) q (nI (nv o q)) = o := by
          rw [fa_upd_same (i := p) hb, fa_upd_same (i := q) hb2]
        by_cases t : (nv o p).testBit q = true
        · have t2 : (nv o q).testBit p = true := (h.2 q p hq hp).trans t
          rw [if_pos t] at e0
          refine Or.inr ⟨p, q, 1, hp, hq, e, rfl, rfl, Or.inr rfl, ?_⟩
          rcases hc with rfl | rfl
          · rw [e0, if_pos rfl, (cf_yes t).1, (cf_yes t2).1, if_neg n10, XF]
          · rw [e0, if_neg n10, (cf_yes t).2, (cf_yes t2).2, hsame, if_pos rfl]
        · have t1 : (nv o p).testBit q = false := by simpa using t
          have t2 : (nv o q).testBit p = false := (h.2 q p hq hp).trans t1
          rw [if_neg t] at e0
          refine Or.inr ⟨p, q, 0, hp, hq, e, rfl, rfl, Or.inl rfl, ?_⟩
          rcases hc with rfl | rfl
          · rw [e0, if_pos rfl, (cf_no t1).1, (cf_no t2).1, hsame, if_pos rfl]
          · rw [e0, if_neg n10, (cf_no t1).2, (cf_no t2).2, if_neg (by decide), XF]
theorem x_setCosts (rc ec a b : Int32) :
    m_X0_setCosts rc ec a b = some (.inl IAE, rc, ec) ∨ ∃ r e, r ≤ 100 ∧ e ≤ 100 ∧ a = nI r ∧ b = nI e ∧ m_X0_setCosts rc ec a b = some (.inr 0, nI r, nI e) := by
  rcases isCost_is a with ⟨h0, -⟩ | ⟨u, hu, rfl, h0, -⟩
  · exact Or.inl (by rw [m_X0_setCosts, if_pos h0])
  · rcases isCost_is b with ⟨k0, -⟩ | ⟨p, hp, rfl, k0, -⟩
    · exact Or.inl (by rw [m_X0_setCosts, if_neg h0, if_pos k0])
    · exact Or.inr ⟨u, p, hu, hp, rfl, rfl, by rw [m_X0_setCosts, if_neg h0, if_neg k0]⟩
theorem x_setSupport (su a : Int32) : m_X0_setSupport su a = some (.inl IAE, su) ∨ ∃ s, 1 ≤ s ∧ s ≤ 8 ∧ a = nI s ∧ m_X0_setSupport su a = some (.inr su, nI s) := by
  rcases btw1_is a with ⟨-, h0⟩ | ⟨s, s1, s8, rfl, -, h0, h00⟩
  · refine Or.inl ?_
    rcases h0 with h0 | ⟨h0, h00⟩
    · rw [m_X0_setSupport, if_pos h0]
    · rw [m_X0_setSupport, if_neg h0, if_neg h00]
  · exact Or.inr ⟨s, s1, s8, rfl, by rw [m_X0_setSupport, if_neg h0, if_pos h00]⟩
theorem x_setPeriod (pe a : Int32) : m_X0_setPeriod pe a = some (.inl IAE, pe) ∨ ∃ s, 1 ≤ s ∧ s ≤ 8 ∧ a = nI s ∧ m_X0_setPeriod pe a = some (.inr pe, nI s) := by
  rcases btw1_is a with ⟨-, h0⟩ | ⟨s, s1, s8, rfl, -, h0, h00⟩
  · refine Or.inl ?_
    rcases h0 with h0 | ⟨h0, h00⟩
    · rw [m_X0_setPeriod, if_pos h0]
    · rw [m_X0_setPeriod, if_neg h0, if_neg h00]
  · exact Or.inr ⟨s, s1, s8, rfl, by rw [m_X0_setPeriod, if_neg h0, if_pos h00]⟩
theorem x_review {g : Nat → Int32} (hg : VA g 8 4096) (rm : Nat → Int32) (qt a b : Int32) :
    (∃ E, (E = IOE ∨ E = ISE) ∧ m_X0_review g rm qt a b = some (.inl E, rm)) ∨ ∃ i, i < 96 ∧ m_X0_review g rm qt a b = some (.inr (qt - rm i), upd rm i qt) := by
  rcases isUser_is a with ⟨h0, -⟩ | ⟨u, hu, rfl, h0, -⟩
  · exact Or.inl ⟨IOE, Or.inl rfl, by rw [m_X0_review, if_pos h0]⟩
  · rcases isPerm_is b with ⟨k0, -⟩ | ⟨p, hp, rfl, k0, -⟩
    · exact Or.inl ⟨IOE, Or.inl rfl, by rw [m_X0_review, if_neg h0, if_pos k0]⟩
    · obtain ⟨ha, hb⟩ := hg u hu
      have e0 : m_X0_review g rm qt (nI u) (nI p) = if (nv g u).testBit p = true then some (.inr (qt - rm (12 * u + p)), upd rm (12 * u + p) qt) else some (.inl ISE, rm) := by
        rw [m_X0_review, if_neg h0, if_neg k0, ixI hu (by decide), clI (by omega), hb, has_eq (by omega) (by omega), ifb, gi_eq, ixI (by omega) (by decide), clI (by omega)]
      by_cases t : (nv g u).testBit p = true
      · exact Or.inr ⟨12 * u + p, by omega, e0.trans (if_pos t)⟩
      · exact Or.inl ⟨ISE, Or.inr rfl, e0.trans (if_neg t)⟩
theorem LPn_cong {g g' : Nat → Int32} (rm : Nat → Int32) (pe qt : Int32) {u : Nat} (h : nv g u = nv g' u) : ∀ k, LPn g rm pe qt u k = LPn g' rm pe qt u k
  | 0 => rfl
  | k + 1 => by rw [LPn, LPn, h, LPn_cong rm pe qt h k]
theorem x_quarter_loop {g0 rm : Nat → Int32} (pe qt : Int32) {fu : Nat} (hf : 20000 ≤ fu) : ∀ (m k : Nat) (g : Nat → Int32), VA g 8 4096 → (∀ u, u < 8 → nv g u = if u < k then an (nv g0 u) (LSP g0 rm pe qt u) else nv g0 u) → k ≤ 8 → 8 < k + m →
    ∃ g', m_X0_nextQuarter_33 fu rm pe m (nI (fb_sm (fun u => pc (LSP g0 rm pe qt u)) k)) (nI k) g qt = some (.inr (nI (fb_sm (fun u => pc (LSP g0 rm pe qt u)) 8)), g', qt) ∧ VA g' 8 4096 ∧ ∀ u, u < 8 → nv g' u = an (nv g0 u) (LSP g0 rm pe qt u) := by
  intro m
  induction m with
  | zero => intro k g hg hk h1 h2; omega
  | succ m ih =>
    intro k g hg hk h1 h2
    rw [m_X0_nextQuarter_33]
    by_cases e : k = 8
    · subst e
      rw [if_pos ((c8 (by decide)).mpr (Nat.le_refl 8))]
      exact ⟨g, rfl, hg, fun u hu => (hk u hu).trans (if_pos hu)⟩
    · have hk8 : k < 8 := by omega
      obtain ⟨ha, hb⟩ := hg k hk8
      have e1 : nv g k = nv g0 k := (hk k hk8).trans (if_neg (Nat.lt_irrefl k))
      have e2 : LSP g rm pe qt k = LSP g0 rm pe qt k := LPn_cong rm pe qt e1 12
      have hl := LSP_lt g0 rm pe qt k
      have hN : an (nv g0 k) (LSP g0 rm pe qt k) < 4096 := an_lt (k := 12) (e1 ▸ ha)
      obtain ⟨g', i1, i2, i3⟩ := ih (k + 1) (upd g k (nI (an (nv g0 k) (LSP g0 rm pe qt k)))) (VA_upd hg hN (by decide)) (fun u hu => by
        by_cases q : u = k
        · subst q
          rw [nv, show upd g u (nI (an (nv g0 u) (LSP g0 rm pe qt u))) u = nI (an (nv g0 u) (LSP g0 rm pe qt u)) from if_pos rfl, clI (by omega), if_pos (Nat.lt_succ_self u)]
        · rw [nv, show upd g k (nI (an (nv g0 k) (LSP g0 rm pe qt k))) u = g u from if_neg q]
          refine (hk u hu).trans ?_
          by_cases w : u < k
          · rw [if_pos w, if_pos (Nat.lt_succ_of_lt w)]
          · rw [if_neg w, if_neg (show ¬ u < k + 1 by omega)]) (by omega) (by omega)
      refine ⟨g', ?_, i2, i3⟩
      rw [fb_sm_succ] at i1
      rw [if_neg (fun q => e (by have := (c8 (k := k) (by omega)).mp q; omega)), (lapse_eq hg rm pe qt hk8 (fu := fu) (by omega)).1, bnd1, ixI hk8 (by decide), clI (by omega), e2, bc32 (by omega), hb, anI, e1, nI_add, nI_1]
      exact i1
theorem x_nextQuarter {g : Nat → Int32} (hg : VA g 8 4096) (rm : Nat → Int32) (pe : Int32) {t : Nat} (ht : t ≤ 100) {fu : Nat} (hf : 20000 ≤ fu) :
    m_X0_nextQuarter fu g rm pe (nI t) = some (.inl ISE, g, nI t) ∨ (t < 100 ∧ ∃ g', m_X0_nextQuarter fu g rm pe (nI t) = some (.inr (nI (fb_sm (fun u => pc (LSP g rm pe (nI t + 1) u)) 8)), g', nI t + 1) ∧ VA g' 8 4096 ∧ ∀ u, u < 8 → nv g' u = an (nv g u) (LSP g rm pe (nI t + 1) u)) := by
  by_cases h : t < 100
  · obtain ⟨g', e, h1, h2⟩ := x_quarter_loop (g0 := g) (rm := rm) pe (nI t + 1) hf fu 0 g hg (fun u _ => (if_neg (Nat.not_lt_zero u)).symm) (by decide) (by omega)
    refine Or.inr ⟨h, g', ?_, h1, h2⟩
    rw [m_X0_nextQuarter, if_pos (show nI t < (100 : Int32) from (nI_ltI (b := 100) (by omega) (by decide)).mpr h)]
    exact e
  · have e : t = 100 := by omega
    subst e
    exact Or.inl (by rw [m_X0_nextQuarter, if_neg (show ¬ nI 100 < (100 : Int32) from by decide)])
