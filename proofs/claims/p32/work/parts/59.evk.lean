-- one event, kind by kind
theorem neg2 : ¬ (0 : Int32) ≤ -2 := by decide
theorem neg3 : ¬ (0 : Int32) ≤ -3 := by decide
theorem neg4 : ¬ (0 : Int32) ≤ -4 := by decide
theorem wr2_r {E : String} {c d r : Int32} : wr2 E c d (.inr r) = r := rfl
theorem wb1_r {c v : Int32} (h : v = 0 ∨ v = 1) : wb1 c (.inr v) = v := by
  rcases h with rfl | rfl
  · exact (if_pos rfl : (if (0 : Int32) = 0 then (0 : Int32) else 1) = 0)
  · exact (if_neg (by decide) : (if (1 : Int32) = 0 then (0 : Int32) else 1) = 1)
theorem wb2_r {E : String} {c d v : Int32} (h : v = 0 ∨ v = 1) : wb2 E c d (.inr v) = v := by
  rcases h with rfl | rfl
  · exact (if_pos rfl : (if (0 : Int32) = 0 then (0 : Int32) else 1) = 0)
  · exact (if_neg (by decide) : (if (1 : Int32) = 0 then (0 : Int32) else 1) = 1)
theorem wb1_l {c : Int32} {e : String} : wb1 c (.inl e) = c := rfl
theorem v01_pos {v : Int32} (h : v = 0 ∨ v = 1) : 0 ≤ v ∧ ¬ 12 < v := by rcases h with rfl | rfl <;> decide
theorem RM_ok {rm rm' : Nat → Int32} {t : Nat} (h : ∀ i, i < 96 → ∃ a, a ≤ t ∧ rm i = nI a) (h2 : ∀ i, rm' i = rm i ∨ rm' i = nI t) : ∀ i, i < 96 → ∃ a, a ≤ t ∧ rm' i = nI a := fun i hi => by
  rcases h2 i with q | q
  · rw [q]; exact h i hi
  · exact ⟨t, Nat.le_refl t, q⟩
theorem a_set {g : Nat → Int32} (hg : VA g 8 4096) (rm : Nat → Int32) (qt x : Int32) {fu : Nat} (hf : 20000 ≤ fu) : (∃ told, ¬ 0 ≤ told ∧ m_L_act_k0 fu g rm qt x = some (told, g, rm)) ∨ ∃ v g' rm', v ≤ 12 ∧ m_L_act_k0 fu g rm qt x = some (nI v, g', rm') ∧ VA g' 8 4096 ∧ ∀ i, rm' i = rm i ∨ rm' i = qt := by
  have key : ∀ a b, (∃ told, ¬ 0 ≤ told ∧ (bw2 IOE IAE (m_X0_setGrants fu g rm qt a b) (fun r g rm => some ((wr2 IOE (-2) (-3) r), g, rm))) = some (told, g, rm)) ∨ ∃ v g' rm', v ≤ 12 ∧ (bw2 IOE IAE (m_X0_setGrants fu g rm qt a b) (fun r g rm => some ((wr2 IOE (-2) (-3) r), g, rm))) = some (nI v, g', rm') ∧ VA g' 8 4096 ∧ ∀ i, rm' i = rm i ∨ rm' i = qt := by
    intro a b
    rcases x_setGrants hg rm qt a b hf with ⟨E, hE, e⟩ | ⟨v, g', rm', hv, e, h1, h2⟩
    · rcases hE with rfl | rfl
      · exact Or.inl ⟨-2, neg2, by rw [e, bw2, if_pos (Or.inl rfl), wr2_1]⟩
      · exact Or.inl ⟨-3, neg3, by rw [e, bw2, if_pos (Or.inr rfl), wr2_2 (by decide +kernel)]⟩
    · exact Or.inr ⟨v, g', rm', hv, by rw [e, bw2, wr2_r], h1, h2⟩
  rw [m_L_act_k0]
  split
  · exact key _ _
  · split
    · exact key _ _
    · exact key _ _
theorem k1_k0 (fu : Nat) (g rm : Nat → Int32) (qt x : Int32) : m_L_act_k1 fu g rm qt x = m_L_act_k0 fu g rm qt x := rfl
theorem ev_0 {g : Nat → Int32} {rm : Nat → Int32} {op : Nat → Int32} {rc : Int32} {ec : Int32} {su : Int32} {pe : Int32} {qt : Int32} {rs : Nat → Int32} {rn : Int32} (hST : ST g rm op rc ec su pe qt rs rn) {pr st : Nat → Int32} (hPR : PR pr op) (hSE : SE st rc ec su) {fu : Nat} (hf : 20000 ≤ fu) (xs : Nat → Int32) (L : Nat) (v4 v5 x : Int32) (n : Nat) (cs : Nat → Int32) (cn : Int32) (lc : Nat → Int64) (hc : Nat → Int64) (lg : Nat → Int64) (hh : Nat → Int64) : NX fu xs L v4 v5 (n + 2) (m_L_law_32 fu xs L (n + 2) 1 v4 v5 x (nI 0) 0 g rm op rc ec su pe qt rs rn cs cn lc hc lg hh pr st (fun _ => 0)) := by
  obtain ⟨hg, ho, hi, ⟨r, hr, rfl⟩, ⟨e, he, rfl⟩, ⟨s, hs1, hs8, rfl⟩, ⟨p, hp1, hp8, rfl⟩, ⟨t, ht, rfl, hrm⟩, q, Q, rfl, hQ⟩ := id hST
  rcases a_set hg rm (nI t) x hf with ⟨told, h1, h2⟩ | ⟨v, g', rm', hv, h2, h3, h4⟩
  · exact ev_no hST hPR hSE hf xs L v4 v5 n cs cn lc hc lg hh (by rw [act_0, h2, bnd3]) h1
  · exact ev_yes hST hf xs L v4 v5 n cs cn lc hc lg hh (k := 0) (by decide) (by decide) (by rw [act_0, h2, bnd3]) (nI_pos' (by omega)) (fun t9 hT => ⟨_, _, _, _, _, _, l_left_lo _ _ _ _ _ _ _ (k := 0) (by decide) hT.2.1.symm hT.2.2.1.symm (fun z => by have := (nI_ltI (a := 12) (b := v) (by decide) (by omega)).mp z; omega) _ _ _ _ _ _⟩) ⟨h3, ho, hi, ⟨r, hr, rfl⟩, ⟨e, he, rfl⟩, ⟨s, hs1, hs8, rfl⟩, ⟨p, hp1, hp8, rfl⟩, ⟨t, ht, rfl, RM_ok hrm h4⟩, q, Q, rfl, hQ⟩ hPR hSE
theorem ev_1 {g : Nat → Int32} {rm : Nat → Int32} {op : Nat → Int32} {rc : Int32} {ec : Int32} {su : Int32} {pe : Int32} {qt : Int32} {rs : Nat → Int32} {rn : Int32} (hST : ST g rm op rc ec su pe qt rs rn) {pr st : Nat → Int32} (hPR : PR pr op) (hSE : SE st rc ec su) {fu : Nat} (hf : 20000 ≤ fu) (xs : Nat → Int32) (L : Nat) (v4 v5 x : Int32) (n : Nat) (cs : Nat → Int32) (cn : Int32) (lc : Nat → Int64) (hc : Nat → Int64) (lg : Nat → Int64) (hh : Nat → Int64) : NX fu xs L v4 v5 (n + 2) (m_L_law_32 fu xs L (n + 2) 1 v4 v5 x (nI 1) 0 g rm op rc ec su pe qt rs rn cs cn lc hc lg hh pr st (fun _ => 0)) := by
  obtain ⟨hg, ho, hi, ⟨r, hr, rfl⟩, ⟨e, he, rfl⟩, ⟨s, hs1, hs8, rfl⟩, ⟨p, hp1, hp8, rfl⟩, ⟨t, ht, rfl, hrm⟩, q, Q, rfl, hQ⟩ := id hST
  rcases a_set hg rm (nI t) x hf with ⟨told, h1, h2⟩ | ⟨v, g', rm', hv, h2, h3, h4⟩
  · exact ev_no hST hPR hSE hf xs L v4 v5 n cs cn lc hc lg hh (by rw [act_1, k1_k0, h2, bnd3]) h1
  · exact ev_yes hST hf xs L v4 v5 n cs cn lc hc lg hh (k := 1) (by decide) (by decide) (by rw [act_1, k1_k0, h2, bnd3]) (nI_pos' (by omega)) (fun t9 hT => ⟨_, _, _, _, _, _, l_left_lo _ _ _ _ _ _ _ (k := 1) (by decide) hT.2.1.symm hT.2.2.1.symm (fun z => by have := (nI_ltI (a := 12) (b := v) (by decide) (by omega)).mp z; omega) _ _ _ _ _ _⟩) ⟨h3, ho, hi, ⟨r, hr, rfl⟩, ⟨e, he, rfl⟩, ⟨s, hs1, hs8, rfl⟩, ⟨p, hp1, hp8, rfl⟩, ⟨t, ht, rfl, RM_ok hrm h4⟩, q, Q, rfl, hQ⟩ hPR hSE
theorem ev_2 {g : Nat → Int32} {rm : Nat → Int32} {op : Nat → Int32} {rc : Int32} {ec : Int32} {su : Int32} {pe : Int32} {qt : Int32} {rs : Nat → Int32} {rn : Int32} (hST : ST g rm op rc ec su pe qt rs rn) {pr st : Nat → Int32} (hPR : PR pr op) (hSE : SE st rc ec su) {fu : Nat} (hf : 20000 ≤ fu) (xs : Nat → Int32) (L : Nat) (v4 v5 x : Int32) (n : Nat) (cs : Nat → Int32) (cn : Int32) (lc : Nat → Int64) (hc : Nat → Int64) (lg : Nat → Int64) (hh : Nat → Int64) : NX fu xs L v4 v5 (n + 2) (m_L_law_32 fu xs L (n + 2) 1 v4 v5 x (nI 2) 0 g rm op rc ec su pe qt rs rn cs cn lc hc lg hh pr st (fun _ => 0)) := by
  obtain ⟨hg, ho, hi, ⟨r, hr, rfl⟩, ⟨e, he, rfl⟩, ⟨s, hs1, hs8, rfl⟩, ⟨p, hp1, hp8, rfl⟩, ⟨t, ht, rfl, hrm⟩, q, Q, rfl, hQ⟩ := id hST
  rcases x_grant hg rm (nI t) (m_L_low x 9) (m_L_low (x >>> (4 &&& 31)) 13) with h2 | ⟨v, g', rm', hv, h2, h3, h4⟩
  · exact ev_no hST hPR hSE hf xs L v4 v5 n cs cn lc hc lg hh (by rw [act_2, m_L_act_k2, h2, bw2, if_pos (Or.inl rfl), wb1_l, bnd3]) neg2
  · exact ev_yes hST hf xs L v4 v5 n cs cn lc hc lg hh (k := 2) (by decide) (by decide) (by rw [act_2, m_L_act_k2, h2, bw2, wb1_r hv, bnd3]) (v01_pos hv).1 (fun t9 hT => ⟨_, _, _, _, _, _, l_left_lo _ _ _ _ _ _ _ (k := 2) (by decide) hT.2.1.symm hT.2.2.1.symm (v01_pos hv).2 _ _ _ _ _ _⟩) ⟨h3, ho, hi, ⟨r, hr, rfl⟩, ⟨e, he, rfl⟩, ⟨s, hs1, hs8, rfl⟩, ⟨p, hp1, hp8, rfl⟩, ⟨t, ht, rfl, RM_ok hrm h4⟩, q, Q, rfl, hQ⟩ hPR hSE
theorem ev_3 {g : Nat → Int32} {rm : Nat → Int32} {op : Nat → Int32} {rc : Int32} {ec : Int32} {su : Int32} {pe : Int32} {qt : Int32} {rs : Nat → Int32} {rn : Int32} (hST : ST g rm op rc ec su pe qt rs rn) {pr st : Nat → Int32} (hPR : PR pr op) (hSE : SE st rc ec su) {fu : Nat} (hf : 20000 ≤ fu) (xs : Nat → Int32) (L : Nat) (v4 v5 x : Int32) (n : Nat) (cs : Nat → Int32) (cn : Int32) (lc : Nat → Int64) (hc : Nat → Int64) (lg : Nat → Int64) (hh : Nat → Int64) : NX fu xs L v4 v5 (n + 2) (m_L_law_32 fu xs L (n + 2) 1 v4 v5 x (nI 3) 0 g rm op rc ec su pe qt rs rn cs cn lc hc lg hh pr st (fun _ => 0)) := by
  obtain ⟨hg, ho, hi, ⟨r, hr, rfl⟩, ⟨e, he, rfl⟩, ⟨s, hs1, hs8, rfl⟩, ⟨p, hp1, hp8, rfl⟩, ⟨t, ht, rfl, hrm⟩, q, Q, rfl, hQ⟩ := id hST
  rcases x_revoke hg (m_L_low x 9) (m_L_low (x >>> (4 &&& 31)) 13) with h2 | ⟨v, g', hv, h2, h3⟩
  · exact ev_no hST hPR hSE hf xs L v4 v5 n cs cn lc hc lg hh (by rw [act_3, m_L_act_k3, h2, bw1, if_pos (Or.inl rfl), wb1_l, bnd2]) neg2
  · exact ev_yes hST hf xs L v4 v5 n cs cn lc hc lg hh (k := 3) (by decide) (by decide) (by rw [act_3, m_L_act_k3, h2, bw1, wb1_r hv, bnd2]) (v01_pos hv).1 (fun t9 hT => ⟨_, _, _, _, _, _, l_left_lo _ _ _ _ _ _ _ (k := 3) (by decide) hT.2.1.symm hT.2.2.1.symm (v01_pos hv).2 _ _ _ _ _ _⟩) ⟨h3, ho, hi, ⟨r, hr, rfl⟩, ⟨e, he, rfl⟩, ⟨s, hs1, hs8, rfl⟩, ⟨p, hp1, hp8, rfl⟩, ⟨t, ht, rfl, hrm⟩, q, Q, rfl, hQ⟩ hPR hSE
theorem ev_5 {g : Nat → Int32} {rm : Nat → Int32} {op : Nat → Int32} {rc : Int32} {ec : Int32} {su : Int32} {pe : Int32} {qt : Int32} {rs : Nat → Int32} {rn : Int32} (hST : ST g rm op rc ec su pe qt rs rn) {pr st : Nat → Int32} (hPR : PR pr op) (hSE : SE st rc ec su) {fu : Nat} (hf : 20000 ≤ fu) (xs : Nat → Int32) (L : Nat) (v4 v5 x : Int32) (n : Nat) (cs : Nat → Int32) (cn : Int32) (lc : Nat → Int64) (hc : Nat → Int64) (lg : Nat → Int64) (hh : Nat → Int64) : NX fu xs L v4 v5 (n + 2) (m_L_law_32 fu xs L (n + 2) 1 v4 v5 x (nI 5) 0 g rm op rc ec su pe qt rs rn cs cn lc hc lg hh pr st (fun _ => 0)) := by
  obtain ⟨hg, ho, hi, ⟨r, hr, rfl⟩, ⟨e, he, rfl⟩, ⟨s, hs1, hs8, rfl⟩, ⟨p, hp1, hp8, rfl⟩, ⟨t, ht, rfl, hrm⟩, q, Q, rfl, hQ⟩ := id hST
  have bad : ∀ b, m_X0_setCosts (nI r) (nI e) (m_L_low x 12) b = some (.inl IAE, nI r, nI e) → bw2 IAE IAE (m_X0_setCosts (nI r) (nI e) (m_L_low x 12) b) (fun r rc ec => some ((wr1 (-3) r), rc, ec)) = some (-3, nI r, nI e) := fun b h => by rw [h, bw2, if_pos (Or.inl rfl), wr1_l]
  by_cases z : m_L_low (x >>> (5 &&& 31)) 8 = 0
  · rcases x_setCosts (nI r) (nI e) (m_L_low x 12) 101 with h2 | ⟨r1, e1, a1, a2, a3, a4, a5⟩
    · exact ev_no hST hPR hSE hf xs L v4 v5 n cs cn lc hc lg hh (by rw [act_5, m_L_act_k5, if_pos z, bad _ h2, bnd3]) neg3
    · have := (nI_eq (a := 101) (b := e1) (by decide) (by omega)).mp a4
      omega
  · rcases x_setCosts (nI r) (nI e) (m_L_low x 12) (m_L_low (x >>> (5 &&& 31)) 8) with h2 | ⟨r1, e1, a1, a2, a3, a4, a5⟩
    · exact ev_no hST hPR hSE hf xs L v4 v5 n cs cn lc hc lg hh (by rw [act_5, m_L_act_k5, if_neg z, bad _ h2, bnd3]) neg3
    · exact ev_yes hST hf xs L v4 v5 n cs cn lc hc lg hh (k := 5) (by decide) (by decide) (by rw [act_5, m_L_act_k5, if_neg z, a5, bw2, wr1_r, bnd3]) (show (0 : Int32) ≤ 0 by decide) (fun t9 hT => ⟨_, _, _, _, _, _, l_left_mid hg _ _ _ _ _ _ _ (k := 5) (by decide) (by decide) hT.2.1.symm hT.2.2.1.symm hT.2.2.2 hf _ _ _ _ _ _⟩) ⟨hg, ho, hi, ⟨r1, a1, rfl⟩, ⟨e1, a2, rfl⟩, ⟨s, hs1, hs8, rfl⟩, ⟨p, hp1, hp8, rfl⟩, ⟨t, ht, rfl, hrm⟩, q, Q, rfl, hQ⟩ hPR ⟨a3, a4, hSE.2.2⟩
theorem ev_6 {g : Nat → Int32} {rm : Nat → Int32} {op : Nat → Int32} {rc : Int32} {ec : Int32} {su : Int32} {pe : Int32} {qt : Int32} {rs : Nat → Int32} {rn : Int32} (hST : ST g rm op rc ec su pe qt rs rn) {pr st : Nat → Int32} (hPR : PR pr op) (hSE : SE st rc ec su) {fu : Nat} (hf : 20000 ≤ fu) (xs : Nat → Int32) (L : Nat) (v4 v5 x : Int32) (n : Nat) (cs : Nat → Int32) (cn : Int32) (lc : Nat → Int64) (hc : Nat → Int64) (lg : Nat → Int64) (hh : Nat → Int64) : NX fu xs L v4 v5 (n + 2) (m_L_law_32 fu xs L (n + 2) 1 v4 v5 x (nI 6) 0 g rm op rc ec su pe qt rs rn cs cn lc hc lg hh pr st (fun _ => 0)) := by
  obtain ⟨hg, ho, hi, ⟨r, hr, rfl⟩, ⟨e, he, rfl⟩, ⟨s, hs1, hs8, rfl⟩, ⟨p, hp1, hp8, rfl⟩, ⟨t, ht, rfl, hrm⟩, q, Q, rfl, hQ⟩ := id hST
  rcases x_setSupport (nI s) (m_L_low x 5) with h2 | ⟨s1, a1, a2, a3, a4⟩
  · exact ev_no hST hPR hSE hf xs L v4 v5 n cs cn lc hc lg hh (by rw [act_6, m_L_act_k6, h2, bw1, if_pos (Or.inl rfl), wr1_l, bnd2]) neg3
  · exact ev_yes hST hf xs L v4 v5 n cs cn lc hc lg hh (k := 6) (by decide) (by decide) (by rw [act_6, m_L_act_k6, a4, bw1, wr1_r, bnd2]) (nI_pos' (by omega)) (fun t9 hT => ⟨_, _, _, _, _, _, l_left_mid hg _ _ _ _ _ _ _ (k := 6) (by decide) (by decide) hT.2.1.symm hT.2.2.1.symm hT.2.2.2 hf _ _ _ _ _ _⟩) ⟨hg, ho, hi, ⟨r, hr, rfl⟩, ⟨e, he, rfl⟩, ⟨s1, a1, a2, rfl⟩, ⟨p, hp1, hp8, rfl⟩, ⟨t, ht, rfl, hrm⟩, q, Q, rfl, hQ⟩ hPR ⟨hSE.1, hSE.2.1, a3⟩
theorem ev_7 {g : Nat → Int32} {rm : Nat → Int32} {op : Nat → Int32} {rc : Int32} {ec : Int32} {su : Int32} {pe : Int32} {qt : Int32} {rs : Nat → Int32} {rn : Int32} (hST : ST g rm op rc ec su pe qt rs rn) {pr st : Nat → Int32} (hPR : PR pr op) (hSE : SE st rc ec su) {fu : Nat} (hf : 20000 ≤ fu) (xs : Nat → Int32) (L : Nat) (v4 v5 x : Int32) (n : Nat) (cs : Nat → Int32) (cn : Int32) (lc : Nat → Int64) (hc : Nat → Int64) (lg : Nat → Int64) (hh : Nat → Int64) : NX fu xs L v4 v5 (n + 2) (m_L_law_32 fu xs L (n + 2) 1 v4 v5 x (nI 7) 0 g rm op rc ec su pe qt rs rn cs cn lc hc lg hh pr st (fun _ => 0)) := by
  obtain ⟨hg, ho, hi, ⟨r, hr, rfl⟩, ⟨e, he, rfl⟩, ⟨s, hs1, hs8, rfl⟩, ⟨p, hp1, hp8, rfl⟩, ⟨t, ht, rfl, hrm⟩, q, Q, rfl, hQ⟩ := id hST
  rcases x_setPeriod (nI p) (m_L_low x 6) with h2 | ⟨s1, a1, a2, a3, a4⟩
  · exact ev_no hST hPR hSE hf xs L v4 v5 n cs cn lc hc lg hh (by rw [act_7, m_L_act_k7, h2, bw1, if_pos (Or.inl rfl), wr1_l, bnd2]) neg3
  · exact ev_yes hST hf xs L v4 v5 n cs cn lc hc lg hh (k := 7) (by decide) (by decide) (by rw [act_7, m_L_act_k7, a4, bw1, wr1_r, bnd2]) (nI_pos' (by omega)) (fun t9 hT => ⟨_, _, _, _, _, _, l_left_mid hg _ _ _ _ _ _ _ (k := 7) (by decide) (by decide) hT.2.1.symm hT.2.2.1.symm hT.2.2.2 hf _ _ _ _ _ _⟩) ⟨hg, ho, hi, ⟨r, hr, rfl⟩, ⟨e, he, rfl⟩, ⟨s, hs1, hs8, rfl⟩, ⟨s1, a1, a2, rfl⟩, ⟨t, ht, rfl, hrm⟩, q, Q, rfl, hQ⟩ hPR hSE
theorem ev_8 {g : Nat → Int32} {rm : Nat → Int32} {op : Nat → Int32} {rc : Int32} {ec : Int32} {su : Int32} {pe : Int32} {qt : Int32} {rs : Nat → Int32} {rn : Int32} (hST : ST g rm op rc ec su pe qt rs rn) {pr st : Nat → Int32} (hPR : PR pr op) (hSE : SE st rc ec su) {fu : Nat} (hf : 20000 ≤ fu) (xs : Nat → Int32) (L : Nat) (v4 v5 x : Int32) (n : Nat) (cs : Nat → Int32) (cn : Int32) (lc : Nat → Int64) (hc : Nat → Int64) (lg : Nat → Int64) (hh : Nat → Int64) : NX fu xs L v4 v5 (n + 2) (m_L_law_32 fu xs L (n + 2) 1 v4 v5 x (nI 8) 0 g rm op rc ec su pe qt rs rn cs cn lc hc lg hh pr st (fun _ => 0)) := by
  obtain ⟨hg, ho, hi, ⟨r, hr, rfl⟩, ⟨e, he, rfl⟩, ⟨s, hs1, hs8, rfl⟩, ⟨p, hp1, hp8, rfl⟩, ⟨t, ht, rfl, hrm⟩, q, Q, rfl, hQ⟩ := id hST
  rcases x_review hg rm (nI t) (m_L_low x 9) (m_L_low (x >>> (4 &&& 31)) 13) with ⟨E, hE, h2⟩ | ⟨i, hi96, h2⟩
  · rcases hE with rfl | rfl
    · exact ev_no hST hPR hSE hf xs L v4 v5 n cs cn lc hc lg hh (by rw [act_8, m_L_act_k8, h2, bw1, if_pos (Or.inl rfl), wr2_1, bnd2]) neg2
    · exact ev_no hST hPR hSE hf xs L v4 v5 n cs cn lc hc lg hh (by rw [act_8, m_L_act_k8, h2, bw1, if_pos (Or.inr rfl), wr2_2 (by decide +kernel), bnd2]) neg4
  · obtain ⟨a, ha, ea⟩ := hrm i hi96
    exact ev_yes hST hf xs L v4 v5 n cs cn lc hc lg hh (k := 8) (by decide) (by decide) (by rw [act_8, m_L_act_k8, h2, bw1, wr2_r, bnd2]) (by rw [ea, pk_sub ha]; exact nI_pos' (by omega)) (fun t9 hT => ⟨_, _, _, _, _, _, l_left_mid hg _ _ _ _ _ _ _ (k := 8) (by decide) (by decide) hT.2.1.symm hT.2.2.1.symm hT.2.2.2 hf _ _ _ _ _ _⟩) ⟨hg, ho, hi, ⟨r, hr, rfl⟩, ⟨e, he, rfl⟩, ⟨s, hs1, hs8, rfl⟩, ⟨p, hp1, hp8, rfl⟩, ⟨t, ht, rfl, RM_ok hrm RMu⟩, q, Q, rfl, hQ⟩ hPR hSE
theorem ev_9 {g : Nat → Int32} {rm : Nat → Int32} {op : Nat → Int32} {rc : Int32} {ec : Int32} {su : Int32} {pe : Int32} {qt : Int32} {rs : Nat → Int32} {rn : Int32} (hST : ST g rm op rc ec su pe qt rs rn) {pr st : Nat → Int32} (hPR : PR pr op) (hSE : SE st rc ec su) {fu : Nat} (hf : 20000 ≤ fu) (xs : Nat → Int32) (L : Nat) (v4 v5 x : Int32) (n : Nat) (cs : Nat → Int32) (cn : Int32) (lc : Nat → Int64) (hc : Nat → Int64) (lg : Nat → Int64) (hh : Nat → Int64) : NX fu xs L v4 v5 (n + 2) (m_L_law_32 fu xs L (n + 2) 1 v4 v5 x (nI 9) 0 g rm op rc ec su pe qt rs rn cs cn lc hc lg hh pr st (fun _ => 0)) := by
  obtain ⟨hg, ho, hi, ⟨r, hr, rfl⟩, ⟨e, he, rfl⟩, ⟨s, hs1, hs8, rfl⟩, ⟨p, hp1, hp8, rfl⟩, ⟨t, ht, rfl, hrm⟩, q, Q, rfl, hQ⟩ := id hST
  rcases x_nextQuarter hg rm (nI p) ht hf with h2 | ⟨ht2, g', h2, h3, h4⟩
  · exact ev_no hST hPR hSE hf xs L v4 v5 n cs cn lc hc lg hh (by rw [act_9, m_L_act_k9, h2, bw2, if_pos (Or.inl rfl), wr1_l, bnd3]) neg4
  · have hb := fb_sm_bound (f := fun u => pc (LSP g rm (nI p) (nI t + 1) u)) (c := 12) (n := 8) (fun u _ => pc_lt 12 (by decide) (LSP_lt g rm (nI p) (nI t + 1) u))
    refine ev_yes hST hf xs L v4 v5 n cs cn lc hc lg hh (k := 9) (by decide) (by decide) (by rw [act_9, m_L_act_k9, h2, bw2, wr1_r, bnd3]) (nI_pos' (by omega)) (fun t9 hT => ⟨_, _, _, _, _, _, l_left_9 (g0 := g) h3 (fun u _ => LSP_lt g rm (nI p) (nI t + 1) u) h4 hT.1 _ _ _ _ _ _ (by rw [hT.2.1]) hf _ _ _ _ _ _⟩) ⟨h3, ho, hi, ⟨r, hr, rfl⟩, ⟨e, he, rfl⟩, ⟨s, hs1, hs8, rfl⟩, ⟨p, hp1, hp8, rfl⟩, ⟨t + 1, by omega, nI_1 t, fun i hi => by obtain ⟨a, b, c⟩ := hrm i hi; exact ⟨a, by omega, c⟩⟩, q, Q, rfl, hQ⟩ hPR hSE
theorem ev_12 {g : Nat → Int32} {rm : Nat → Int32} {op : Nat → Int32} {rc : Int32} {ec : Int32} {su : Int32} {pe : Int32} {qt : Int32} {rs : Nat → Int32} {rn : Int32} (hST : ST g rm op rc ec su pe qt rs rn) {pr st : Nat → Int32} (hPR : PR pr op) (hSE : SE st rc ec su) {fu : Nat} (hf : 20000 ≤ fu) (xs : Nat → Int32) (L : Nat) (v4 v5 x : Int32) (n : Nat) (cs : Nat → Int32) (cn : Int32) (lc : Nat → Int64) (hc : Nat → Int64) (lg : Nat → Int64) (hh : Nat → Int64) : NX fu xs L v4 v5 (n + 2) (m_L_law_32 fu xs L (n + 2) 1 v4 v5 x (nI 12) 0 g rm op rc ec su pe qt rs rn cs cn lc hc lg hh pr st (fun _ => 0)) := by
  obtain ⟨hg, ho, hi, ⟨r, hr, rfl⟩, ⟨e, he, rfl⟩, ⟨s, hs1, hs8, rfl⟩, ⟨p, hp1, hp8, rfl⟩, ⟨t, ht, rfl, hrm⟩, q, Q, rfl, hQ⟩ := id hST
  have hq := hQ.1
  exact ev_yes hST hf xs L v4 v5 n cs cn lc hc lg hh (k := 12) (by decide) (by decide) (by rw [act_12, m_L_act_k12, m_X0_dropRoles, bnd2, bnd2]) (nI_pos' (by omega)) (fun t9 hT => ⟨_, _, _, _, _, _, l_left_12 _ _ _ _ _ _ hT.2.2.1.symm _ _ _ _ _ _⟩) ⟨hg, ho, hi, ⟨r, hr, rfl⟩, ⟨e, he, rfl⟩, ⟨s, hs1, hs8, rfl⟩, ⟨p, hp1, hp8, rfl⟩, ⟨t, ht, rfl, hrm⟩, 0, (fun _ => 0), rfl, ⟨by decide, fun i h => absurd h (Nat.not_lt_zero i)⟩⟩ hPR hSE
theorem ev_10 {g : Nat → Int32} {rm : Nat → Int32} {op : Nat → Int32} {rc : Int32} {ec : Int32} {su : Int32} {pe : Int32} {qt : Int32} {rs : Nat → Int32} {rn : Int32} (hST : ST g rm op rc ec su pe qt rs rn) {pr st : Nat → Int32} (hPR : PR pr op) (hSE : SE st rc ec su) {fu : Nat} (hf : 20000 ≤ fu) (xs : Nat → Int32) (L : Nat) (v4 v5 x : Int32) (n : Nat) (cs : Nat → Int32) (cn : Int32) (lc : Nat → Int64) (hc : Nat → Int64) (lg : Nat → Int64) (hh : Nat → Int64) : NX fu xs L v4 v5 (n + 2) (m_L_law_32 fu xs L (n + 2) 1 v4 v5 x (nI 10) 0 g rm op rc ec su pe qt rs rn cs cn lc hc lg hh pr st (fun _ => 0)) := by
  obtain ⟨hg, ho, hi, ⟨r, hr, rfl⟩, ⟨e, he, rfl⟩, ⟨s, hs1, hs8, rfl⟩, ⟨p, hp1, hp8, rfl⟩, ⟨t, ht, rfl, hrm⟩, q, Q, rfl, hQ⟩ := id hST
  obtain ⟨-, m, R, -, -, -, hC, -⟩ := findCandidates_eq hg ho.1 (s := s) (by omega) (fu := fu) (by omega) cs cn lc hc lg hh
  have hm := hC.1
  have hG := GR_le hg 8 (Nat.le_refl 8)
  have hG2 := Nat.mul_le_mul he hG
  obtain ⟨rs', cs', cn', lc', hc', lg', hh', q1, Q1, C, T, h1, h2, h3, h4, h5⟩ := v_mineGreedily hg ho.1 hs8 hC hf hr he rs (nI q) cs cn lc hc lg hh
  have hQ1 : RO rs' q1 Q1 := ⟨by have := h2.1; omega, fun i hi => ⟨h2.2.2.1 i hi, h3 i hi⟩⟩
  have hsub : ∀ j, j < q1 → Im R m (Q1 j) := fun j hj => by
    obtain ⟨i, a, b, c⟩ := (h2.2.2.2 (Q1 j)).mp ⟨j, hj, rfl⟩
    exact ⟨i, a, c⟩
  have hx : nI r * nI q1 + nI e * nI (fb_sm (EXt g Q1 q1) 8) = nI (r * q1 + e * cntL (Lf g C)) := by
    rw [roles_cost h2 h4, nI_mulI, nI_mulI, nI_add]
  refine ev_yes hST hf xs L v4 v5 n cs cn lc hc lg hh (k := 10) (by decide) (by decide) (by rw [act_10, m_L_act_k10, h1, bnd9, bnd9]) (nI_pos' (by omega)) (fun t9 hT => ?_) ⟨hg, ho, hi, ⟨r, hr, rfl⟩, ⟨e, he, rfl⟩, ⟨s, hs1, hs8, rfl⟩, ⟨p, hp1, hp8, rfl⟩, ⟨t, ht, rfl, hrm⟩, q1, Q1, rfl, hQ1⟩ hPR hSE
  exact l_left_mine hg ho.1 hs8 hr he hC hQ1 h2.2.1 hsub hf _ _ hSE.2.1 hx h5 _ _ _ _ _ _ (Or.inl ⟨rfl, fun h14 => by
    have h6 := BST_le g R m (nI r) (nI e) (mkc_lt T m)
    rw [greedy_choice h14 hC.2.1 hC.2.2.1 h2 h4] at h6
    exact h6⟩)
theorem ev_11 {g : Nat → Int32} {rm : Nat → Int32} {op : Nat → Int32} {rc : Int32} {ec : Int32} {su : Int32} {pe : Int32} {qt : Int32} {rs : Nat → Int32} {rn : Int32} (hST : ST g rm op rc ec su pe qt rs rn) {pr st : Nat → Int32} (hPR : PR pr op) (hSE : SE st rc ec su) {fu : Nat} (hf : 20000 ≤ fu) (xs : Nat → Int32) (L : Nat) (v4 v5 x : Int32) (n : Nat) (cs : Nat → Int32) (cn : Int32) (lc : Nat → Int64) (hc : Nat → Int64) (lg : Nat → Int64) (hh : Nat → Int64) : NX fu xs L v4 v5 (n + 2) (m_L_law_32 fu xs L (n + 2) 1 v4 v5 x (nI 11) 0 g rm op rc ec su pe qt rs rn cs cn lc hc lg hh pr st (fun _ => 0)) := by
  obtain ⟨hg, ho, hi, ⟨r, hr, rfl⟩, ⟨e, he, rfl⟩, ⟨s, hs1, hs8, rfl⟩, ⟨p, hp1, hp8, rfl⟩, ⟨t, ht, rfl, hrm⟩, q, Q, rfl, hQ⟩ := id hST
  obtain ⟨-, m, R, -, -, -, hC, -⟩ := findCandidates_eq hg ho.1 (s := s) (by omega) (fu := fu) (by omega) cs cn lc hc lg hh
  have hm := hC.1
  have hG := GR_le hg 8 (Nat.le_refl 8)
  have hG2 := Nat.mul_le_mul he hG
  obtain ⟨rs', rn', cs', cn', lc', hc', lg', hh', h1, hno, hyes⟩ := v_mineBest hg ho.1 hs8 hC hf (nI r) (nI e) rs (nI q) cs cn lc hc lg hh
  by_cases h14 : m ≤ 14
  · obtain ⟨q1, Q1, rfl, h2, h3⟩ := hyes h14
    rw [if_pos h14] at h1
    have hQ1 : RO rs' q1 Q1 := ⟨by have := h2.1; omega, fun i hi => ⟨h2.2.2.1 i hi, h3 i hi⟩⟩
    have hsub : ∀ j, j < q1 → Im R m (Q1 j) := fun j hj => by
      obtain ⟨i, a, b, c⟩ := (h2.2.2.2 (Q1 j)).mp ⟨j, hj, rfl⟩
      exact ⟨i, a, c⟩
    have hB := BST_lt g R m (nI r) (nI e)
    have hlt := cst_lt hg (R := R) hr he h14 hB
    have hcst := cst_nI g R m r e (BST g R m (nI r) (nI e))
    have hx := (choice_cost (g := g) (show m ≤ 64 by omega) hC.2.1 hC.2.2.1 (nI r) (nI e) hB h2).trans hcst
    have hz : cst g R m (nI r) (nI e) 0 = nI (e * fb_sm (GRt g) 8) := by
      rw [cst_nI, pc_0, LF_z, cntL_gr8, Nat.mul_zero, Nat.zero_add]
    have h6 := BST_le g R m (nI r) (nI e) (Nat.two_pow_pos m)
    rw [hz, hcst] at h6
    have h7 := (nI_leI (by omega) (by omega)).mp h6
    refine ev_yes hST hf xs L v4 v5 n cs cn lc hc lg hh (k := 11) (by decide) (by decide) (by rw [act_11, m_L_act_k11, h1, bw8, wr1_r, bnd9, hcst]) (nI_pos' (by omega)) (fun t9 hT => ?_) ⟨hg, ho, hi, ⟨r, hr, rfl⟩, ⟨e, he, rfl⟩, ⟨s, hs1, hs8, rfl⟩, ⟨p, hp1, hp8, rfl⟩, ⟨t, ht, rfl, hrm⟩, q1, Q1, rfl, hQ1⟩ hPR hSE
    exact l_left_mine hg ho.1 hs8 hr he hC hQ1 h2.2.1 hsub hf _ _ hSE.2.1 hx h7 _ _ _ _ _ _ (Or.inr ⟨rfl, fun _ => hcst⟩)
  · obtain ⟨rfl, rfl⟩ := hno h14
    rw [if_neg h14] at h1
    exact ev_no hST hPR hSE hf xs L v4 v5 n cs cn lc hc lg hh (by rw [act_11, m_L_act_k11, h1, bw8, if_pos (Or.inl rfl), wr1_l, bnd9]) neg4
theorem PR_XF {pr op : Nat → Int32} (ho : VO op) (h : PR pr op) {p q : Nat} (hp : p < 12) (hq : q < 12) (hpq : p ≠ q) : PR (upd (upd pr p (pr p ^^^ ((1 : Int32) <<< (nI q &&& 31)))) q (upd pr p (pr p ^^^ ((1 : Int32) <<< (nI q &&& 31))) q ^^^ ((1 : Int32) <<< (nI p &&& 31)))) (XF op p q) := by
  intro i hi
  have e1 : upd pr p (pr p ^^^ ((1 : Int32) <<< (nI q &&& 31))) q = pr q := if_neg (Ne.symm hpq)
  rw [e1, h p hp, h q hq, (ho.1 p hp).2, (ho.1 q hq).2, bit1 (show q < 31 by omega), bit1 (show p < 31 by omega), fb_xorI, fb_xorI, XF]
  by_cases a : i = q
  · subst a
    exact (if_pos rfl).trans (if_pos rfl).symm
  · by_cases c : i = p
    · subst c
      exact ((if_neg a).trans (if_pos rfl)).trans ((if_neg a).trans (if_pos rfl)).symm
    · exact ((if_neg a).trans (if_neg c)).trans ((h i hi).trans ((if_neg a).trans (if_neg c)).symm)
theorem ev_4 {g : Nat → Int32} {rm : Nat → Int32} {op : Nat → Int32} {rc : Int32} {ec : Int32} {su : Int32} {pe : Int32} {qt : Int32} {rs : Nat → Int32} {rn : Int32} (hST : ST g rm op rc ec su pe qt rs rn) {pr st : Nat → Int32} (hPR : PR pr op) (hSE : SE st rc ec su) {fu : Nat} (hf : 20000 ≤ fu) (xs : Nat → Int32) (L : Nat) (v4 v5 x : Int32) (n : Nat) (cs : Nat → Int32) (cn : Int32) (lc : Nat → Int64) (hc : Nat → Int64) (lg : Nat → Int64) (hh : Nat → Int64) : NX fu xs L v4 v5 (n + 2) (m_L_law_32 fu xs L (n + 2) 1 v4 v5 x (nI 4) 0 g rm op rc ec su pe qt rs rn cs cn lc hc lg hh pr st (fun _ => 0)) := by
  obtain ⟨hg, ho, hi, ⟨r, hr, rfl⟩, ⟨e, he, rfl⟩, ⟨s, hs1, hs8, rfl⟩, ⟨p, hp1, hp8, rfl⟩, ⟨t, ht, rfl, hrm⟩, q, Q, rfl, hQ⟩ := id hST
  obtain ⟨t9, e9, hT⟩ := ST_tell hST hf
  obtain ⟨c, hc01, hcl, hact⟩ : ∃ c : Int32, (c = 0 ∨ c = 1) ∧ (m_L_low (x >>> (13 &&& 31)) 3 ≤ 0 ∧ c = 0 ∨ ¬ m_L_low (x >>> (13 &&& 31)) 3 ≤ 0 ∧ c = 1) ∧ m_L_act_k4 op x = bw1 IOE IAE (m_X0_setConflict op (m_L_low (x >>> (4 &&& 31)) 13) (m_L_low (x >>> (9 &&& 31)) 12) c) (fun r op => some ((wb2 IOE (-2) (-3) r), op)) := by
    by_cases z : m_L_low (x >>> (13 &&& 31)) 3 ≤ 0
    · exact ⟨0, Or.inl rfl, Or.inl ⟨z, rfl⟩, by rw [m_L_act_k4, if_pos z]⟩
    · exact ⟨1, Or.inr rfl, Or.inr ⟨z, rfl⟩, by rw [m_L_act_k4, if_neg z]⟩
  rcases x_setConflict ho (m_L_low (x >>> (4 &&& 31)) 13) (m_L_low (x >>> (9 &&& 31)) 12) c hc01 with ⟨E, hE, h2⟩ | ⟨a, d, v, ha, hd, had, ea, ed, hv, h2⟩
  · rcases hE with rfl | rfl
    · exact ev_no hST hPR hSE hf xs L v4 v5 n cs cn lc hc lg hh (by rw [act_4, hact, h2, bw1, if_pos (Or.inl rfl), wb2_1, bnd2]) neg2
    · exact ev_no hST hPR hSE hf xs L v4 v5 n cs cn lc hc lg hh (by rw [act_4, hact, h2, bw1, if_pos (Or.inr rfl), wb2_2 (by decide +kernel), bnd2]) neg3
  · have hact2 : m_L_act fu g rm op (nI r) (nI e) (nI s) (nI p) (nI t) rs (nI q) cs cn lc hc lg hh (nI 4) x = some (v, g, rm, if v = c then op else XF op a d, nI r, nI e, nI s, nI p, nI t, rs, nI q, cs, cn, lc, hc, lg, hh) := by
      rw [act_4, hact, h2, bw1, wb2_r hv, bnd2]
    have c0 : (if v = c then op else XF op a d) = op ∧ v = c ∨ (if v = c then op else XF op a d) = XF op a d ∧ v ≠ c := by
      by_cases z : v = c
      · exact Or.inl ⟨if_pos z, z⟩
      · exact Or.inr ⟨if_neg z, z⟩
    have w0 : (0 : Int32) ≤ v := (v01_pos hv).1
    rcases c0 with ⟨eo, hvc⟩ | ⟨eo, hvc⟩
    · rw [eo] at hact2
      refine ⟨n, g, rm, op, nI r, nI e, nI s, nI p, nI t, rs, nI q, cs, cn, lc, hc, lg, hh, pr, SN st 4 x, by omega, ?_, hST, hPR, hSE⟩
      have hl := l_left_mid (op := op) (rs := rs) (b5 := SN st 4 x) hg (nI r) (nI e) (nI s) (nI t) (nI q) x v (k := 4) (by decide) (by decide) hT.2.1.symm hT.2.2.1.symm hT.2.2.2 hf cs cn lc hc lg hh
      rw [m_L_law_32, if_neg (by decide), if_pos rfl, e9, bnd1, hact2, bnd17]
      dsimp only
      rw [if_pos w0, if_pos (show nI 4 = 4 from rfl)]
      rcases hcl with ⟨z, rfl⟩ | ⟨z, rfl⟩
      · rw [if_pos z, if_pos hvc]
        exact ev_left _ _ _ _ _ _ xs L v4 v5 n (by decide) hl
      · rw [if_neg z, if_pos hvc]
        exact ev_left _ _ _ _ _ _ xs L v4 v5 n (by decide) hl
    · rw [eo] at hact2
      have hST1 : ST g rm (XF op a d) (nI r) (nI e) (nI s) (nI p) (nI t) rs (nI q) := ⟨hg, VO_XF ho ha hd had, IRR_XF ho hi ha hd had, ⟨r, hr, rfl⟩, ⟨e, he, rfl⟩, ⟨s, hs1, hs8, rfl⟩, ⟨p, hp1, hp8, rfl⟩, ⟨t, ht, rfl, hrm⟩, q, Q, rfl, hQ⟩
      refine ⟨n, g, rm, XF op a d, nI r, nI e, nI s, nI p, nI t, rs, nI q, cs, cn, lc, hc, lg, hh, _, SN st 4 x, by omega, ?_, hST1, PR_XF ho hPR ha hd had, hSE⟩
      have hl := l_left_mid (op := XF op a d) (rs := rs) (b5 := SN st 4 x) hg (nI r) (nI e) (nI s) (nI t) (nI q) x v (k := 4) (by decide) (by decide) hT.2.1.symm hT.2.2.1.symm hT.2.2.2 hf cs cn lc hc lg hh
      rw [m_L_law_32, if_neg (by decide), if_pos rfl, e9, bnd1, hact2, bnd17]
      dsimp only
      rw [if_pos w0, if_pos (show nI 4 = 4 from rfl), ea, ed, ixI ha (by decide), ixI hd (by decide), clI (show a < 2 ^ 31 by omega), clI (show d < 2 ^ 31 by omega)]
      rcases hcl with ⟨z, rfl⟩ | ⟨z, rfl⟩
      · rw [if_pos z, if_neg hvc]
        exact ev_left _ _ _ _ _ _ xs L v4 v5 n (by decide) hl
      · rw [if_neg z, if_neg hvc]
        exact ev_left _ _ _ _ _ _ xs L v4 v5 n (by decide) hl
