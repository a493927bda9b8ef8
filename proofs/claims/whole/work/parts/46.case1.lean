set_option maxHeartbeats 4000000 in
set_option maxRecDepth 100000 in
theorem lz_setSupport {p : Program} {l : Launch} {e : Env} {s : State} {m : MethodId} {below : List Frame} {meth : Method} {c : Code} {Q : State → Prop} {b L : Nat} {xs : Nat → Int32} {D : va_G} {cI cJ : ClassId} {x0 x1 x2 x3 x4 x5 x6 x7 x8 x9 y0 y1 y2 y3 y4 y5 y6 y7 y8 o0 : Nat} {i : Int32} {cells slots : Nat} {H : Heap} {locs : List Loc} {ls : Array Slot} (hx : p.tables.exec = Jvm.exec) (hb : c.code = cL_law) (hml : c.maxLocals = 7) (hown : s.vm.findClass RL = some m.cls) (hts : ∀ w ∈ wsL_law, w.before ([Value.ref b] : List Value).toArray s = true) (hX : va_X b L xs s s.heap) (hbl : b < s.heap.size) (hst : l.stackTraces = false) (hK : va_K D vwCl [(cI, .int), (cJ, .long)] s) (hT : xThrL (lz_A s) s) (hi1 : vp_in (i + 1) L) (hi2 : vp_in (i + 2) L) (hi3 : vp_in (i + 3) L) (hI : lz_I D cI cJ x0 x1 x2 x3 x4 x5 x6 x7 x8 x9 y0 y1 y2 y3 y4 y5 y6 y7 y8 o0 s H locs) (hl : lv_has ls 7 [(4, .int i), (3, .ref o0), (2, .ref y0), (1, .ref x0), (0, .ref b)]) (hf : cells + 1 ≤ room_1.cells ∧ slots + 6 ≤ room_1.slots)
    (kk : ∀ (H1 : Heap) (locs1 : List Loc) (ls1 : Array Slot), lz_I D cI cJ x0 x1 x2 x3 x4 x5 x6 x7 x8 x9 y0 y1 y2 y3 y4 y5 y6 y7 y8 o0 s H1 locs1 → lv_has ls1 7 [(4, .int i), (3, .ref o0), (2, .ref y0), (1, .ref x0), (0, .ref b)] → W p l e room_1 s m ([Value.ref b] : List Value).toArray below meth c H1 locs1 (cells + 1) (slots + 6) Q (F0 m 1563 ls1 [])) : W p l e room_1 s m ([Value.ref b] : List Value).toArray below meth c H locs cells slots Q (F0 m 537 ls []) := by
  obtain ⟨g, rm, op, rc, ec, su, pe, qt, rs, rn, cs, cn, lc, hc, lg, hg, la, fo, co, cv, ta, nu, th, u, q, R, hg8, hVO, hrc, hsu, hqt, hVR, hP, hD, hS⟩ := hI
  have hA : ∀ q, s.heap.size ≤ q → lz_A s q := fun q h9 => h9
  have hbA : ¬ lz_A s b := fun h9 => absurd hbl (Nat.not_lt.mpr h9)
  have hf0 : cells + 0 ≤ room_1.cells ∧ slots + 0 ≤ room_1.slots := ⟨Nat.le_trans (Nat.le_succ _) hf.1, Nat.le_trans (Nat.le_add_right _ _) hf.2⟩
  obtain ⟨r0, su', r1, th', e0, e1, hsu, hoc⟩ := s_setSupport su th (xs (Int32.toNatClampNeg (i + 1))) hsu
  obtain ⟨u', hres, hcmp⟩ := oc_i1 hoc u
  have hl : lv_has ls 7 [(4, .int i), (3, .ref o0), (2, .ref y0), (1, .ref x0), (0, .ref b)] := hl
  refine lv_aload_n hx hb dL_law_537 rfl (lv_at hl 3 rfl) ?_
  refine lv_aload_n hx hb dL_law_538 rfl (lv_at hl 4 rfl) ?_
  refine lv_iload hx hb dL_law_539 (lv_at hl 0 rfl) ?_
  refine lv_iconst (v := 1) hx hb dL_law_541 (by decide) ?_
  refine lv_iadd hx hb dL_law_542 ?_
  refine va_sld hx hb hX hbl hbA hS hi1 dL_law_543 ?_
  refine lv_aload_n hx hb dL_law_544 rfl (lv_at hl 1 rfl) ?_
  refine lz_Wi (r0 := th') (As := [.ref x0, .int (xs (Int32.toNatClampNeg (i + 1))), .ref o0]) (rest := []) (wc := wX cI cJ x0 x1 x2 x3 x4 x5 x6 x7 x8 x9 g rm op rc ec su pe qt rs rn cs cn lc hc lg hg ++ [(o0, .inl (cJ, 1, .inr (.inl u)))]) (w1 := wX cI cJ x0 x1 x2 x3 x4 x5 x6 x7 x8 x9 g rm op rc ec su' pe qt rs rn cs cn lc hc lg hg ++ [(o0, .inl (cJ, 1, .inr (.inl u')))]) (wr := wY cI cJ y0 y1 y2 y3 y4 y5 y6 y7 y8 g rm op la fo co cv ta rc ec su pe qt rn nu th) ⟨hx, hb, hml, hown, hts⟩ (c_L_setSupport l hst D cI cJ x0 x1 x2 x3 x4 x5 x6 x7 x8 x9 o0 _ g rm op rc ec su pe qt rs rn cs cn lc hc lg hg u (xs (Int32.toNatClampNeg (i + 1))) r0 su' e0 th' u' hres) (vx_cwSW 3 hts gL_law_L_setSupport rfl rfl rfl (by decide +kernel) ⟨Nat.le_of_ble_eq_true rfl, Nat.le_of_ble_eq_true rfl⟩) hK hP hD hS hA hT [0, 1, 2, 3, 4, 5, 6, 7, 8, 9, 19] [10, 11, 12, 13, 14, 15, 16, 17, 18] rfl rfl (by decide) (by decide) (by decide) rfl rfl hl.1 rfl (lv_room (Nat.le_of_ble_eq_true rfl)) dL_law_545 hf (fun H locs hP hD hS => ?_)
  replace hP := hP.sub (ws' := wX cI cJ x0 x1 x2 x3 x4 x5 x6 x7 x8 x9 g rm op rc ec su' pe qt rs rn cs cn lc hc lg hg ++ (wY cI cJ y0 y1 y2 y3 y4 y5 y6 y7 y8 g rm op la fo co cv ta rc ec su pe qt rn nu th ++ [(o0, .inl (cJ, 1, .inr (.inl u')))])) [9, 10, 11, 12, 13, 14, 15, 16, 17, 18, 0, 1, 2, 3, 4, 5, 6, 7, 8, 19] rfl
  replace hD := hD.sub (ws' := wX cI cJ x0 x1 x2 x3 x4 x5 x6 x7 x8 x9 g rm op rc ec su' pe qt rs rn cs cn lc hc lg hg ++ (wY cI cJ y0 y1 y2 y3 y4 y5 y6 y7 y8 g rm op la fo co cv ta rc ec su pe qt rn nu th ++ [(o0, .inl (cJ, 1, .inr (.inl u')))])) [9, 10, 11, 12, 13, 14, 15, 16, 17, 18, 0, 1, 2, 3, 4, 5, 6, 7, 8, 19] (by decide) rfl
  refine lv_istore (lv' := [(5, .int th'), (4, .int i), (3, .ref o0), (2, .ref y0), (1, .ref x0), (0, .ref b)]) hx hb dL_law_548 hl (by decide) rfl (fun ls hl => ?_)
  refine lv_aload_n hx hb dL_law_550 rfl (lv_at hl 3 rfl) ?_
  refine lv_aload_n hx hb dL_law_551 rfl (lv_at hl 5 rfl) ?_
  refine lv_iload hx hb dL_law_552 (lv_at hl 1 rfl) ?_
  refine lv_iconst (v := 1) hx hb dL_law_554 (by decide) ?_
  refine lv_iadd hx hb dL_law_555 ?_
  refine va_sld hx hb hX hbl hbA hS hi1 dL_law_556 ?_
  refine lz_Ti (r0 := r1) (As := [.int (xs (Int32.toNatClampNeg (i + 1)))]) (rest := []) (wc := wY cI cJ y0 y1 y2 y3 y4 y5 y6 y7 y8 g rm op la fo co cv ta rc ec su pe qt rn nu th) (w1 := wY cI cJ y0 y1 y2 y3 y4 y5 y6 y7 y8 g rm op la fo co cv ta rc ec su' pe qt rn nu th') (wr := wX cI cJ x0 x1 x2 x3 x4 x5 x6 x7 x8 x9 g rm op rc ec su' pe qt rs rn cs cn lc hc lg hg ++ [(o0, .inl (cJ, 1, .inr (.inl u')))]) ⟨hx, hb, hml, hown, hts⟩ (c_X1_setSupport l D cI cJ y0 y1 y2 y3 y4 y5 y6 y7 y8 _ g rm op la fo co cv ta rc ec su pe qt rn nu th (xs (Int32.toNatClampNeg (i + 1))) r1 su' th' e1) (cwV 1 hts gL_law_X1_setSupport rfl rfl rfl (by decide +kernel) ⟨Nat.le_of_ble_eq_true rfl, Nat.le_of_ble_eq_true rfl⟩) hK hP hD hS hA [10, 11, 12, 13, 14, 15, 16, 17, 18] [0, 1, 2, 3, 4, 5, 6, 7, 8, 9, 19] rfl rfl (by decide) (by decide) (by decide) rfl rfl rfl rfl hl.1 rfl (lv_room (Nat.le_of_ble_eq_true rfl)) dL_law_557 hf (fun H locs hP hD hS => ?_)
  replace hP := hP.sub (ws' := wX cI cJ x0 x1 x2 x3 x4 x5 x6 x7 x8 x9 g rm op rc ec su' pe qt rs rn cs cn lc hc lg hg ++ (wY cI cJ y0 y1 y2 y3 y4 y5 y6 y7 y8 g rm op la fo co cv ta rc ec su' pe qt rn nu th' ++ [(o0, .inl (cJ, 1, .inr (.inl u')))])) [0, 1, 2, 3, 4, 5, 6, 7, 8, 9, 11, 12, 13, 14, 15, 16, 17, 18, 19, 10] rfl
  replace hD := hD.sub (ws' := wX cI cJ x0 x1 x2 x3 x4 x5 x6 x7 x8 x9 g rm op rc ec su' pe qt rs rn cs cn lc hc lg hg ++ (wY cI cJ y0 y1 y2 y3 y4 y5 y6 y7 y8 g rm op la fo co cv ta rc ec su' pe qt rn nu th' ++ [(o0, .inl (cJ, 1, .inr (.inl u')))])) [0, 1, 2, 3, 4, 5, 6, 7, 8, 9, 11, 12, 13, 14, 15, 16, 17, 18, 19, 10] (by decide) rfl
  refine lv_istore (lv' := [(6, .int r1), (5, .int th'), (4, .int i), (3, .ref o0), (2, .ref y0), (1, .ref x0), (0, .ref b)]) hx hb dL_law_560 hl (by decide) rfl (fun ls hl => ?_)
  refine lv_aload_n hx hb dL_law_562 rfl (lv_at hl 4 rfl) ?_
  refine lz_Ti (r0 := m_X1_thrown th') (As := []) (rest := []) (wc := wY cI cJ y0 y1 y2 y3 y4 y5 y6 y7 y8 g rm op la fo co cv ta rc ec su' pe qt rn nu th') (w1 := wY cI cJ y0 y1 y2 y3 y4 y5 y6 y7 y8 g rm op la fo co cv ta rc ec su' pe qt rn nu th') (wr := wX cI cJ x0 x1 x2 x3 x4 x5 x6 x7 x8 x9 g rm op rc ec su' pe qt rs rn cs cn lc hc lg hg ++ [(o0, .inl (cJ, 1, .inr (.inl u')))]) ⟨hx, hb, hml, hown, hts⟩ (c_X1_thrown l D cI cJ y0 y1 y2 y3 y4 y5 y6 y7 y8 _ g rm op la fo co cv ta rc ec su' pe qt rn nu th') (cwV 0 hts gL_law_X1_thrown rfl rfl rfl (by decide +kernel) ⟨Nat.le_of_ble_eq_true rfl, Nat.le_of_ble_eq_true rfl⟩) hK hP hD hS hA [10, 11, 12, 13, 14, 15, 16, 17, 18] [0, 1, 2, 3, 4, 5, 6, 7, 8, 9, 19] rfl rfl (by decide) (by decide) (by decide) rfl rfl rfl rfl hl.1 rfl (lv_room (Nat.le_of_ble_eq_true rfl)) dL_law_563 hf (fun H locs hP hD hS => ?_)
  replace hP := hP.sub (ws' := wX cI cJ x0 x1 x2 x3 x4 x5 x6 x7 x8 x9 g rm op rc ec su' pe qt rs rn cs cn lc hc lg hg ++ (wY cI cJ y0 y1 y2 y3 y4 y5 y6 y7 y8 g rm op la fo co cv ta rc ec su' pe qt rn nu th' ++ [(o0, .inl (cJ, 1, .inr (.inl u')))])) [0, 1, 2, 3, 4, 5, 6, 7, 8, 9, 11, 12, 13, 14, 15, 16, 17, 18, 19, 10] rfl
  replace hD := hD.sub (ws' := wX cI cJ x0 x1 x2 x3 x4 x5 x6 x7 x8 x9 g rm op rc ec su' pe qt rs rn cs cn lc hc lg hg ++ (wY cI cJ y0 y1 y2 y3 y4 y5 y6 y7 y8 g rm op la fo co cv ta rc ec su' pe qt rn nu th' ++ [(o0, .inl (cJ, 1, .inr (.inl u')))])) [0, 1, 2, 3, 4, 5, 6, 7, 8, 9, 11, 12, 13, 14, 15, 16, 17, 18, 19, 10] (by decide) rfl
  refine lv_iload hx hb dL_law_566 (lv_at hl 1 rfl) ?_
  refine lv_icmp_eq (tgt := 573) hx hb dL_law_568 (by decide) (fun c8 => ?_) (fun c8 => ?_)
  · refine lv_iload hx hb dL_law_573 (lv_at hl 1 rfl) ?_
    refine lv_if_ne (tgt := 590) hx hb dL_law_575 (by decide) (fun c9 => ?_) (fun c9 => ?_)
    · refine lv_goto (tgt := 1563) hx hb dL_law_590 (by decide) ?_
      exact kk _ _ _ ⟨g, rm, op, rc, ec, su', pe, qt, rs, rn, cs, cn, lc, hc, lg, hg, la, fo, co, cv, ta, nu, th', u', q, R, hg8, hVO, hrc, hsu, hqt, hVR, hP, hD, hS⟩ (lv_sub hl [2, 3, 4, 5, 6] rfl)
    · refine lv_aload_n hx hb dL_law_578 rfl (lv_at hl 3 rfl) ?_
      refine lv_iconst (v := 0) hx hb dL_law_579 (by decide) ?_
      refine va_lald hx hb hK hP 19 1 rfl rfl (show ¬ ((0 : Int32) < 0 ∨ 1 ≤ Int32.toNatClampNeg 0) by decide) dL_law_580 ?_
      rw [hcmp c9]
      refine lv_iload hx hb dL_law_581 (lv_at hl 0 rfl) ?_
      refine lv_i2l (v := Int32.toInt64 r1) hx hb dL_law_583 rfl ?_
      refine lz_cmp hx hb dL_law_584 ?_
      refine lv_if_eq (tgt := 590) hx hb dL_law_585 (by decide) (fun c8 => ?_) (fun c8 => ?_)
      · refine lv_goto (tgt := 1563) hx hb dL_law_590 (by decide) ?_
        exact kk _ _ _ ⟨g, rm, op, rc, ec, su', pe, qt, rs, rn, cs, cn, lc, hc, lg, hg, la, fo, co, cv, ta, nu, th', u', q, R, hg8, hVO, hrc, hsu, hqt, hVR, hP, hD, hS⟩ (lv_sub hl [2, 3, 4, 5, 6] rfl)
      · exact (c8 rfl).elim
  · exact (c8 rfl).elim
set_option maxHeartbeats 4000000 in
set_option maxRecDepth 100000 in
theorem lz_setPeriod {p : Program} {l : Launch} {e : Env} {s : State} {m : MethodId} {below : List Frame} {meth : Method} {c : Code} {Q : State → Prop} {b L : Nat} {xs : Nat → Int32} {D : va_G} {cI cJ : ClassId} {x0 x1 x2 x3 x4 x5 x6 x7 x8 x9 y0 y1 y2 y3 y4 y5 y6 y7 y8 o0 : Nat} {i : Int32} {cells slots : Nat} {H : Heap} {locs : List Loc} {ls : Array Slot} (hx : p.tables.exec = Jvm.exec) (hb : c.code = cL_law) (hml : c.maxLocals = 7) (hown : s.vm.findClass RL = some m.cls) (hts : ∀ w ∈ wsL_law, w.before ([Value.ref b] : List Value).toArray s = true) (hX : va_X b L xs s s.heap) (hbl : b < s.heap.size) (hst : l.stackTraces = false) (hK : va_K D vwCl [(cI, .int), (cJ, .long)] s) (hT : xThrL (lz_A s) s) (hi1 : vp_in (i + 1) L) (hi2 : vp_in (i + 2) L) (hi3 : vp_in (i + 3) L) (hI : lz_I D cI cJ x0 x1 x2 x3 x4 x5 x6 x7 x8 x9 y0 y1 y2 y3 y4 y5 y6 y7 y8 o0 s H locs) (hl : lv_has ls 7 [(4, .int i), (3, .ref o0), (2, .ref y0), (1, .ref x0), (0, .ref b)]) (hf : cells + 1 ≤ room_1.cells ∧ slots + 6 ≤ room_1.slots)
    (kk : ∀ (H1 : Heap) (locs1 : List Loc) (ls1 : Array Slot), lz_I D cI cJ x0 x1 x2 x3 x4 x5 x6 x7 x8 x9 y0 y1 y2 y3 y4 y5 y6 y7 y8 o0 s H1 locs1 → lv_has ls1 7 [(4, .int i), (3, .ref o0), (2, .ref y0), (1, .ref x0), (0, .ref b)] → W p l e room_1 s m ([Value.ref b] : List Value).toArray below meth c H1 locs1 (cells + 1) (slots + 6) Q (F0 m 1563 ls1 [])) : W p l e room_1 s m ([Value.ref b] : List Value).toArray below meth c H locs cells slots Q (F0 m 593 ls []) := by
  obtain ⟨g, rm, op, rc, ec, su, pe, qt, rs, rn, cs, cn, lc, hc, lg, hg, la, fo, co, cv, ta, nu, th, u, q, R, hg8, hVO, hrc, hsu, hqt, hVR, hP, hD, hS⟩ := hI
  have hA : ∀ q, s.heap.size ≤ q → lz_A s q := fun q h9 => h9
  have hbA : ¬ lz_A s b := fun h9 => absurd hbl (Nat.not_lt.mpr h9)
  have hf0 : cells + 0 ≤ room_1.cells ∧ slots + 0 ≤ room_1.slots := ⟨Nat.le_trans (Nat.le_succ _) hf.1, Nat.le_trans (Nat.le_add_right _ _) hf.2⟩
  obtain ⟨r0, pe', r1, th', e0, e1, hoc⟩ := s_setPeriod pe th (xs (Int32.toNatClampNeg (i + 1)))
  obtain ⟨u', hres, hcmp⟩ := oc_i1 hoc u
  have hl : lv_has ls 7 [(4, .int i), (3, .ref o0), (2, .ref y0), (1, .ref x0), (0, .ref b)] := hl
  refine lv_aload_n hx hb dL_law_593 rfl (lv_at hl 3 rfl) ?_
  refine lv_aload_n hx hb dL_law_594 rfl (lv_at hl 4 rfl) ?_
  refine lv_iload hx hb dL_law_595 (lv_at hl 0 rfl) ?_
  refine lv_iconst (v := 1) hx hb dL_law_597 (by decide) ?_
  refine lv_iadd hx hb dL_law_598 ?_
  refine va_sld hx hb hX hbl hbA hS hi1 dL_law_599 ?_
  refine lv_aload_n hx hb dL_law_600 rfl (lv_at hl 1 rfl) ?_
  refine lz_Wi (r0 := th') (As := [.ref x0, .int (xs (Int32.toNatClampNeg (i + 1))), .ref o0]) (rest := []) (wc := wX cI cJ x0 x1 x2 x3 x4 x5 x6 x7 x8 x9 g rm op rc ec su pe qt rs rn cs cn lc hc lg hg ++ [(o0, .inl (cJ, 1, .inr (.inl u)))]) (w1 := wX cI cJ x0 x1 x2 x3 x4 x5 x6 x7 x8 x9 g rm op rc ec su pe' qt rs rn cs cn lc hc lg hg ++ [(o0, .inl (cJ, 1, .inr (.inl u')))]) (wr := wY cI cJ y0 y1 y2 y3 y4 y5 y6 y7 y8 g rm op la fo co cv ta rc ec su pe qt rn nu th) ⟨hx, hb, hml, hown, hts⟩ (c_L_setPeriod l hst D cI cJ x0 x1 x2 x3 x4 x5 x6 x7 x8 x9 o0 _ g rm op rc ec su pe qt rs rn cs cn lc hc lg hg u (xs (Int32.toNatClampNeg (i + 1))) r0 pe' e0 th' u' hres) (vx_cwSW 3 hts gL_law_L_setPeriod rfl rfl rfl (by decide +kernel) ⟨Nat.le_of_ble_eq_true rfl, Nat.le_of_ble_eq_true rfl⟩) hK hP hD hS hA hT [0, 1, 2, 3, 4, 5, 6, 7, 8, 9, 19] [10, 11, 12, 13, 14, 15, 16, 17, 18] rfl rfl (by decide) (by decide) (by decide) rfl rfl hl.1 rfl (lv_room (Nat.le_of_ble_eq_true rfl)) dL_law_601 hf (fun H locs hP hD hS => ?_)
  replace hP := hP.sub (ws' := wX cI cJ x0 x1 x2 x3 x4 x5 x6 x7 x8 x9 g rm op rc ec su pe' qt rs rn cs cn lc hc lg hg ++ (wY cI cJ y0 y1 y2 y3 y4 y5 y6 y7 y8 g rm op la fo co cv ta rc ec su pe qt rn nu th ++ [(o0, .inl (cJ, 1, .inr (.inl u')))])) [9, 10, 11, 12, 13, 14, 15, 16, 17, 18, 0, 1, 2, 3, 4, 5, 6, 7, 8, 19] rfl
  replace hD := hD.sub (ws' := wX cI cJ x0 x1 x2 x3 x4 x5 x6 x7 x8 x9 g rm op rc ec su pe' qt rs rn cs cn lc hc lg hg ++ (wY cI cJ y0 y1 y2 y3 y4 y5 y6 y7 y8 g rm op la fo co cv ta rc ec su pe qt rn nu th ++ [(o0, .inl (cJ, 1, .inr (.inl u')))])) [9, 10, 11, 12, 13, 14, 15, 16, 17, 18, 0, 1, 2, 3, 4, 5, 6, 7, 8, 19] (by decide) rfl
  refine lv_istore (lv' := [(5, .int th'), (4, .int i), (3, .ref o0), (2, .ref y0), (1, .ref x0), (0, .ref b)]) hx hb dL_law_604 hl (by decide) rfl (fun ls hl => ?_)
  refine lv_aload_n hx hb dL_law_606 rfl (lv_at hl 3 rfl) ?_
  refine lv_aload_n hx hb dL_law_607 rfl (lv_at hl 5 rfl) ?_
  refine lv_iload hx hb dL_law_608 (lv_at hl 1 rfl) ?_
  refine lv_iconst (v := 1) hx hb dL_law_610 (by decide) ?_
  refine lv_iadd hx hb dL_law_611 ?_
  refine va_sld hx hb hX hbl hbA hS hi1 dL_law_612 ?_
  refine lz_Ti (r0 := r1) (As := [.int (xs (Int32.toNatClampNeg (i + 1)))]) (rest := []) (wc := wY cI cJ y0 y1 y2 y3 y4 y5 y6 y7 y8 g rm op la fo co cv ta rc ec su pe qt rn nu th) (w1 := wY cI cJ y0 y1 y2 y3 y4 y5 y6 y7 y8 g rm op la fo co cv ta rc ec su pe' qt rn nu th') (wr := wX cI cJ x0 x1 x2 x3 x4 x5 x6 x7 x8 x9 g rm op rc ec su pe' qt rs rn cs cn lc hc lg hg ++ [(o0, .inl (cJ, 1, .inr (.inl u')))]) ⟨hx, hb, hml, hown, hts⟩ (c_X1_setPeriod l D cI cJ y0 y1 y2 y3 y4 y5 y6 y7 y8 _ g rm op la fo co cv ta rc ec su pe qt rn nu th (xs (Int32.toNatClampNeg (i + 1))) r1 pe' th' e1) (cwV 1 hts gL_law_X1_setPeriod rfl rfl rfl (by decide +kernel) ⟨Nat.le_of_ble_eq_true rfl, Nat.le_of_ble_eq_true rfl⟩) hK hP hD hS hA [10, 11, 12, 13, 14, 15, 16, 17, 18] [0, 1, 2, 3, 4, 5, 6, 7, 8, 9, 19] rfl rfl (by decide) (by decide) (by decide) rfl rfl rfl rfl hl.1 rfl (lv_room (Nat.le_of_ble_eq_true rfl)) dL_law_613 hf (fun H locs hP hD hS => ?_)
  replace hP := hP.sub (ws' := wX cI cJ x0 x1 x2 x3 x4 x5 x6 x7 x8 x9 g rm op rc ec su pe' qt rs rn cs cn lc hc lg hg ++ (wY cI cJ y0 y1 y2 y3 y4 y5 y6 y7 y8 g rm op la fo co cv ta rc ec su pe' qt rn nu th' ++ [(o0, .inl (cJ, 1, .inr (.inl u')))])) [0, 1, 2, 3, 4, 5, 6, 7, 8, 9, 11, 12, 13, 14, 15, 16, 17, 18, 19, 10] rfl
  replace hD := hD.sub (ws' := wX cI cJ x0 x1 x2 x3 x4 x5 x6 x7 x8 x9 g rm op rc ec su pe' qt rs rn cs cn lc hc lg hg ++ (wY cI cJ y0 y1 y2 y3 y4 y5 y6 y7 y8 g rm op la fo co cv ta rc ec su pe' qt rn nu th' ++ [(o0, .inl (cJ, 1, .inr (.inl u')))])) [0, 1, 2, 3, 4, 5, 6, 7, 8, 9, 11, 12, 13, 14, 15, 16, 17, 18, 19, 10] (by decide) rfl
  refine lv_istore (lv' := [(6, .int r1), (5, .int th'), (4, .int i), (3, .ref o0), (2, .ref y0), (1, .ref x0), (0, .ref b)]) hx hb dL_law_616 hl (by decide) rfl (fun ls hl => ?_)
  refine lv_aload_n hx hb dL_law_618 rfl (lv_at hl 4 rfl) ?_
  refine lz_Ti (r0 := m_X1_thrown th') (As := []) (rest := []) (wc := wY cI cJ y0 y1 y2 y3 y4 y5 y6 y7 y8 g rm op la fo co cv ta rc ec su pe' qt rn nu th') (w1 := wY cI cJ y0 y1 y2 y3 y4 y5 y6 y7 y8 g rm op la fo co cv ta rc ec su pe' qt rn nu th') (wr := wX cI cJ x0 x1 x2 x3 x4 x5 x6 x7 x8 x9 g rm op rc ec su pe' qt rs rn cs cn lc hc lg hg ++ [(o0, .inl (cJ, 1, .inr (.inl u')))]) ⟨hx, hb, hml, hown, hts⟩ (c_X1_thrown l D cI cJ y0 y1 y2 y3 y4 y5 y6 y7 y8 _ g rm op la fo co cv ta rc ec su pe' qt rn nu th') (cwV 0 hts gL_law_X1_thrown rfl rfl rfl (by decide +kernel) ⟨Nat.le_of_ble_eq_true rfl, Nat.le_of_ble_eq_true rfl⟩) hK hP hD hS hA [10, 11, 12, 13, 14, 15, 16, 17, 18] [0, 1, 2, 3, 4, 5, 6, 7, 8, 9, 19] rfl rfl (by decide) (by decide) (by decide) rfl rfl rfl rfl hl.1 rfl (lv_room (Nat.le_of_ble_eq_true rfl)) dL_law_619 hf (fun H locs hP hD hS => ?_)
  replace hP := hP.sub (ws' := wX cI cJ x0 x1 x2 x3 x4 x5 x6 x7 x8 x9 g rm op rc ec su pe' qt rs rn cs cn lc hc lg hg ++ (wY cI cJ y0 y1 y2 y3 y4 y5 y6 y7 y8 g rm op la fo co cv ta rc ec su pe' qt rn nu th' ++ [(o0, .inl (cJ, 1, .inr (.inl u')))])) [0, 1, 2, 3, 4, 5, 6, 7, 8, 9, 11, 12, 13, 14, 15, 16, 17, 18, 19, 10] rfl
  replace hD := hD.sub (ws' := wX cI cJ x0 x1 x2 x3 x4 x5 x6 x7 x8 x9 g rm op rc ec su pe' qt rs rn cs cn lc hc lg hg ++ (wY cI cJ y0 y1 y2 y3 y4 y5 y6 y7 y8 g rm op la fo co cv ta rc ec su pe' qt rn nu th' ++ [(o0, .inl (cJ, 1, .inr (.inl u')))])) [0, 1, 2, 3, 4, 5, 6, 7, 8, 9, 11, 12, 13, 14, 15, 16, 17, 18, 19, 10] (by decide) rfl
  refine lv_iload hx hb dL_law_622 (lv_at hl 1 rfl) ?_
  refine lv_icmp_eq (tgt := 629) hx hb dL_law_624 (by decide) (fun c8 => ?_) (fun c8 => ?_)
  · refine lv_iload hx hb dL_law_629 (lv_at hl 1 rfl) ?_
    refine lv_if_ne (tgt := 646) hx hb dL_law_631 (by decide) (fun c9 => ?_) (fun c9 => ?_)
    · refine lv_goto (tgt := 1563) hx hb dL_law_646 (by decide) ?_
      exact kk _ _ _ ⟨g, rm, op, rc, ec, su, pe', qt, rs, rn, cs, cn, lc, hc, lg, hg, la, fo, co, cv, ta, nu, th', u', q, R, hg8, hVO, hrc, hsu, hqt, hVR, hP, hD, hS⟩ (lv_sub hl [2, 3, 4, 5, 6] rfl)
    · refine lv_aload_n hx hb dL_law_634 rfl (lv_at hl 3 rfl) ?_
      refine lv_iconst (v := 0) hx hb dL_law_635 (by decide) ?_
      refine va_lald hx hb hK hP 19 1 rfl rfl (show ¬ ((0 : Int32) < 0 ∨ 1 ≤ Int32.toNatClampNeg 0) by decide) dL_law_636 ?_
      rw [hcmp c9]
      refine lv_iload hx hb dL_law_637 (lv_at hl 0 rfl) ?_
      refine lv_i2l (v := Int32.toInt64 r1) hx hb dL_law_639 rfl ?_
      refine lz_cmp hx hb dL_law_640 ?_
      refine lv_if_eq (tgt := 646) hx hb dL_law_641 (by decide) (fun c8 => ?_) (fun c8 => ?_)
      · refine lv_goto (tgt := 1563) hx hb dL_law_646 (by decide) ?_
        exact kk _ _ _ ⟨g, rm, op, rc, ec, su, pe', qt, rs, rn, cs, cn, lc, hc, lg, hg, la, fo, co, cv, ta, nu, th', u', q, R, hg8, hVO, hrc, hsu, hqt, hVR, hP, hD, hS⟩ (lv_sub hl [2, 3, 4, 5, 6] rfl)
      · exact (c8 rfl).elim
  · exact (c8 rfl).elim
set_option maxHeartbeats 4000000 in
set_option maxRecDepth 100000 in
theorem lz_review {p : Program} {l : Launch} {e : Env} {s : State} {m : MethodId} {below : List Frame} {meth : Method} {c : Code} {Q : State → Prop} {b L : Nat} {xs : Nat → Int32} {D : va_G} {cI cJ : ClassId} {x0 x1 x2 x3 x4 x5 x6 x7 x8 x9 y0 y1 y2 y3 y4 y5 y6 y7 y8 o0 : Nat} {i : Int32} {cells slots : Nat} {H : Heap} {locs : List Loc} {ls : Array Slot} (hx : p.tables.exec = Jvm.exec) (hb : c.code = cL_law) (hml : c.maxLocals = 7) (hown : s.vm.findClass RL = some m.cls) (hts : ∀ w ∈ wsL_law, w.before ([Value.ref b] : List Value).toArray s = true) (hX : va_X b L xs s s.heap) (hbl : b < s.heap.size) (hst : l.stackTraces = false) (hK : va_K D vwCl [(cI, .int), (cJ, .long)] s) (hT : xThrL (lz_A s) s) (hi1 : vp_in (i + 1) L) (hi2 : vp_in (i + 2) L) (hi3 : vp_in (i + 3) L) (hI : lz_I D cI cJ x0 x1 x2 x3 x4 x5 x6 x7 x8 x9 y0 y1 y2 y3 y4 y5 y6 y7 y8 o0 s H locs) (hl : lv_has ls 7 [(4, .int i), (3, .ref o0), (2, .ref y0), (1, .ref x0), (0, .ref b)]) (hf : cells + 1 ≤ room_1.cells ∧ slots + 6 ≤ room_1.slots)
    (kk : ∀ (H1 : Heap) (locs1 : List Loc) (ls1 : Array Slot), lz_I D cI cJ x0 x1 x2 x3 x4 x5 x6 x7 x8 x9 y0 y1 y2 y3 y4 y5 y6 y7 y8 o0 s H1 locs1 → lv_has ls1 7 [(4, .int i), (3, .ref o0), (2, .ref y0), (1, .ref x0), (0, .ref b)] → W p l e room_1 s m ([Value.ref b] : List Value).toArray below meth c H1 locs1 (cells + 1) (slots + 6) Q (F0 m 1563 ls1 [])) : W p l e room_1 s m ([Value.ref b] : List Value).toArray below meth c H locs cells slots Q (F0 m 649 ls []) := by
  obtain ⟨g, rm, op, rc, ec, su, pe, qt, rs, rn, cs, cn, lc, hc, lg, hg, la, fo, co, cv, ta, nu, th, u, q, R, hg8, hVO, hrc, hsu, hqt, hVR, hP, hD, hS⟩ := hI
  have hA : ∀ q, s.heap.size ≤ q → lz_A s q := fun q h9 => h9
  have hbA : ¬ lz_A s b := fun h9 => absurd hbl (Nat.not_lt.mpr h9)
  have hf0 : cells + 0 ≤ room_1.cells ∧ slots + 0 ≤ room_1.slots := ⟨Nat.le_trans (Nat.le_succ _) hf.1, Nat.le_trans (Nat.le_add_right _ _) hf.2⟩
  obtain ⟨r0, rm', r1, th', e0, e1, hoc⟩ := s_review hg8 rm qt th (xs (Int32.toNatClampNeg (i + 1))) (xs (Int32.toNatClampNeg (i + 2)))
  obtain ⟨u', hres, hcmp⟩ := oc_i2 hoc u
  have hl : lv_has ls 7 [(4, .int i), (3, .ref o0), (2, .ref y0), (1, .ref x0), (0, .ref b)] := hl
  refine lv_aload_n hx hb dL_law_649 rfl (lv_at hl 3 rfl) ?_
  refine lv_aload_n hx hb dL_law_650 rfl (lv_at hl 4 rfl) ?_
  refine lv_iload hx hb dL_law_651 (lv_at hl 0 rfl) ?_
  refine lv_iconst (v := 1) hx hb dL_law_653 (by decide) ?_
  refine lv_iadd hx hb dL_law_654 ?_
  refine va_sld hx hb hX hbl hbA hS hi1 dL_law_655 ?_
  refine lv_aload_n hx hb dL_law_656 rfl (lv_at hl 4 rfl) ?_
  refine lv_iload hx hb dL_law_657 (lv_at hl 0 rfl) ?_
  refine lv_iconst (v := 2) hx hb dL_law_659 (by decide) ?_
  refine lv_iadd hx hb dL_law_660 ?_
  refine va_sld hx hb hX hbl hbA hS hi2 dL_law_661 ?_
  refine lv_aload_n hx hb dL_law_662 rfl (lv_at hl 1 rfl) ?_
  refine lz_Wi (r0 := th') (As := [.ref x0, .int (xs (Int32.toNatClampNeg (i + 1))), .int (xs (Int32.toNatClampNeg (i + 2))), .ref o0]) (rest := []) (wc := wX cI cJ x0 x1 x2 x3 x4 x5 x6 x7 x8 x9 g rm op rc ec su pe qt rs rn cs cn lc hc lg hg ++ [(o0, .inl (cJ, 1, .inr (.inl u)))]) (w1 := wX cI cJ x0 x1 x2 x3 x4 x5 x6 x7 x8 x9 g rm' op rc ec su pe qt rs rn cs cn lc hc lg hg ++ [(o0, .inl (cJ, 1, .inr (.inl u')))]) (wr := wY cI cJ y0 y1 y2 y3 y4 y5 y6 y7 y8 g rm op la fo co cv ta rc ec su pe qt rn nu th) ⟨hx, hb, hml, hown, hts⟩ (c_L_review l hst D cI cJ x0 x1 x2 x3 x4 x5 x6 x7 x8 x9 o0 _ g rm op rc ec su pe qt rs rn cs cn lc hc lg hg u (xs (Int32.toNatClampNeg (i + 1))) (xs (Int32.toNatClampNeg (i + 2))) r0 rm' e0 th' u' hres) (vx_cwSW 4 hts gL_law_L_review rfl rfl rfl (by decide +kernel) ⟨Nat.le_of_ble_eq_true rfl, Nat.le_of_ble_eq_true rfl⟩) hK hP hD hS hA hT [0, 1, 2, 3, 4, 5, 6, 7, 8, 9, 19] [10, 11, 12, 13, 14, 15, 16, 17, 18] rfl rfl (by decide) (by decide) (by decide) rfl rfl hl.1 rfl (lv_room (Nat.le_of_ble_eq_true rfl)) dL_law_663 hf (fun H locs hP hD hS => ?_)
  replace hP := hP.sub (ws' := wX cI cJ x0 x1 x2 x3 x4 x5 x6 x7 x8 x9 g rm' op rc ec su pe qt rs rn cs cn lc hc lg hg ++ (wY cI cJ y0 y1 y2 y3 y4 y5 y6 y7 y8 g rm op la fo co cv ta rc ec su pe qt rn nu th ++ [(o0, .inl (cJ, 1, .inr (.inl u')))])) [9, 10, 11, 12, 13, 14, 15, 16, 17, 18, 0, 1, 2, 3, 4, 5, 6, 7, 8, 19] rfl
  replace hD := hD.sub (ws' := wX cI cJ x0 x1 x2 x3 x4 x5 x6 x7 x8 x9 g rm' op rc ec su pe qt rs rn cs cn lc hc lg hg ++ (wY cI cJ y0 y1 y2 y3 y4 y5 y6 y7 y8 g rm op la fo co cv ta rc ec su pe qt rn nu th ++ [(o0, .inl (cJ, 1, .inr (.inl u')))])) [9, 10, 11, 12, 13, 14, 15, 16, 17, 18, 0, 1, 2, 3, 4, 5, 6, 7, 8, 19] (by decide) rfl
  refine lv_istore (lv' := [(5, .int th'), (4, .int i), (3, .ref o0), (2, .ref y0), (1, .ref x0), (0, .ref b)]) hx hb dL_law_666 hl (by decide) rfl (fun ls hl => ?_)
  refine lv_aload_n hx hb dL_law_668 rfl (lv_at hl 3 rfl) ?_
  refine lv_aload_n hx hb dL_law_669 rfl (lv_at hl 5 rfl) ?_
  refine lv_iload hx hb dL_law_670 (lv_at hl 1 rfl) ?_
  refine lv_iconst (v := 1) hx hb dL_law_672 (by decide) ?_
  refine lv_iadd hx hb dL_law_673 ?_
  refine va_sld hx hb hX hbl hbA hS hi1 dL_law_674 ?_
  refine lv_aload_n hx hb dL_law_675 rfl (lv_at hl 5 rfl) ?_
  refine lv_iload hx hb dL_law_676 (lv_at hl 1 rfl) ?_
  refine lv_iconst (v := 2) hx hb dL_law_678 (by decide) ?_
  refine lv_iadd hx hb dL_law_679 ?_
  refine va_sld hx hb hX hbl hbA hS hi2 dL_law_680 ?_
  refine lz_Ti (r0 := r1) (As := [.int (xs (Int32.toNatClampNeg (i + 1))), .int (xs (Int32.toNatClampNeg (i + 2)))]) (rest := []) (wc := wY cI cJ y0 y1 y2 y3 y4 y5 y6 y7 y8 g rm op la fo co cv ta rc ec su pe qt rn nu th) (w1 := wY cI cJ y0 y1 y2 y3 y4 y5 y6 y7 y8 g rm' op la fo co cv ta rc ec su pe qt rn nu th') (wr := wX cI cJ x0 x1 x2 x3 x4 x5 x6 x7 x8 x9 g rm' op rc ec su pe qt rs rn cs cn lc hc lg hg ++ [(o0, .inl (cJ, 1, .inr (.inl u')))]) ⟨hx, hb, hml, hown, hts⟩ (c_X1_review l D cI cJ y0 y1 y2 y3 y4 y5 y6 y7 y8 _ g rm op la fo co cv ta rc ec su pe qt rn nu th (xs (Int32.toNatClampNeg (i + 1))) (xs (Int32.toNatClampNeg (i + 2))) r1 rm' th' e1) (cwV 2 hts gL_law_X1_review rfl rfl rfl (by decide +kernel) ⟨Nat.le_of_ble_eq_true rfl, Nat.le_of_ble_eq_true rfl⟩) hK hP hD hS hA [10, 11, 12, 13, 14, 15, 16, 17, 18] [0, 1, 2, 3, 4, 5, 6, 7, 8, 9, 19] rfl rfl (by decide) (by decide) (by decide) rfl rfl rfl rfl hl.1 rfl (lv_room (Nat.le_of_ble_eq_true rfl)) dL_law_681 hf (fun H locs hP hD hS => ?_)
  replace hP := hP.sub (ws' := wX cI cJ x0 x1 x2 x3 x4 x5 x6 x7 x8 x9 g rm' op rc ec su pe qt rs rn cs cn lc hc lg hg ++ (wY cI cJ y0 y1 y2 y3 y4 y5 y6 y7 y8 g rm' op la fo co cv ta rc ec su pe qt rn nu th' ++ [(o0, .inl (cJ, 1, .inr (.inl u')))])) [0, 1, 2, 3, 4, 5, 6, 7, 8, 9, 11, 12, 13, 14, 15, 16, 17, 18, 19, 10] rfl
  replace hD := hD.sub (ws' := wX cI cJ x0 x1 x2 x3 x4 x5 x6 x7 x8 x9 g rm' op rc ec su pe qt rs rn cs cn lc hc lg hg ++ (wY cI cJ y0 y1 y2 y3 y4 y5 y6 y7 y8 g rm' op la fo co cv ta rc ec su pe qt rn nu th' ++ [(o0, .inl (cJ, 1, .inr (.inl u')))])) [0, 1, 2, 3, 4, 5, 6, 7, 8, 9, 11, 12, 13, 14, 15, 16, 17, 18, 19, 10] (by decide) rfl
  refine lv_istore (lv' := [(6, .int r1), (5, .int th'), (4, .int i), (3, .ref o0), (2, .ref y0), (1, .ref x0), (0, .ref b)]) hx hb dL_law_684 hl (by decide) rfl (fun ls hl => ?_)
  refine lv_aload_n hx hb dL_law_686 rfl (lv_at hl 4 rfl) ?_
  refine lz_Ti (r0 := m_X1_thrown th') (As := []) (rest := []) (wc := wY cI cJ y0 y1 y2 y3 y4 y5 y6 y7 y8 g rm' op la fo co cv ta rc ec su pe qt rn nu th') (w1 := wY cI cJ y0 y1 y2 y3 y4 y5 y6 y7 y8 g rm' op la fo co cv ta rc ec su pe qt rn nu th') (wr := wX cI cJ x0 x1 x2 x3 x4 x5 x6 x7 x8 x9 g rm' op rc ec su pe qt rs rn cs cn lc hc lg hg ++ [(o0, .inl (cJ, 1, .inr (.inl u')))]) ⟨hx, hb, hml, hown, hts⟩ (c_X1_thrown l D cI cJ y0 y1 y2 y3 y4 y5 y6 y7 y8 _ g rm' op la fo co cv ta rc ec su pe qt rn nu th') (cwV 0 hts gL_law_X1_thrown rfl rfl rfl (by decide +kernel) ⟨Nat.le_of_ble_eq_true rfl, Nat.le_of_ble_eq_true rfl⟩) hK hP hD hS hA [10, 11, 12, 13, 14, 15, 16, 17, 18] [0, 1, 2, 3, 4, 5, 6, 7, 8, 9, 19] rfl rfl (by decide) (by decide) (by decide) rfl rfl rfl rfl hl.1 rfl (lv_room (Nat.le_of_ble_eq_true rfl)) dL_law_687 hf (fun H locs hP hD hS => ?_)
  replace hP := hP.sub (ws' := wX cI cJ x0 x1 x2 x3 x4 x5 x6 x7 x8 x9 g rm' op rc ec su pe qt rs rn cs cn lc hc lg hg ++ (wY cI cJ y0 y1 y2 y3 y4 y5 y6 y7 y8 g rm' op la fo co cv ta rc ec su pe qt rn nu th' ++ [(o0, .inl (cJ, 1, .inr (.inl u')))])) [0, 1, 2, 3, 4, 5, 6, 7, 8, 9, 11, 12, 13, 14, 15, 16, 17, 18, 19, 10] rfl
  replace hD := hD.sub (ws' := wX cI cJ x0 x1 x2 x3 x4 x5 x6 x7 x8 x9 g rm' op rc ec su pe qt rs rn cs cn lc hc lg hg ++ (wY cI cJ y0 y1 y2 y3 y4 y5 y6 y7 y8 g rm' op la fo co cv ta rc ec su pe qt rn nu th' ++ [(o0, .inl (cJ, 1, .inr (.inl u')))])) [0, 1, 2, 3, 4, 5, 6, 7, 8, 9, 11, 12, 13, 14, 15, 16, 17, 18, 19, 10] (by decide) rfl
  refine lv_iload hx hb dL_law_690 (lv_at hl 1 rfl) ?_
  refine lv_icmp_eq (tgt := 697) hx hb dL_law_692 (by decide) (fun c8 => ?_) (fun c8 => ?_)
  · refine lv_iload hx hb dL_law_697 (lv_at hl 1 rfl) ?_
    refine lv_if_ne (tgt := 714) hx hb dL_law_699 (by decide) (fun c9 => ?_) (fun c9 => ?_)
    · refine lv_goto (tgt := 1563) hx hb dL_law_714 (by decide) ?_
      exact kk _ _ _ ⟨g, rm', op, rc, ec, su, pe, qt, rs, rn, cs, cn, lc, hc, lg, hg, la, fo, co, cv, ta, nu, th', u', q, R, hg8, hVO, hrc, hsu, hqt, hVR, hP, hD, hS⟩ (lv_sub hl [2, 3, 4, 5, 6] rfl)
    · refine lv_aload_n hx hb dL_law_702 rfl (lv_at hl 3 rfl) ?_
      refine lv_iconst (v := 0) hx hb dL_law_703 (by decide) ?_
      refine va_lald hx hb hK hP 19 1 rfl rfl (show ¬ ((0 : Int32) < 0 ∨ 1 ≤ Int32.toNatClampNeg 0) by decide) dL_law_704 ?_
      rw [hcmp c9]
      refine lv_iload hx hb dL_law_705 (lv_at hl 0 rfl) ?_
      refine lv_i2l (v := Int32.toInt64 r1) hx hb dL_law_707 rfl ?_
      refine lz_cmp hx hb dL_law_708 ?_
      refine lv_if_eq (tgt := 714) hx hb dL_law_709 (by decide) (fun c8 => ?_) (fun c8 => ?_)
      · refine lv_goto (tgt := 1563) hx hb dL_law_714 (by decide) ?_
        exact kk _ _ _ ⟨g, rm', op, rc, ec, su, pe, qt, rs, rn, cs, cn, lc, hc, lg, hg, la, fo, co, cv, ta, nu, th', u', q, R, hg8, hVO, hrc, hsu, hqt, hVR, hP, hD, hS⟩ (lv_sub hl [2, 3, 4, 5, 6] rfl)
      · exact (c8 rfl).elim
  · exact (c8 rfl).elim
set_option maxHeartbeats 4000000 in
set_option maxRecDepth 100000 in
theorem lz_nextQuarter {p : Program} {l : Launch} {e : Env} {s : State} {m : MethodId} {below : List Frame} {meth : Method} {c : Code} {Q : State → Prop} {b L : Nat} {xs : Nat → Int32} {D : va_G} {cI cJ : ClassId} {x0 x1 x2 x3 x4 x5 x6 x7 x8 x9 y0 y1 y2 y3 y4 y5 y6 y7 y8 o0 : Nat} {i : Int32} {cells slots : Nat} {H : Heap} {locs : List Loc} {ls : Array Slot} (hx : p.tables.exec = Jvm.exec) (hb : c.code = cL_law) (hml : c.maxLocals = 7) (hown : s.vm.findClass RL = some m.cls) (hts : ∀ w ∈ wsL_law, w.before ([Value.ref b] : List Value).toArray s = true) (hX : va_X b L xs s s.heap) (hbl : b < s.heap.size) (hst : l.stackTraces = false) (hK : va_K D vwCl [(cI, .int), (cJ, .long)] s) (hT : xThrL (lz_A s) s) (hi1 : vp_in (i + 1) L) (hi2 : vp_in (i + 2) L) (hi3 : vp_in (i + 3) L) (hI : lz_I D cI cJ x0 x1 x2 x3 x4 x5 x6 x7 x8 x9 y0 y1 y2 y3 y4 y5 y6 y7 y8 o0 s H locs) (hl : lv_has ls 7 [(4, .int i), (3, .ref o0), (2, .ref y0), (1, .ref x0), (0, .ref b)]) (hf : cells + 1 ≤ room_1.cells ∧ slots + 6 ≤ room_1.slots)
    (kk : ∀ (H1 : Heap) (locs1 : List Loc) (ls1 : Array Slot), lz_I D cI cJ x0 x1 x2 x3 x4 x5 x6 x7 x8 x9 y0 y1 y2 y3 y4 y5 y6 y7 y8 o0 s H1 locs1 → lv_has ls1 7 [(4, .int i), (3, .ref o0), (2, .ref y0), (1, .ref x0), (0, .ref b)] → W p l e room_1 s m ([Value.ref b] : List Value).toArray below meth c H1 locs1 (cells + 1) (slots + 6) Q (F0 m 1563 ls1 [])) : W p l e room_1 s m ([Value.ref b] : List Value).toArray below meth c H locs cells slots Q (F0 m 717 ls []) := by
  obtain ⟨g, rm, op, rc, ec, su, pe, qt, rs, rn, cs, cn, lc, hc, lg, hg, la, fo, co, cv, ta, nu, th, u, q, R, hg8, hVO, hrc, hsu, hqt, hVR, hP, hD, hS⟩ := hI
  have hA : ∀ q, s.heap.size ≤ q → lz_A s q := fun q h9 => h9
  have hbA : ¬ lz_A s b := fun h9 => absurd hbl (Nat.not_lt.mpr h9)
  have hf0 : cells + 0 ≤ room_1.cells ∧ slots + 0 ≤ room_1.slots := ⟨Nat.le_trans (Nat.le_succ _) hf.1, Nat.le_trans (Nat.le_add_right _ _) hf.2⟩
  obtain ⟨r0, g', qt', r1, th', e0, e1, hg8, hqt, hoc⟩ := s_nextQuarter hg8 rm pe qt th hqt (fu := 100000) (by omega)
  obtain ⟨u', hres, hcmp⟩ := oc_i1 hoc u
  have hl : lv_has ls 7 [(4, .int i), (3, .ref o0), (2, .ref y0), (1, .ref x0), (0, .ref b)] := hl
  refine lv_aload_n hx hb dL_law_717 rfl (lv_at hl 3 rfl) ?_
  refine lv_aload_n hx hb dL_law_718 rfl (lv_at hl 1 rfl) ?_
  refine lz_Wi (r0 := th') (As := [.ref x0, .ref o0]) (rest := []) (wc := wX cI cJ x0 x1 x2 x3 x4 x5 x6 x7 x8 x9 g rm op rc ec su pe qt rs rn cs cn lc hc lg hg ++ [(o0, .inl (cJ, 1, .inr (.inl u)))]) (w1 := wX cI cJ x0 x1 x2 x3 x4 x5 x6 x7 x8 x9 g' rm op rc ec su pe qt' rs rn cs cn lc hc lg hg ++ [(o0, .inl (cJ, 1, .inr (.inl u')))]) (wr := wY cI cJ y0 y1 y2 y3 y4 y5 y6 y7 y8 g rm op la fo co cv ta rc ec su pe qt rn nu th) ⟨hx, hb, hml, hown, hts⟩ (c_L_nextQuarter l hst D cI cJ x0 x1 x2 x3 x4 x5 x6 x7 x8 x9 o0 _ g rm op rc ec su pe qt rs rn cs cn lc hc lg hg u 100000  r0 g' qt' e0 th' u' hres) (vx_cwSW 2 hts gL_law_L_nextQuarter rfl rfl rfl (by decide +kernel) ⟨Nat.le_of_ble_eq_true rfl, Nat.le_of_ble_eq_true rfl⟩) hK hP hD hS hA hT [0, 1, 2, 3, 4, 5, 6, 7, 8, 9, 19] [10, 11, 12, 13, 14, 15, 16, 17, 18] rfl rfl (by decide) (by decide) (by decide) rfl rfl hl.1 rfl (lv_room (Nat.le_of_ble_eq_true rfl)) dL_law_719 hf (fun H locs hP hD hS => ?_)
  replace hP := hP.sub (ws' := wX cI cJ x0 x1 x2 x3 x4 x5 x6 x7 x8 x9 g' rm op rc ec su pe qt' rs rn cs cn lc hc lg hg ++ (wY cI cJ y0 y1 y2 y3 y4 y5 y6 y7 y8 g rm op la fo co cv ta rc ec su pe qt rn nu th ++ [(o0, .inl (cJ, 1, .inr (.inl u')))])) [9, 10, 11, 12, 13, 14, 15, 16, 17, 18, 0, 1, 2, 3, 4, 5, 6, 7, 8, 19] rfl
  replace hD := hD.sub (ws' := wX cI cJ x0 x1 x2 x3 x4 x5 x6 x7 x8 x9 g' rm op rc ec su pe qt' rs rn cs cn lc hc lg hg ++ (wY cI cJ y0 y1 y2 y3 y4 y5 y6 y7 y8 g rm op la fo co cv ta rc ec su pe qt rn nu th ++ [(o0, .inl (cJ, 1, .inr (.inl u')))])) [9, 10, 11, 12, 13, 14, 15, 16, 17, 18, 0, 1, 2, 3, 4, 5, 6, 7, 8, 19] (by decide) rfl
  refine lv_istore (lv' := [(5, .int th'), (4, .int i), (3, .ref o0), (2, .ref y0), (1, .ref x0), (0, .ref b)]) hx hb dL_law_722 hl (by decide) rfl (fun ls hl => ?_)
  refine lv_aload_n hx hb dL_law_724 rfl (lv_at hl 3 rfl) ?_
  refine lz_Ti (r0 := r1) (As := []) (rest := []) (wc := wY cI cJ y0 y1 y2 y3 y4 y5 y6 y7 y8 g rm op la fo co cv ta rc ec su pe qt rn nu th) (w1 := wY cI cJ y0 y1 y2 y3 y4 y5 y6 y7 y8 g' rm op la fo co cv ta rc ec su pe qt' rn nu th') (wr := wX cI cJ x0 x1 x2 x3 x4 x5 x6 x7 x8 x9 g' rm op rc ec su pe qt' rs rn cs cn lc hc lg hg ++ [(o0, .inl (cJ, 1, .inr (.inl u')))]) ⟨hx, hb, hml, hown, hts⟩ (c_X1_nextQuarter l D cI cJ y0 y1 y2 y3 y4 y5 y6 y7 y8 _ g rm op la fo co cv ta rc ec su pe qt rn nu th 100000  r1 g' qt' th' e1) (cwV 0 hts gL_law_X1_nextQuarter rfl rfl rfl (by decide +kernel) ⟨Nat.le_of_ble_eq_true rfl, Nat.le_of_ble_eq_true rfl⟩) hK hP hD hS hA [10, 11, 12, 13, 14, 15, 16, 17, 18] [0, 1, 2, 3, 4, 5, 6, 7, 8, 9, 19] rfl rfl (by decide) (by decide) (by decide) rfl rfl rfl rfl hl.1 rfl (lv_room (Nat.le_of_ble_eq_true rfl)) dL_law_725 hf (fun H locs hP hD hS => ?_)
  replace hP := hP.sub (ws' := wX cI cJ x0 x1 x2 x3 x4 x5 x6 x7 x8 x9 g' rm op rc ec su pe qt' rs rn cs cn lc hc lg hg ++ (wY cI cJ y0 y1 y2 y3 y4 y5 y6 y7 y8 g' rm op la fo co cv ta rc ec su pe qt' rn nu th' ++ [(o0, .inl (cJ, 1, .inr (.inl u')))])) [0, 1, 2, 3, 4, 5, 6, 7, 8, 9, 11, 12, 13, 14, 15, 16, 17, 18, 19, 10] rfl
  replace hD := hD.sub (ws' := wX cI cJ x0 x1 x2 x3 x4 x5 x6 x7 x8 x9 g' rm op rc ec su pe qt' rs rn cs cn lc hc lg hg ++ (wY cI cJ y0 y1 y2 y3 y4 y5 y6 y7 y8 g' rm op la fo co cv ta rc ec su pe qt' rn nu th' ++ [(o0, .inl (cJ, 1, .inr (.inl u')))])) [0, 1, 2, 3, 4, 5, 6, 7, 8, 9, 11, 12, 13, 14, 15, 16, 17, 18, 19, 10] (by decide) rfl
  refine lv_istore (lv' := [(6, .int r1), (5, .int th'), (4, .int i), (3, .ref o0), (2, .ref y0), (1, .ref x0), (0, .ref b)]) hx hb dL_law_728 hl (by decide) rfl (fun ls hl => ?_)
  refine lv_aload_n hx hb dL_law_730 rfl (lv_at hl 4 rfl) ?_
  refine lz_Ti (r0 := m_X1_thrown th') (As := []) (rest := []) (wc := wY cI cJ y0 y1 y2 y3 y4 y5 y6 y7 y8 g' rm op la fo co cv ta rc ec su pe qt' rn nu th') (w1 := wY cI cJ y0 y1 y2 y3 y4 y5 y6 y7 y8 g' rm op la fo co cv ta rc ec su pe qt' rn nu th') (wr := wX cI cJ x0 x1 x2 x3 x4 x5 x6 x7 x8 x9 g' rm op rc ec su pe qt' rs rn cs cn lc hc lg hg ++ [(o0, .inl (cJ, 1, .inr (.inl u')))]) ⟨hx, hb, hml, hown, hts⟩ (c_X1_thrown l D cI cJ y0 y1 y2 y3 y4 y5 y6 y7 y8 _ g' rm op la fo co cv ta rc ec su pe qt' rn nu th') (cwV 0 hts gL_law_X1_thrown rfl rfl rfl (by decide +kernel) ⟨Nat.le_of_ble_eq_true rfl, Nat.le_of_ble_eq_true rfl⟩) hK hP hD hS hA [10, 11, 12, 13, 14, 15, 16, 17, 18] [0, 1, 2, 3, 4, 5, 6, 7, 8, 9, 19] rfl rfl (by decide) (by decide) (by decide) rfl rfl rfl rfl hl.1 rfl (lv_room (Nat.le_of_ble_eq_true rfl)) dL_law_731 hf (fun H locs hP hD hS => ?_)
  replace hP := hP.sub (ws' := wX cI cJ x0 x1 x2 x3 x4 x5 x6 x7 x8 x9 g' rm op rc ec su pe qt' rs rn cs cn lc hc lg hg ++ (wY cI cJ y0 y1 y2 y3 y4 y5 y6 y7 y8 g' rm op la fo co cv ta rc ec su pe qt' rn nu th' ++ [(o0, .inl (cJ, 1, .inr (.inl u')))])) [0, 1, 2, 3, 4, 5, 6, 7, 8, 9, 11, 12, 13, 14, 15, 16, 17, 18, 19, 10] rfl
  replace hD := hD.sub (ws' := wX cI cJ x0 x1 x2 x3 x4 x5 x6 x7 x8 x9 g' rm op rc ec su pe qt' rs rn cs cn lc hc lg hg ++ (wY cI cJ y0 y1 y2 y3 y4 y5 y6 y7 y8 g' rm op la fo co cv ta rc ec su pe qt' rn nu th' ++ [(o0, .inl (cJ, 1, .inr (.inl u')))])) [0, 1, 2, 3, 4, 5, 6, 7, 8, 9, 11, 12, 13, 14, 15, 16, 17, 18, 19, 10] (by decide) rfl
  refine lv_iload hx hb dL_law_734 (lv_at hl 1 rfl) ?_
  refine lv_icmp_eq (tgt := 741) hx hb dL_law_736 (by decide) (fun c8 => ?_) (fun c8 => ?_)
  · refine lv_iload hx hb dL_law_741 (lv_at hl 1 rfl) ?_
    refine lv_if_ne (tgt := 758) hx hb dL_law_743 (by decide) (fun c9 => ?_) (fun c9 => ?_)
    · refine lv_goto (tgt := 1563) hx hb dL_law_758 (by decide) ?_
      exact kk _ _ _ ⟨g', rm, op, rc, ec, su, pe, qt', rs, rn, cs, cn, lc, hc, lg, hg, la, fo, co, cv, ta, nu, th', u', q, R, hg8, hVO, hrc, hsu, hqt, hVR, hP, hD, hS⟩ (lv_sub hl [2, 3, 4, 5, 6] rfl)
    · refine lv_aload_n hx hb dL_law_746 rfl (lv_at hl 3 rfl) ?_
      refine lv_iconst (v := 0) hx hb dL_law_747 (by decide) ?_
      refine va_lald hx hb hK hP 19 1 rfl rfl (show ¬ ((0 : Int32) < 0 ∨ 1 ≤ Int32.toNatClampNeg 0) by decide) dL_law_748 ?_
      rw [hcmp c9]
      refine lv_iload hx hb dL_law_749 (lv_at hl 0 rfl) ?_
      refine lv_i2l (v := Int32.toInt64 r1) hx hb dL_law_751 rfl ?_
      refine lz_cmp hx hb dL_law_752 ?_
      refine lv_if_eq (tgt := 758) hx hb dL_law_753 (by decide) (fun c8 => ?_) (fun c8 => ?_)
      · refine lv_goto (tgt := 1563) hx hb dL_law_758 (by decide) ?_
        exact kk _ _ _ ⟨g', rm, op, rc, ec, su, pe, qt', rs, rn, cs, cn, lc, hc, lg, hg, la, fo, co, cv, ta, nu, th', u', q, R, hg8, hVO, hrc, hsu, hqt, hVR, hP, hD, hS⟩ (lv_sub hl [2, 3, 4, 5, 6] rfl)
      · exact (c8 rfl).elim
  · exact (c8 rfl).elim
set_option maxHeartbeats 4000000 in
set_option maxRecDepth 100000 in
theorem lz_mineGreedily {p : Program} {l : Launch} {e : Env} {s : State} {m : MethodId} {below : List Frame} {meth : Method} {c : Code} {Q : State → Prop} {b L : Nat} {xs : Nat → Int32} {D : va_G} {cI cJ : ClassId} {x0 x1 x2 x3 x4 x5 x6 x7 x8 x9 y0 y1 y2 y3 y4 y5 y6 y7 y8 o0 : Nat} {i : Int32} {cells slots : Nat} {H : Heap} {locs : List Loc} {ls : Array Slot} (hx : p.tables.exec = Jvm.exec) (hb : c.code = cL_law) (hml : c.maxLocals = 7) (hown : s.vm.findClass RL = some m.cls) (hts : ∀ w ∈ wsL_law, w.before ([Value.ref b] : List Value).toArray s = true) (hX : va_X b L xs s s.heap) (hbl : b < s.heap.size) (hst : l.stackTraces = false) (hK : va_K D vwCl [(cI, .int), (cJ, .long)] s) (hT : xThrL (lz_A s) s) (hi1 : vp_in (i + 1) L) (hi2 : vp_in (i + 2) L) (hi3 : vp_in (i + 3) L) (hI : lz_I D cI cJ x0 x1 x2 x3 x4 x5 x6 x7 x8 x9 y0 y1 y2 y3 y4 y5 y6 y7 y8 o0 s H locs) (hl : lv_has ls 7 [(4, .int i), (3, .ref o0), (2, .ref y0), (1, .ref x0), (0, .ref b)]) (hf : cells + 1 ≤ room_1.cells ∧ slots + 6 ≤ room_1.slots)
    (kk : ∀ (H1 : Heap) (locs1 : List Loc) (ls1 : Array Slot), lz_I D cI cJ x0 x1 x2 x3 x4 x5 x6 x7 x8 x9 y0 y1 y2 y3 y4 y5 y6 y7 y8 o0 s H1 locs1 → lv_has ls1 7 [(4, .int i), (3, .ref o0), (2, .ref y0), (1, .ref x0), (0, .ref b)] → W p l e room_1 s m ([Value.ref b] : List Value).toArray below meth c H1 locs1 (cells + 1) (slots + 6) Q (F0 m 1563 ls1 [])) : W p l e room_1 s m ([Value.ref b] : List Value).toArray below meth c H locs cells slots Q (F0 m 761 ls []) := by
  obtain ⟨g, rm, op, rc, ec, su, pe, qt, rs, rn, cs, cn, lc, hc, lg, hg, la, fo, co, cv, ta, nu, th, u, q, R, hg8, hVO, hrc, hsu, hqt, hVR, hP, hD, hS⟩ := hI
  have hA : ∀ q, s.heap.size ≤ q → lz_A s q := fun q h9 => h9
  have hbA : ¬ lz_A s b := fun h9 => absurd hbl (Nat.not_lt.mpr h9)
  have hf0 : cells + 0 ≤ room_1.cells ∧ slots + 0 ≤ room_1.slots := ⟨Nat.le_trans (Nat.le_succ _) hf.1, Nat.le_trans (Nat.le_add_right _ _) hf.2⟩
  obtain ⟨s9, hs1, hs8, rfl⟩ := hsu
  obtain ⟨r9, hr9, rfl⟩ := hrc
  obtain ⟨r0, rs', rn', cs', cn', lc', hc', lg', hg', la', fo', co', cv', ta', nu', q', R', e0, e1, hVR⟩ := s_mineGreedily hg8 hVO.1 hs8 (fu := 100000) (by omega) hr9 ec rs la rn cs cn lc hc lg hg fo co cv ta nu th
  have hl : lv_has ls 7 [(4, .int i), (3, .ref o0), (2, .ref y0), (1, .ref x0), (0, .ref b)] := hl
  refine lv_aload_n hx hb dL_law_761 rfl (lv_at hl 3 rfl) ?_
  refine lz_Ti (r0 := r0) (As := []) (rest := []) (wc := wX cI cJ x0 x1 x2 x3 x4 x5 x6 x7 x8 x9 g rm op (nI r9) ec (nI s9) pe qt rs rn cs cn lc hc lg hg) (w1 := wX cI cJ x0 x1 x2 x3 x4 x5 x6 x7 x8 x9 g rm op (nI r9) ec (nI s9) pe qt rs' rn' cs' cn' lc' hc' lg' hg') (wr := wY cI cJ y0 y1 y2 y3 y4 y5 y6 y7 y8 g rm op la fo co cv ta (nI r9) ec (nI s9) pe qt rn nu th ++ [(o0, .inl (cJ, 1, .inr (.inl u)))]) ⟨hx, hb, hml, hown, hts⟩ (c_X0_mineGreedily l D cI cJ x0 x1 x2 x3 x4 x5 x6 x7 x8 x9 _ g rm op (nI r9) ec (nI s9) pe qt rs rn cs cn lc hc lg hg 100000  r0 rs' rn' cs' cn' lc' hc' lg' hg' e0) (cwV 0 hts gL_law_X0_mineGreedily rfl rfl rfl (by decide +kernel) ⟨Nat.le_of_ble_eq_true rfl, Nat.le_of_ble_eq_true rfl⟩) hK hP hD hS hA [0, 1, 2, 3, 4, 5, 6, 7, 8, 9] [10, 11, 12, 13, 14, 15, 16, 17, 18, 19] rfl rfl (by decide) (by decide) (by decide) rfl rfl rfl rfl hl.1 rfl (lv_room (Nat.le_of_ble_eq_true rfl)) dL_law_762 hf0 (fun H locs hP hD hS => ?_)
  replace hP := hP.sub (ws' := wX cI cJ x0 x1 x2 x3 x4 x5 x6 x7 x8 x9 g rm op (nI r9) ec (nI s9) pe qt rs' rn' cs' cn' lc' hc' lg' hg' ++ (wY cI cJ y0 y1 y2 y3 y4 y5 y6 y7 y8 g rm op la fo co cv ta (nI r9) ec (nI s9) pe qt rn nu th ++ [(o0, .inl (cJ, 1, .inr (.inl u)))])) [10, 11, 12, 13, 14, 15, 16, 17, 18, 19, 0, 1, 2, 3, 4, 5, 6, 7, 8, 9] rfl
  replace hD := hD.sub (ws' := wX cI cJ x0 x1 x2 x3 x4 x5 x6 x7 x8 x9 g rm op (nI r9) ec (nI s9) pe qt rs' rn' cs' cn' lc' hc' lg' hg' ++ (wY cI cJ y0 y1 y2 y3 y4 y5 y6 y7 y8 g rm op la fo co cv ta (nI r9) ec (nI s9) pe qt rn nu th ++ [(o0, .inl (cJ, 1, .inr (.inl u)))])) [10, 11, 12, 13, 14, 15, 16, 17, 18, 19, 0, 1, 2, 3, 4, 5, 6, 7, 8, 9] (by decide) rfl
  refine lv_aload_n hx hb dL_law_765 rfl (lv_at hl 2 rfl) ?_
  refine lz_Ti (r0 := r0) (As := []) (rest := [.int r0]) (wc := wY cI cJ y0 y1 y2 y3 y4 y5 y6 y7 y8 g rm op la fo co cv ta (nI r9) ec (nI s9) pe qt rn nu th) (w1 := wY cI cJ y0 y1 y2 y3 y4 y5 y6 y7 y8 g rm op la' fo' co' cv' ta' (nI r9) ec (nI s9) pe qt rn' nu' 0) (wr := wX cI cJ x0 x1 x2 x3 x4 x5 x6 x7 x8 x9 g rm op (nI r9) ec (nI s9) pe qt rs' rn' cs' cn' lc' hc' lg' hg' ++ [(o0, .inl (cJ, 1, .inr (.inl u)))]) ⟨hx, hb, hml, hown, hts⟩ (c_X1_mineGreedily l D cI cJ y0 y1 y2 y3 y4 y5 y6 y7 y8 _ g rm op la fo co cv ta (nI r9) ec (nI s9) pe qt rn nu th 100000  r0 la' fo' co' cv' ta' rn' nu' 0 e1) (cwV 0 hts gL_law_X1_mineGreedily rfl rfl rfl (by decide +kernel) ⟨Nat.le_of_ble_eq_true rfl, Nat.le_of_ble_eq_true rfl⟩) hK hP hD hS hA [10, 11, 12, 13, 14, 15, 16, 17, 18] [0, 1, 2, 3, 4, 5, 6, 7, 8, 9, 19] rfl rfl (by decide) (by decide) (by decide) rfl rfl rfl rfl hl.1 rfl (lv_room (Nat.le_of_ble_eq_true rfl)) dL_law_766 hf0 (fun H locs hP hD hS => ?_)
  replace hP := hP.sub (ws' := wX cI cJ x0 x1 x2 x3 x4 x5 x6 x7 x8 x9 g rm op (nI r9) ec (nI s9) pe qt rs' rn' cs' cn' lc' hc' lg' hg' ++ (wY cI cJ y0 y1 y2 y3 y4 y5 y6 y7 y8 g rm op la' fo' co' cv' ta' (nI r9) ec (nI s9) pe qt rn' nu' 0 ++ [(o0, .inl (cJ, 1, .inr (.inl u)))])) [0, 1, 2, 3, 4, 5, 6, 7, 8, 9, 11, 12, 13, 14, 15, 16, 17, 18, 19, 10] rfl
  replace hD := hD.sub (ws' := wX cI cJ x0 x1 x2 x3 x4 x5 x6 x7 x8 x9 g rm op (nI r9) ec (nI s9) pe qt rs' rn' cs' cn' lc' hc' lg' hg' ++ (wY cI cJ y0 y1 y2 y3 y4 y5 y6 y7 y8 g rm op la' fo' co' cv' ta' (nI r9) ec (nI s9) pe qt rn' nu' 0 ++ [(o0, .inl (cJ, 1, .inr (.inl u)))])) [0, 1, 2, 3, 4, 5, 6, 7, 8, 9, 11, 12, 13, 14, 15, 16, 17, 18, 19, 10] (by decide) rfl
  refine lv_icmp_eq (tgt := 1563) hx hb dL_law_769 (by decide) (fun c8 => ?_) (fun c8 => ?_)
  · refine W.widen (k := cells + 1) (n := slots + 6) (Nat.le_succ _) (Nat.le_add_right _ _) ?_
    exact kk _ _ _ ⟨g, rm, op, (nI r9), ec, (nI s9), pe, qt, rs', rn', cs', cn', lc', hc', lg', hg', la', fo', co', cv', ta', nu', 0, u, q', R', hg8, hVO, ⟨r9, hr9, rfl⟩, ⟨s9, hs1, hs8, rfl⟩, hqt, hVR, hP, hD, hS⟩ (lv_sub hl [0, 1, 2, 3, 4] rfl)
  · exact (c8 rfl).elim
set_option maxHeartbeats 4000000 in
set_option maxRecDepth 100000 in
theorem lz_mineBest {p : Program} {l : Launch} {e : Env} {s : State} {m : MethodId} {below : List Frame} {meth : Method} {c : Code} {Q : State → Prop} {b L : Nat} {xs : Nat → Int32} {D : va_G} {cI cJ : ClassId} {x0 x1 x2 x3 x4 x5 x6 x7 x8 x9 y0 y1 y2 y3 y4 y5 y6 y7 y8 o0 : Nat} {i : Int32} {cells slots : Nat} {H : Heap} {locs : List Loc} {ls : Array Slot} (hx : p.tables.exec = Jvm.exec) (hb : c.code = cL_law) (hml : c.maxLocals = 7) (hown : s.vm.findClass RL = some m.cls) (hts : ∀ w ∈ wsL_law, w.before ([Value.ref b] : List Value).toArray s = true) (hX : va_X b L xs s s.heap) (hbl : b < s.heap.size) (hst : l.stackTraces = false) (hK : va_K D vwCl [(cI, .int), (cJ, .long)] s) (hT : xThrL (lz_A s) s) (hi1 : vp_in (i + 1) L) (hi2 : vp_in (i + 2) L) (hi3 : vp_in (i + 3) L) (hI : lz_I D cI cJ x0 x1 x2 x3 x4 x5 x6 x7 x8 x9 y0 y1 y2 y3 y4 y5 y6 y7 y8 o0 s H locs) (hl : lv_has ls 7 [(4, .int i), (3, .ref o0), (2, .ref y0), (1, .ref x0), (0, .ref b)]) (hf : cells + 1 ≤ room_1.cells ∧ slots + 6 ≤ room_1.slots)
    (kk : ∀ (H1 : Heap) (locs1 : List Loc) (ls1 : Array Slot), lz_I D cI cJ x0 x1 x2 x3 x4 x5 x6 x7 x8 x9 y0 y1 y2 y3 y4 y5 y6 y7 y8 o0 s H1 locs1 → lv_has ls1 7 [(4, .int i), (3, .ref o0), (2, .ref y0), (1, .ref x0), (0, .ref b)] → W p l e room_1 s m ([Value.ref b] : List Value).toArray below meth c H1 locs1 (cells + 1) (slots + 6) Q (F0 m 1563 ls1 [])) : W p l e room_1 s m ([Value.ref b] : List Value).toArray below meth c H locs cells slots Q (F0 m 774 ls []) := by
  obtain ⟨g, rm, op, rc, ec, su, pe, qt, rs, rn, cs, cn, lc, hc, lg, hg, la, fo, co, cv, ta, nu, th, u, q, R, hg8, hVO, hrc, hsu, hqt, hVR, hP, hD, hS⟩ := hI
  have hA : ∀ q, s.heap.size ≤ q → lz_A s q := fun q h9 => h9
  have hbA : ¬ lz_A s b := fun h9 => absurd hbl (Nat.not_lt.mpr h9)
  have hf0 : cells + 0 ≤ room_1.cells ∧ slots + 0 ≤ room_1.slots := ⟨Nat.le_trans (Nat.le_succ _) hf.1, Nat.le_trans (Nat.le_add_right _ _) hf.2⟩
  obtain ⟨s9, hs1, hs8, rfl⟩ := hsu
  obtain ⟨r0, rs', rn', cs', cn', lc', hc', lg', hg', r1, la', fo', co', cv', nu', th', q', R', e0, e1, hVR, hoc⟩ := s_mineBest hg8 hVO.1 hs8 (fu := 100000) (by omega) rc ec hVR cs cn lc hc lg hg fo co cv nu th
  obtain ⟨u', hres, hcmp⟩ := oc_i1 hoc u
  have hl : lv_has ls 7 [(4, .int i), (3, .ref o0), (2, .ref y0), (1, .ref x0), (0, .ref b)] := hl
  refine lv_aload_n hx hb dL_law_774 rfl (lv_at hl 3 rfl) ?_
  refine lv_aload_n hx hb dL_law_775 rfl (lv_at hl 1 rfl) ?_
  refine lz_Wi (r0 := th') (As := [.ref x0, .ref o0]) (rest := []) (wc := wX cI cJ x0 x1 x2 x3 x4 x5 x6 x7 x8 x9 g rm op rc ec (nI s9) pe qt rs rn cs cn lc hc lg hg ++ [(o0, .inl (cJ, 1, .inr (.inl u)))]) (w1 := wX cI cJ x0 x1 x2 x3 x4 x5 x6 x7 x8 x9 g rm op rc ec (nI s9) pe qt rs' rn' cs' cn' lc' hc' lg' hg' ++ [(o0, .inl (cJ, 1, .inr (.inl u')))]) (wr := wY cI cJ y0 y1 y2 y3 y4 y5 y6 y7 y8 g rm op la fo co cv ta rc ec (nI s9) pe qt rn nu th) ⟨hx, hb, hml, hown, hts⟩ (c_L_mineBest l hst D cI cJ x0 x1 x2 x3 x4 x5 x6 x7 x8 x9 o0 _ g rm op rc ec (nI s9) pe qt rs rn cs cn lc hc lg hg u 100000  r0 rs' rn' cs' cn' lc' hc' lg' hg' e0 th' u' hres) (vx_cwSW 2 hts gL_law_L_mineBest rfl rfl rfl (by decide +kernel) ⟨Nat.le_of_ble_eq_true rfl, Nat.le_of_ble_eq_true rfl⟩) hK hP hD hS hA hT [0, 1, 2, 3, 4, 5, 6, 7, 8, 9, 19] [10, 11, 12, 13, 14, 15, 16, 17, 18] rfl rfl (by decide) (by decide) (by decide) rfl rfl hl.1 rfl (lv_room (Nat.le_of_ble_eq_true rfl)) dL_law_776 hf (fun H locs hP hD hS => ?_)
  replace hP := hP.sub (ws' := wX cI cJ x0 x1 x2 x3 x4 x5 x6 x7 x8 x9 g rm op rc ec (nI s9) pe qt rs' rn' cs' cn' lc' hc' lg' hg' ++ (wY cI cJ y0 y1 y2 y3 y4 y5 y6 y7 y8 g rm op la fo co cv ta rc ec (nI s9) pe qt rn nu th ++ [(o0, .inl (cJ, 1, .inr (.inl u')))])) [9, 10, 11, 12, 13, 14, 15, 16, 17, 18, 0, 1, 2, 3, 4, 5, 6, 7, 8, 19] rfl
  replace hD := hD.sub (ws' := wX cI cJ x0 x1 x2 x3 x4 x5 x6 x7 x8 x9 g rm op rc ec (nI s9) pe qt rs' rn' cs' cn' lc' hc' lg' hg' ++ (wY cI cJ y0 y1 y2 y3 y4 y5 y6 y7 y8 g rm op la fo co cv ta rc ec (nI s9) pe qt rn nu th ++ [(o0, .inl (cJ, 1, .inr (.inl u')))])) [9, 10, 11, 12, 13, 14, 15, 16, 17, 18, 0, 1, 2, 3, 4, 5, 6, 7, 8, 19] (by decide) rfl
  refine lv_istore (lv' := [(5, .int th'), (4, .int i), (3, .ref o0), (2, .ref y0), (1, .ref x0), (0, .ref b)]) hx hb dL_law_779 hl (by decide) rfl (fun ls hl => ?_)
  refine lv_aload_n hx hb dL_law_781 rfl (lv_at hl 3 rfl) ?_
  refine lz_Ti (r0 := r1) (As := []) (rest := []) (wc := wY cI cJ y0 y1 y2 y3 y4 y5 y6 y7 y8 g rm op la fo co cv ta rc ec (nI s9) pe qt rn nu th) (w1 := wY cI cJ y0 y1 y2 y3 y4 y5 y6 y7 y8 g rm op la' fo' co' cv' ta rc ec (nI s9) pe qt rn' nu' th') (wr := wX cI cJ x0 x1 x2 x3 x4 x5 x6 x7 x8 x9 g rm op rc ec (nI s9) pe qt rs' rn' cs' cn' lc' hc' lg' hg' ++ [(o0, .inl (cJ, 1, .inr (.inl u')))]) ⟨hx, hb, hml, hown, hts⟩ (c_X1_mineBest l D cI cJ y0 y1 y2 y3 y4 y5 y6 y7 y8 _ g rm op la fo co cv ta rc ec (nI s9) pe qt rn nu th 100000  r1 la' fo' co' cv' rn' nu' th' e1) (cwV 0 hts gL_law_X1_mineBest rfl rfl rfl (by decide +kernel) ⟨Nat.le_of_ble_eq_true rfl, Nat.le_of_ble_eq_true rfl⟩) hK hP hD hS hA [10, 11, 12, 13, 14, 15, 16, 17, 18] [0, 1, 2, 3, 4, 5, 6, 7, 8, 9, 19] rfl rfl (by decide) (by decide) (by decide) rfl rfl rfl rfl hl.1 rfl (lv_room (Nat.le_of_ble_eq_true rfl)) dL_law_782 hf (fun H locs hP hD hS => ?_)
  replace hP := hP.sub (ws' := wX cI cJ x0 x1 x2 x3 x4 x5 x6 x7 x8 x9 g rm op rc ec (nI s9) pe qt rs' rn' cs' cn' lc' hc' lg' hg' ++ (wY cI cJ y0 y1 y2 y3 y4 y5 y6 y7 y8 g rm op la' fo' co' cv' ta rc ec (nI s9) pe qt rn' nu' th' ++ [(o0, .inl (cJ, 1, .inr (.inl u')))])) [0, 1, 2, 3, 4, 5, 6, 7, 8, 9, 11, 12, 13, 14, 15, 16, 17, 18, 19, 10] rfl
  replace hD := hD.sub (ws' := wX cI cJ x0 x1 x2 x3 x4 x5 x6 x7 x8 x9 g rm op rc ec (nI s9) pe qt rs' rn' cs' cn' lc' hc' lg' hg' ++ (wY cI cJ y0 y1 y2 y3 y4 y5 y6 y7 y8 g rm op la' fo' co' cv' ta rc ec (nI s9) pe qt rn' nu' th' ++ [(o0, .inl (cJ, 1, .inr (.inl u')))])) [0, 1, 2, 3, 4, 5, 6, 7, 8, 9, 11, 12, 13, 14, 15, 16, 17, 18, 19, 10] (by decide) rfl
  refine lv_istore (lv' := [(6, .int r1), (5, .int th'), (4, .int i), (3, .ref o0), (2, .ref y0), (1, .ref x0), (0, .ref b)]) hx hb dL_law_785 hl (by decide) rfl (fun ls hl => ?_)
  refine lv_aload_n hx hb dL_law_787 rfl (lv_at hl 4 rfl) ?_
  refine lz_Ti (r0 := m_X1_thrown th') (As := []) (rest := []) (wc := wY cI cJ y0 y1 y2 y3 y4 y5 y6 y7 y8 g rm op la' fo' co' cv' ta rc ec (nI s9) pe qt rn' nu' th') (w1 := wY cI cJ y0 y1 y2 y3 y4 y5 y6 y7 y8 g rm op la' fo' co' cv' ta rc ec (nI s9) pe qt rn' nu' th') (wr := wX cI cJ x0 x1 x2 x3 x4 x5 x6 x7 x8 x9 g rm op rc ec (nI s9) pe qt rs' rn' cs' cn' lc' hc' lg' hg' ++ [(o0, .inl (cJ, 1, .inr (.inl u')))]) ⟨hx, hb, hml, hown, hts⟩ (c_X1_thrown l D cI cJ y0 y1 y2 y3 y4 y5 y6 y7 y8 _ g rm op la' fo' co' cv' ta rc ec (nI s9) pe qt rn' nu' th') (cwV 0 hts gL_law_X1_thrown rfl rfl rfl (by decide +kernel) ⟨Nat.le_of_ble_eq_true rfl, Nat.le_of_ble_eq_true rfl⟩) hK hP hD hS hA [10, 11, 12, 13, 14, 15, 16, 17, 18] [0, 1, 2, 3, 4, 5, 6, 7, 8, 9, 19] rfl rfl (by decide) (by decide) (by decide) rfl rfl rfl rfl hl.1 rfl (lv_room (Nat.le_of_ble_eq_true rfl)) dL_law_788 hf (fun H locs hP hD hS => ?_)
  replace hP := hP.sub (ws' := wX cI cJ x0 x1 x2 x3 x4 x5 x6 x7 x8 x9 g rm op rc ec (nI s9) pe qt rs' rn' cs' cn' lc' hc' lg' hg' ++ (wY cI cJ y0 y1 y2 y3 y4 y5 y6 y7 y8 g rm op la' fo' co' cv' ta rc ec (nI s9) pe qt rn' nu' th' ++ [(o0, .inl (cJ, 1, .inr (.inl u')))])) [0, 1, 2, 3, 4, 5, 6, 7, 8, 9, 11, 12, 13, 14, 15, 16, 17, 18, 19, 10] rfl
  replace hD := hD.sub (ws' := wX cI cJ x0 x1 x2 x3 x4 x5 x6 x7 x8 x9 g rm op rc ec (nI s9) pe qt rs' rn' cs' cn' lc' hc' lg' hg' ++ (wY cI cJ y0 y1 y2 y3 y4 y5 y6 y7 y8 g rm op la' fo' co' cv' ta rc ec (nI s9) pe qt rn' nu' th' ++ [(o0, .inl (cJ, 1, .inr (.inl u')))])) [0, 1, 2, 3, 4, 5, 6, 7, 8, 9, 11, 12, 13, 14, 15, 16, 17, 18, 19, 10] (by decide) rfl
  refine lv_iload hx hb dL_law_791 (lv_at hl 1 rfl) ?_
  refine lv_icmp_eq (tgt := 798) hx hb dL_law_793 (by decide) (fun c8 => ?_) (fun c8 => ?_)
  · refine lv_iload hx hb dL_law_798 (lv_at hl 1 rfl) ?_
    refine lv_if_ne (tgt := 815) hx hb dL_law_800 (by decide) (fun c9 => ?_) (fun c9 => ?_)
    · refine lv_goto (tgt := 1563) hx hb dL_law_815 (by decide) ?_
      exact kk _ _ _ ⟨g, rm, op, rc, ec, (nI s9), pe, qt, rs', rn', cs', cn', lc', hc', lg', hg', la', fo', co', cv', ta, nu', th', u', q', R', hg8, hVO, hrc, ⟨s9, hs1, hs8, rfl⟩, hqt, hVR, hP, hD, hS⟩ (lv_sub hl [2, 3, 4, 5, 6] rfl)
    · refine lv_aload_n hx hb dL_law_803 rfl (lv_at hl 3 rfl) ?_
      refine lv_iconst (v := 0) hx hb dL_law_804 (by decide) ?_
      refine va_lald hx hb hK hP 19 1 rfl rfl (show ¬ ((0 : Int32) < 0 ∨ 1 ≤ Int32.toNatClampNeg 0) by decide) dL_law_805 ?_
      rw [hcmp c9]
      refine lv_iload hx hb dL_law_806 (lv_at hl 0 rfl) ?_
      refine lv_i2l (v := Int32.toInt64 r1) hx hb dL_law_808 rfl ?_
      refine lz_cmp hx hb dL_law_809 ?_
      refine lv_if_eq (tgt := 815) hx hb dL_law_810 (by decide) (fun c8 => ?_) (fun c8 => ?_)
      · refine lv_goto (tgt := 1563) hx hb dL_law_815 (by decide) ?_
        exact kk _ _ _ ⟨g, rm, op, rc, ec, (nI s9), pe, qt, rs', rn', cs', cn', lc', hc', lg', hg', la', fo', co', cv', ta, nu', th', u', q', R', hg8, hVO, hrc, ⟨s9, hs1, hs8, rfl⟩, hqt, hVR, hP, hD, hS⟩ (lv_sub hl [2, 3, 4, 5, 6] rfl)
      · exact (c8 rfl).elim
  · exact (c8 rfl).elim
