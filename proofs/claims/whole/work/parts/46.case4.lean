set_option maxHeartbeats 4000000 in
set_option maxRecDepth 100000 in
theorem lz_role {p : Program} {l : Launch} {e : Env} {s : State} {m : MethodId} {below : List Frame} {meth : Method} {c : Code} {Q : State → Prop} {b L : Nat} {xs : Nat → Int32} {D : va_G} {cI cJ : ClassId} {x0 x1 x2 x3 x4 x5 x6 x7 x8 x9 y0 y1 y2 y3 y4 y5 y6 y7 y8 o0 : Nat} {i : Int32} {cells slots : Nat} {H : Heap} {locs : List Loc} {ls : Array Slot} (hx : p.tables.exec = Jvm.exec) (hb : c.code = cL_law) (hml : c.maxLocals = 7) (hown : s.vm.findClass RL = some m.cls) (hts : ∀ w ∈ wsL_law, w.before ([Value.ref b] : List Value).toArray s = true) (hX : va_X b L xs s s.heap) (hbl : b < s.heap.size) (hst : l.stackTraces = false) (hK : va_K D vwCl [(cI, .int), (cJ, .long)] s) (hT : xThrL (lz_A s) s) (hi1 : vp_in (i + 1) L) (hi2 : vp_in (i + 2) L) (hi3 : vp_in (i + 3) L) (hI : lz_I D cI cJ x0 x1 x2 x3 x4 x5 x6 x7 x8 x9 y0 y1 y2 y3 y4 y5 y6 y7 y8 o0 s H locs) (hl : lv_has ls 7 [(4, .int i), (3, .ref o0), (2, .ref y0), (1, .ref x0), (0, .ref b)]) (hf : cells + 1 ≤ room_1.cells ∧ slots + 6 ≤ room_1.slots)
    (kk : ∀ (H1 : Heap) (locs1 : List Loc) (ls1 : Array Slot), lz_I D cI cJ x0 x1 x2 x3 x4 x5 x6 x7 x8 x9 y0 y1 y2 y3 y4 y5 y6 y7 y8 o0 s H1 locs1 → lv_has ls1 7 [(4, .int i), (3, .ref o0), (2, .ref y0), (1, .ref x0), (0, .ref b)] → W p l e room_1 s m ([Value.ref b] : List Value).toArray below meth c H1 locs1 (cells + 1) (slots + 6) Q (F0 m 1563 ls1 [])) : W p l e room_1 s m ([Value.ref b] : List Value).toArray below meth c H locs cells slots Q (F0 m 1263 ls []) := by
  obtain ⟨g, rm, op, rc, ec, su, pe, qt, rs, rn, cs, cn, lc, hc, lg, hg, la, fo, co, cv, ta, nu, th, u, q, R, hg8, hVO, hrc, hsu, hqt, hVR, hP, hD, hS⟩ := hI
  have hA : ∀ q, s.heap.size ≤ q → lz_A s q := fun q h9 => h9
  have hbA : ¬ lz_A s b := fun h9 => absurd hbl (Nat.not_lt.mpr h9)
  have hf0 : cells + 0 ≤ room_1.cells ∧ slots + 0 ≤ room_1.slots := ⟨Nat.le_trans (Nat.le_succ _) hf.1, Nat.le_trans (Nat.le_add_right _ _) hf.2⟩
  obtain ⟨r0, r1, th', e0, e1, hoc⟩ := s_role hVR th (xs (Int32.toNatClampNeg (i + 1)))
  obtain ⟨u', hres, hcmp⟩ := oc_i1 hoc u
  have hl : lv_has ls 7 [(4, .int i), (3, .ref o0), (2, .ref y0), (1, .ref x0), (0, .ref b)] := hl
  refine lv_aload_n hx hb dL_law_1263 rfl (lv_at hl 3 rfl) ?_
  refine lv_aload_n hx hb dL_law_1264 rfl (lv_at hl 4 rfl) ?_
  refine lv_iload hx hb dL_law_1265 (lv_at hl 0 rfl) ?_
  refine lv_iconst (v := 1) hx hb dL_law_1267 (by decide) ?_
  refine lv_iadd hx hb dL_law_1268 ?_
  refine va_sld hx hb hX hbl hbA hS hi1 dL_law_1269 ?_
  refine lv_aload_n hx hb dL_law_1270 rfl (lv_at hl 1 rfl) ?_
  refine lz_Wi (r0 := th') (As := [.ref x0, .int (xs (Int32.toNatClampNeg (i + 1))), .ref o0]) (rest := []) (wc := wX cI cJ x0 x1 x2 x3 x4 x5 x6 x7 x8 x9 g rm op rc ec su pe qt rs rn cs cn lc hc lg hg ++ [(o0, .inl (cJ, 1, .inr (.inl u)))]) (w1 := wX cI cJ x0 x1 x2 x3 x4 x5 x6 x7 x8 x9 g rm op rc ec su pe qt rs rn cs cn lc hc lg hg ++ [(o0, .inl (cJ, 1, .inr (.inl u')))]) (wr := wY cI cJ y0 y1 y2 y3 y4 y5 y6 y7 y8 g rm op la fo co cv ta rc ec su pe qt rn nu th) ⟨hx, hb, hml, hown, hts⟩ (c_L_role l hst D cI cJ x0 x1 x2 x3 x4 x5 x6 x7 x8 x9 o0 _ g rm op rc ec su pe qt rs rn cs cn lc hc lg hg u (xs (Int32.toNatClampNeg (i + 1))) r0  e0 th' u' hres) (vx_cwSW 3 hts gL_law_L_role rfl rfl rfl (by decide +kernel) ⟨Nat.le_of_ble_eq_true rfl, Nat.le_of_ble_eq_true rfl⟩) hK hP hD hS hA hT [0, 1, 2, 3, 4, 5, 6, 7, 8, 9, 19] [10, 11, 12, 13, 14, 15, 16, 17, 18] rfl rfl (by decide) (by decide) (by decide) rfl rfl hl.1 rfl (lv_room (Nat.le_of_ble_eq_true rfl)) dL_law_1271 hf (fun H locs hP hD hS => ?_)
  replace hP := hP.sub (ws' := wX cI cJ x0 x1 x2 x3 x4 x5 x6 x7 x8 x9 g rm op rc ec su pe qt rs rn cs cn lc hc lg hg ++ (wY cI cJ y0 y1 y2 y3 y4 y5 y6 y7 y8 g rm op la fo co cv ta rc ec su pe qt rn nu th ++ [(o0, .inl (cJ, 1, .inr (.inl u')))])) [9, 10, 11, 12, 13, 14, 15, 16, 17, 18, 0, 1, 2, 3, 4, 5, 6, 7, 8, 19] rfl
  replace hD := hD.sub (ws' := wX cI cJ x0 x1 x2 x3 x4 x5 x6 x7 x8 x9 g rm op rc ec su pe qt rs rn cs cn lc hc lg hg ++ (wY cI cJ y0 y1 y2 y3 y4 y5 y6 y7 y8 g rm op la fo co cv ta rc ec su pe qt rn nu th ++ [(o0, .inl (cJ, 1, .inr (.inl u')))])) [9, 10, 11, 12, 13, 14, 15, 16, 17, 18, 0, 1, 2, 3, 4, 5, 6, 7, 8, 19] (by decide) rfl
  refine lv_istore (lv' := [(5, .int th'), (4, .int i), (3, .ref o0), (2, .ref y0), (1, .ref x0), (0, .ref b)]) hx hb dL_law_1274 hl (by decide) rfl (fun ls hl => ?_)
  refine lv_aload_n hx hb dL_law_1276 rfl (lv_at hl 3 rfl) ?_
  refine lv_aload_n hx hb dL_law_1277 rfl (lv_at hl 5 rfl) ?_
  refine lv_iload hx hb dL_law_1278 (lv_at hl 1 rfl) ?_
  refine lv_iconst (v := 1) hx hb dL_law_1280 (by decide) ?_
  refine lv_iadd hx hb dL_law_1281 ?_
  refine va_sld hx hb hX hbl hbA hS hi1 dL_law_1282 ?_
  refine lz_Ti (r0 := r1) (As := [.int (xs (Int32.toNatClampNeg (i + 1)))]) (rest := []) (wc := wY cI cJ y0 y1 y2 y3 y4 y5 y6 y7 y8 g rm op la fo co cv ta rc ec su pe qt rn nu th) (w1 := wY cI cJ y0 y1 y2 y3 y4 y5 y6 y7 y8 g rm op la fo co cv ta rc ec su pe qt rn nu th') (wr := wX cI cJ x0 x1 x2 x3 x4 x5 x6 x7 x8 x9 g rm op rc ec su pe qt rs rn cs cn lc hc lg hg ++ [(o0, .inl (cJ, 1, .inr (.inl u')))]) ⟨hx, hb, hml, hown, hts⟩ (c_X1_role l D cI cJ y0 y1 y2 y3 y4 y5 y6 y7 y8 _ g rm op la fo co cv ta rc ec su pe qt rn nu th (xs (Int32.toNatClampNeg (i + 1))) r1 th' e1) (cwV 1 hts gL_law_X1_role rfl rfl rfl (by decide +kernel) ⟨Nat.le_of_ble_eq_true rfl, Nat.le_of_ble_eq_true rfl⟩) hK hP hD hS hA [10, 11, 12, 13, 14, 15, 16, 17, 18] [0, 1, 2, 3, 4, 5, 6, 7, 8, 9, 19] rfl rfl (by decide) (by decide) (by decide) rfl rfl rfl rfl hl.1 rfl (lv_room (Nat.le_of_ble_eq_true rfl)) dL_law_1283 hf (fun H locs hP hD hS => ?_)
  replace hP := hP.sub (ws' := wX cI cJ x0 x1 x2 x3 x4 x5 x6 x7 x8 x9 g rm op rc ec su pe qt rs rn cs cn lc hc lg hg ++ (wY cI cJ y0 y1 y2 y3 y4 y5 y6 y7 y8 g rm op la fo co cv ta rc ec su pe qt rn nu th' ++ [(o0, .inl (cJ, 1, .inr (.inl u')))])) [0, 1, 2, 3, 4, 5, 6, 7, 8, 9, 11, 12, 13, 14, 15, 16, 17, 18, 19, 10] rfl
  replace hD := hD.sub (ws' := wX cI cJ x0 x1 x2 x3 x4 x5 x6 x7 x8 x9 g rm op rc ec su pe qt rs rn cs cn lc hc lg hg ++ (wY cI cJ y0 y1 y2 y3 y4 y5 y6 y7 y8 g rm op la fo co cv ta rc ec su pe qt rn nu th' ++ [(o0, .inl (cJ, 1, .inr (.inl u')))])) [0, 1, 2, 3, 4, 5, 6, 7, 8, 9, 11, 12, 13, 14, 15, 16, 17, 18, 19, 10] (by decide) rfl
  refine lv_istore (lv' := [(6, .int r1), (5, .int th'), (4, .int i), (3, .ref o0), (2, .ref y0), (1, .ref x0), (0, .ref b)]) hx hb dL_law_1286 hl (by decide) rfl (fun ls hl => ?_)
  refine lv_aload_n hx hb dL_law_1288 rfl (lv_at hl 4 rfl) ?_
  refine lz_Ti (r0 := m_X1_thrown th') (As := []) (rest := []) (wc := wY cI cJ y0 y1 y2 y3 y4 y5 y6 y7 y8 g rm op la fo co cv ta rc ec su pe qt rn nu th') (w1 := wY cI cJ y0 y1 y2 y3 y4 y5 y6 y7 y8 g rm op la fo co cv ta rc ec su pe qt rn nu th') (wr := wX cI cJ x0 x1 x2 x3 x4 x5 x6 x7 x8 x9 g rm op rc ec su pe qt rs rn cs cn lc hc lg hg ++ [(o0, .inl (cJ, 1, .inr (.inl u')))]) ⟨hx, hb, hml, hown, hts⟩ (c_X1_thrown l D cI cJ y0 y1 y2 y3 y4 y5 y6 y7 y8 _ g rm op la fo co cv ta rc ec su pe qt rn nu th') (cwV 0 hts gL_law_X1_thrown rfl rfl rfl (by decide +kernel) ⟨Nat.le_of_ble_eq_true rfl, Nat.le_of_ble_eq_true rfl⟩) hK hP hD hS hA [10, 11, 12, 13, 14, 15, 16, 17, 18] [0, 1, 2, 3, 4, 5, 6, 7, 8, 9, 19] rfl rfl (by decide) (by decide) (by decide) rfl rfl rfl rfl hl.1 rfl (lv_room (Nat.le_of_ble_eq_true rfl)) dL_law_1289 hf (fun H locs hP hD hS => ?_)
  replace hP := hP.sub (ws' := wX cI cJ x0 x1 x2 x3 x4 x5 x6 x7 x8 x9 g rm op rc ec su pe qt rs rn cs cn lc hc lg hg ++ (wY cI cJ y0 y1 y2 y3 y4 y5 y6 y7 y8 g rm op la fo co cv ta rc ec su pe qt rn nu th' ++ [(o0, .inl (cJ, 1, .inr (.inl u')))])) [0, 1, 2, 3, 4, 5, 6, 7, 8, 9, 11, 12, 13, 14, 15, 16, 17, 18, 19, 10] rfl
  replace hD := hD.sub (ws' := wX cI cJ x0 x1 x2 x3 x4 x5 x6 x7 x8 x9 g rm op rc ec su pe qt rs rn cs cn lc hc lg hg ++ (wY cI cJ y0 y1 y2 y3 y4 y5 y6 y7 y8 g rm op la fo co cv ta rc ec su pe qt rn nu th' ++ [(o0, .inl (cJ, 1, .inr (.inl u')))])) [0, 1, 2, 3, 4, 5, 6, 7, 8, 9, 11, 12, 13, 14, 15, 16, 17, 18, 19, 10] (by decide) rfl
  refine lv_iload hx hb dL_law_1292 (lv_at hl 1 rfl) ?_
  refine lv_icmp_eq (tgt := 1299) hx hb dL_law_1294 (by decide) (fun c8 => ?_) (fun c8 => ?_)
  · refine lv_iload hx hb dL_law_1299 (lv_at hl 1 rfl) ?_
    refine lv_if_ne (tgt := 1316) hx hb dL_law_1301 (by decide) (fun c9 => ?_) (fun c9 => ?_)
    · refine lv_goto (tgt := 1563) hx hb dL_law_1316 (by decide) ?_
      exact kk _ _ _ ⟨g, rm, op, rc, ec, su, pe, qt, rs, rn, cs, cn, lc, hc, lg, hg, la, fo, co, cv, ta, nu, th', u', q, R, hg8, hVO, hrc, hsu, hqt, hVR, hP, hD, hS⟩ (lv_sub hl [2, 3, 4, 5, 6] rfl)
    · refine lv_aload_n hx hb dL_law_1304 rfl (lv_at hl 3 rfl) ?_
      refine lv_iconst (v := 0) hx hb dL_law_1305 (by decide) ?_
      refine va_lald hx hb hK hP 19 1 rfl rfl (show ¬ ((0 : Int32) < 0 ∨ 1 ≤ Int32.toNatClampNeg 0) by decide) dL_law_1306 ?_
      rw [hcmp c9]
      refine lv_iload hx hb dL_law_1307 (lv_at hl 0 rfl) ?_
      refine lv_i2l (v := Int32.toInt64 r1) hx hb dL_law_1309 rfl ?_
      refine lz_cmp hx hb dL_law_1310 ?_
      refine lv_if_eq (tgt := 1316) hx hb dL_law_1311 (by decide) (fun c8 => ?_) (fun c8 => ?_)
      · refine lv_goto (tgt := 1563) hx hb dL_law_1316 (by decide) ?_
        exact kk _ _ _ ⟨g, rm, op, rc, ec, su, pe, qt, rs, rn, cs, cn, lc, hc, lg, hg, la, fo, co, cv, ta, nu, th', u', q, R, hg8, hVO, hrc, hsu, hqt, hVR, hP, hD, hS⟩ (lv_sub hl [2, 3, 4, 5, 6] rfl)
      · exact (c8 rfl).elim
  · exact (c8 rfl).elim
set_option maxHeartbeats 4000000 in
set_option maxRecDepth 100000 in
theorem lz_rolesOf {p : Program} {l : Launch} {e : Env} {s : State} {m : MethodId} {below : List Frame} {meth : Method} {c : Code} {Q : State → Prop} {b L : Nat} {xs : Nat → Int32} {D : va_G} {cI cJ : ClassId} {x0 x1 x2 x3 x4 x5 x6 x7 x8 x9 y0 y1 y2 y3 y4 y5 y6 y7 y8 o0 : Nat} {i : Int32} {cells slots : Nat} {H : Heap} {locs : List Loc} {ls : Array Slot} (hx : p.tables.exec = Jvm.exec) (hb : c.code = cL_law) (hml : c.maxLocals = 7) (hown : s.vm.findClass RL = some m.cls) (hts : ∀ w ∈ wsL_law, w.before ([Value.ref b] : List Value).toArray s = true) (hX : va_X b L xs s s.heap) (hbl : b < s.heap.size) (hst : l.stackTraces = false) (hK : va_K D vwCl [(cI, .int), (cJ, .long)] s) (hT : xThrL (lz_A s) s) (hi1 : vp_in (i + 1) L) (hi2 : vp_in (i + 2) L) (hi3 : vp_in (i + 3) L) (hI : lz_I D cI cJ x0 x1 x2 x3 x4 x5 x6 x7 x8 x9 y0 y1 y2 y3 y4 y5 y6 y7 y8 o0 s H locs) (hl : lv_has ls 7 [(4, .int i), (3, .ref o0), (2, .ref y0), (1, .ref x0), (0, .ref b)]) (hf : cells + 1 ≤ room_1.cells ∧ slots + 6 ≤ room_1.slots)
    (kk : ∀ (H1 : Heap) (locs1 : List Loc) (ls1 : Array Slot), lz_I D cI cJ x0 x1 x2 x3 x4 x5 x6 x7 x8 x9 y0 y1 y2 y3 y4 y5 y6 y7 y8 o0 s H1 locs1 → lv_has ls1 7 [(4, .int i), (3, .ref o0), (2, .ref y0), (1, .ref x0), (0, .ref b)] → W p l e room_1 s m ([Value.ref b] : List Value).toArray below meth c H1 locs1 (cells + 1) (slots + 6) Q (F0 m 1563 ls1 [])) : W p l e room_1 s m ([Value.ref b] : List Value).toArray below meth c H locs cells slots Q (F0 m 1319 ls []) := by
  obtain ⟨g, rm, op, rc, ec, su, pe, qt, rs, rn, cs, cn, lc, hc, lg, hg, la, fo, co, cv, ta, nu, th, u, q, R, hg8, hVO, hrc, hsu, hqt, hVR, hP, hD, hS⟩ := hI
  have hA : ∀ q, s.heap.size ≤ q → lz_A s q := fun q h9 => h9
  have hbA : ¬ lz_A s b := fun h9 => absurd hbl (Nat.not_lt.mpr h9)
  have hf0 : cells + 0 ≤ room_1.cells ∧ slots + 0 ≤ room_1.slots := ⟨Nat.le_trans (Nat.le_succ _) hf.1, Nat.le_trans (Nat.le_add_right _ _) hf.2⟩
  obtain ⟨r0, r1, th', e0, e1, hoc⟩ := s_rolesOf hg8 hVR th (xs (Int32.toNatClampNeg (i + 1))) (fu := 100000) (by omega)
  obtain ⟨u', hres, hcmp⟩ := oc_i1 hoc u
  have hl : lv_has ls 7 [(4, .int i), (3, .ref o0), (2, .ref y0), (1, .ref x0), (0, .ref b)] := hl
  refine lv_aload_n hx hb dL_law_1319 rfl (lv_at hl 3 rfl) ?_
  refine lv_aload_n hx hb dL_law_1320 rfl (lv_at hl 4 rfl) ?_
  refine lv_iload hx hb dL_law_1321 (lv_at hl 0 rfl) ?_
  refine lv_iconst (v := 1) hx hb dL_law_1323 (by decide) ?_
  refine lv_iadd hx hb dL_law_1324 ?_
  refine va_sld hx hb hX hbl hbA hS hi1 dL_law_1325 ?_
  refine lv_aload_n hx hb dL_law_1326 rfl (lv_at hl 1 rfl) ?_
  refine lz_Wi (r0 := th') (As := [.ref x0, .int (xs (Int32.toNatClampNeg (i + 1))), .ref o0]) (rest := []) (wc := wX cI cJ x0 x1 x2 x3 x4 x5 x6 x7 x8 x9 g rm op rc ec su pe qt rs rn cs cn lc hc lg hg ++ [(o0, .inl (cJ, 1, .inr (.inl u)))]) (w1 := wX cI cJ x0 x1 x2 x3 x4 x5 x6 x7 x8 x9 g rm op rc ec su pe qt rs rn cs cn lc hc lg hg ++ [(o0, .inl (cJ, 1, .inr (.inl u')))]) (wr := wY cI cJ y0 y1 y2 y3 y4 y5 y6 y7 y8 g rm op la fo co cv ta rc ec su pe qt rn nu th) ⟨hx, hb, hml, hown, hts⟩ (c_L_rolesOf l hst D cI cJ x0 x1 x2 x3 x4 x5 x6 x7 x8 x9 o0 _ g rm op rc ec su pe qt rs rn cs cn lc hc lg hg u 100000 (xs (Int32.toNatClampNeg (i + 1))) r0  e0 th' u' hres) (vx_cwSW 3 hts gL_law_L_rolesOf rfl rfl rfl (by decide +kernel) ⟨Nat.le_of_ble_eq_true rfl, Nat.le_of_ble_eq_true rfl⟩) hK hP hD hS hA hT [0, 1, 2, 3, 4, 5, 6, 7, 8, 9, 19] [10, 11, 12, 13, 14, 15, 16, 17, 18] rfl rfl (by decide) (by decide) (by decide) rfl rfl hl.1 rfl (lv_room (Nat.le_of_ble_eq_true rfl)) dL_law_1327 hf (fun H locs hP hD hS => ?_)
  replace hP := hP.sub (ws' := wX cI cJ x0 x1 x2 x3 x4 x5 x6 x7 x8 x9 g rm op rc ec su pe qt rs rn cs cn lc hc lg hg ++ (wY cI cJ y0 y1 y2 y3 y4 y5 y6 y7 y8 g rm op la fo co cv ta rc ec su pe qt rn nu th ++ [(o0, .inl (cJ, 1, .inr (.inl u')))])) [9, 10, 11, 12, 13, 14, 15, 16, 17, 18, 0, 1, 2, 3, 4, 5, 6, 7, 8, 19] rfl
  replace hD := hD.sub (ws' := wX cI cJ x0 x1 x2 x3 x4 x5 x6 x7 x8 x9 g rm op rc ec su pe qt rs rn cs cn lc hc lg hg ++ (wY cI cJ y0 y1 y2 y3 y4 y5 y6 y7 y8 g rm op la fo co cv ta rc ec su pe qt rn nu th ++ [(o0, .inl (cJ, 1, .inr (.inl u')))])) [9, 10, 11, 12, 13, 14, 15, 16, 17, 18, 0, 1, 2, 3, 4, 5, 6, 7, 8, 19] (by decide) rfl
  refine lv_istore (lv' := [(5, .int th'), (4, .int i), (3, .ref o0), (2, .ref y0), (1, .ref x0), (0, .ref b)]) hx hb dL_law_1330 hl (by decide) rfl (fun ls hl => ?_)
  refine lv_aload_n hx hb dL_law_1332 rfl (lv_at hl 3 rfl) ?_
  refine lv_aload_n hx hb dL_law_1333 rfl (lv_at hl 5 rfl) ?_
  refine lv_iload hx hb dL_law_1334 (lv_at hl 1 rfl) ?_
  refine lv_iconst (v := 1) hx hb dL_law_1336 (by decide) ?_
  refine lv_iadd hx hb dL_law_1337 ?_
  refine va_sld hx hb hX hbl hbA hS hi1 dL_law_1338 ?_
  refine lz_Ti (r0 := r1) (As := [.int (xs (Int32.toNatClampNeg (i + 1)))]) (rest := []) (wc := wY cI cJ y0 y1 y2 y3 y4 y5 y6 y7 y8 g rm op la fo co cv ta rc ec su pe qt rn nu th) (w1 := wY cI cJ y0 y1 y2 y3 y4 y5 y6 y7 y8 g rm op la fo co cv ta rc ec su pe qt rn nu th') (wr := wX cI cJ x0 x1 x2 x3 x4 x5 x6 x7 x8 x9 g rm op rc ec su pe qt rs rn cs cn lc hc lg hg ++ [(o0, .inl (cJ, 1, .inr (.inl u')))]) ⟨hx, hb, hml, hown, hts⟩ (c_X1_rolesOf l D cI cJ y0 y1 y2 y3 y4 y5 y6 y7 y8 _ g rm op la fo co cv ta rc ec su pe qt rn nu th 100000 (xs (Int32.toNatClampNeg (i + 1))) r1 th' e1) (cwV 1 hts gL_law_X1_rolesOf rfl rfl rfl (by decide +kernel) ⟨Nat.le_of_ble_eq_true rfl, Nat.le_of_ble_eq_true rfl⟩) hK hP hD hS hA [10, 11, 12, 13, 14, 15, 16, 17, 18] [0, 1, 2, 3, 4, 5, 6, 7, 8, 9, 19] rfl rfl (by decide) (by decide) (by decide) rfl rfl rfl rfl hl.1 rfl (lv_room (Nat.le_of_ble_eq_true rfl)) dL_law_1339 hf (fun H locs hP hD hS => ?_)
  replace hP := hP.sub (ws' := wX cI cJ x0 x1 x2 x3 x4 x5 x6 x7 x8 x9 g rm op rc ec su pe qt rs rn cs cn lc hc lg hg ++ (wY cI cJ y0 y1 y2 y3 y4 y5 y6 y7 y8 g rm op la fo co cv ta rc ec su pe qt rn nu th' ++ [(o0, .inl (cJ, 1, .inr (.inl u')))])) [0, 1, 2, 3, 4, 5, 6, 7, 8, 9, 11, 12, 13, 14, 15, 16, 17, 18, 19, 10] rfl
  replace hD := hD.sub (ws' := wX cI cJ x0 x1 x2 x3 x4 x5 x6 x7 x8 x9 g rm op rc ec su pe qt rs rn cs cn lc hc lg hg ++ (wY cI cJ y0 y1 y2 y3 y4 y5 y6 y7 y8 g rm op la fo co cv ta rc ec su pe qt rn nu th' ++ [(o0, .inl (cJ, 1, .inr (.inl u')))])) [0, 1, 2, 3, 4, 5, 6, 7, 8, 9, 11, 12, 13, 14, 15, 16, 17, 18, 19, 10] (by decide) rfl
  refine lv_istore (lv' := [(6, .int r1), (5, .int th'), (4, .int i), (3, .ref o0), (2, .ref y0), (1, .ref x0), (0, .ref b)]) hx hb dL_law_1342 hl (by decide) rfl (fun ls hl => ?_)
  refine lv_aload_n hx hb dL_law_1344 rfl (lv_at hl 4 rfl) ?_
  refine lz_Ti (r0 := m_X1_thrown th') (As := []) (rest := []) (wc := wY cI cJ y0 y1 y2 y3 y4 y5 y6 y7 y8 g rm op la fo co cv ta rc ec su pe qt rn nu th') (w1 := wY cI cJ y0 y1 y2 y3 y4 y5 y6 y7 y8 g rm op la fo co cv ta rc ec su pe qt rn nu th') (wr := wX cI cJ x0 x1 x2 x3 x4 x5 x6 x7 x8 x9 g rm op rc ec su pe qt rs rn cs cn lc hc lg hg ++ [(o0, .inl (cJ, 1, .inr (.inl u')))]) ⟨hx, hb, hml, hown, hts⟩ (c_X1_thrown l D cI cJ y0 y1 y2 y3 y4 y5 y6 y7 y8 _ g rm op la fo co cv ta rc ec su pe qt rn nu th') (cwV 0 hts gL_law_X1_thrown rfl rfl rfl (by decide +kernel) ⟨Nat.le_of_ble_eq_true rfl, Nat.le_of_ble_eq_true rfl⟩) hK hP hD hS hA [10, 11, 12, 13, 14, 15, 16, 17, 18] [0, 1, 2, 3, 4, 5, 6, 7, 8, 9, 19] rfl rfl (by decide) (by decide) (by decide) rfl rfl rfl rfl hl.1 rfl (lv_room (Nat.le_of_ble_eq_true rfl)) dL_law_1345 hf (fun H locs hP hD hS => ?_)
  replace hP := hP.sub (ws' := wX cI cJ x0 x1 x2 x3 x4 x5 x6 x7 x8 x9 g rm op rc ec su pe qt rs rn cs cn lc hc lg hg ++ (wY cI cJ y0 y1 y2 y3 y4 y5 y6 y7 y8 g rm op la fo co cv ta rc ec su pe qt rn nu th' ++ [(o0, .inl (cJ, 1, .inr (.inl u')))])) [0, 1, 2, 3, 4, 5, 6, 7, 8, 9, 11, 12, 13, 14, 15, 16, 17, 18, 19, 10] rfl
  replace hD := hD.sub (ws' := wX cI cJ x0 x1 x2 x3 x4 x5 x6 x7 x8 x9 g rm op rc ec su pe qt rs rn cs cn lc hc lg hg ++ (wY cI cJ y0 y1 y2 y3 y4 y5 y6 y7 y8 g rm op la fo co cv ta rc ec su pe qt rn nu th' ++ [(o0, .inl (cJ, 1, .inr (.inl u')))])) [0, 1, 2, 3, 4, 5, 6, 7, 8, 9, 11, 12, 13, 14, 15, 16, 17, 18, 19, 10] (by decide) rfl
  refine lv_iload hx hb dL_law_1348 (lv_at hl 1 rfl) ?_
  refine lv_icmp_eq (tgt := 1355) hx hb dL_law_1350 (by decide) (fun c8 => ?_) (fun c8 => ?_)
  · refine lv_iload hx hb dL_law_1355 (lv_at hl 1 rfl) ?_
    refine lv_if_ne (tgt := 1372) hx hb dL_law_1357 (by decide) (fun c9 => ?_) (fun c9 => ?_)
    · refine lv_goto (tgt := 1563) hx hb dL_law_1372 (by decide) ?_
      exact kk _ _ _ ⟨g, rm, op, rc, ec, su, pe, qt, rs, rn, cs, cn, lc, hc, lg, hg, la, fo, co, cv, ta, nu, th', u', q, R, hg8, hVO, hrc, hsu, hqt, hVR, hP, hD, hS⟩ (lv_sub hl [2, 3, 4, 5, 6] rfl)
    · refine lv_aload_n hx hb dL_law_1360 rfl (lv_at hl 3 rfl) ?_
      refine lv_iconst (v := 0) hx hb dL_law_1361 (by decide) ?_
      refine va_lald hx hb hK hP 19 1 rfl rfl (show ¬ ((0 : Int32) < 0 ∨ 1 ≤ Int32.toNatClampNeg 0) by decide) dL_law_1362 ?_
      rw [hcmp c9]
      refine lv_iload hx hb dL_law_1363 (lv_at hl 0 rfl) ?_
      refine lv_i2l (v := Int32.toInt64 r1) hx hb dL_law_1365 rfl ?_
      refine lz_cmp hx hb dL_law_1366 ?_
      refine lv_if_eq (tgt := 1372) hx hb dL_law_1367 (by decide) (fun c8 => ?_) (fun c8 => ?_)
      · refine lv_goto (tgt := 1563) hx hb dL_law_1372 (by decide) ?_
        exact kk _ _ _ ⟨g, rm, op, rc, ec, su, pe, qt, rs, rn, cs, cn, lc, hc, lg, hg, la, fo, co, cv, ta, nu, th', u', q, R, hg8, hVO, hrc, hsu, hqt, hVR, hP, hD, hS⟩ (lv_sub hl [2, 3, 4, 5, 6] rfl)
      · exact (c8 rfl).elim
  · exact (c8 rfl).elim
set_option maxHeartbeats 4000000 in
set_option maxRecDepth 100000 in
theorem lz_byRoles {p : Program} {l : Launch} {e : Env} {s : State} {m : MethodId} {below : List Frame} {meth : Method} {c : Code} {Q : State → Prop} {b L : Nat} {xs : Nat → Int32} {D : va_G} {cI cJ : ClassId} {x0 x1 x2 x3 x4 x5 x6 x7 x8 x9 y0 y1 y2 y3 y4 y5 y6 y7 y8 o0 : Nat} {i : Int32} {cells slots : Nat} {H : Heap} {locs : List Loc} {ls : Array Slot} (hx : p.tables.exec = Jvm.exec) (hb : c.code = cL_law) (hml : c.maxLocals = 7) (hown : s.vm.findClass RL = some m.cls) (hts : ∀ w ∈ wsL_law, w.before ([Value.ref b] : List Value).toArray s = true) (hX : va_X b L xs s s.heap) (hbl : b < s.heap.size) (hst : l.stackTraces = false) (hK : va_K D vwCl [(cI, .int), (cJ, .long)] s) (hT : xThrL (lz_A s) s) (hi1 : vp_in (i + 1) L) (hi2 : vp_in (i + 2) L) (hi3 : vp_in (i + 3) L) (hI : lz_I D cI cJ x0 x1 x2 x3 x4 x5 x6 x7 x8 x9 y0 y1 y2 y3 y4 y5 y6 y7 y8 o0 s H locs) (hl : lv_has ls 7 [(4, .int i), (3, .ref o0), (2, .ref y0), (1, .ref x0), (0, .ref b)]) (hf : cells + 1 ≤ room_1.cells ∧ slots + 6 ≤ room_1.slots)
    (kk : ∀ (H1 : Heap) (locs1 : List Loc) (ls1 : Array Slot), lz_I D cI cJ x0 x1 x2 x3 x4 x5 x6 x7 x8 x9 y0 y1 y2 y3 y4 y5 y6 y7 y8 o0 s H1 locs1 → lv_has ls1 7 [(4, .int i), (3, .ref o0), (2, .ref y0), (1, .ref x0), (0, .ref b)] → W p l e room_1 s m ([Value.ref b] : List Value).toArray below meth c H1 locs1 (cells + 1) (slots + 6) Q (F0 m 1563 ls1 [])) : W p l e room_1 s m ([Value.ref b] : List Value).toArray below meth c H locs cells slots Q (F0 m 1375 ls []) := by
  obtain ⟨g, rm, op, rc, ec, su, pe, qt, rs, rn, cs, cn, lc, hc, lg, hg, la, fo, co, cv, ta, nu, th, u, q, R, hg8, hVO, hrc, hsu, hqt, hVR, hP, hD, hS⟩ := hI
  have hA : ∀ q, s.heap.size ≤ q → lz_A s q := fun q h9 => h9
  have hbA : ¬ lz_A s b := fun h9 => absurd hbl (Nat.not_lt.mpr h9)
  have hf0 : cells + 0 ≤ room_1.cells ∧ slots + 0 ≤ room_1.slots := ⟨Nat.le_trans (Nat.le_succ _) hf.1, Nat.le_trans (Nat.le_add_right _ _) hf.2⟩
  obtain ⟨r0, r1, th', e0, e1, hoc⟩ := s_byRoles hg8 hVR th (xs (Int32.toNatClampNeg (i + 1))) (fu := 100000) (by omega)
  obtain ⟨u', hres, hcmp⟩ := oc_i1 hoc u
  have hl : lv_has ls 7 [(4, .int i), (3, .ref o0), (2, .ref y0), (1, .ref x0), (0, .ref b)] := hl
  refine lv_aload_n hx hb dL_law_1375 rfl (lv_at hl 3 rfl) ?_
  refine lv_aload_n hx hb dL_law_1376 rfl (lv_at hl 4 rfl) ?_
  refine lv_iload hx hb dL_law_1377 (lv_at hl 0 rfl) ?_
  refine lv_iconst (v := 1) hx hb dL_law_1379 (by decide) ?_
  refine lv_iadd hx hb dL_law_1380 ?_
  refine va_sld hx hb hX hbl hbA hS hi1 dL_law_1381 ?_
  refine lv_aload_n hx hb dL_law_1382 rfl (lv_at hl 1 rfl) ?_
  refine lz_Wi (r0 := th') (As := [.ref x0, .int (xs (Int32.toNatClampNeg (i + 1))), .ref o0]) (rest := []) (wc := wX cI cJ x0 x1 x2 x3 x4 x5 x6 x7 x8 x9 g rm op rc ec su pe qt rs rn cs cn lc hc lg hg ++ [(o0, .inl (cJ, 1, .inr (.inl u)))]) (w1 := wX cI cJ x0 x1 x2 x3 x4 x5 x6 x7 x8 x9 g rm op rc ec su pe qt rs rn cs cn lc hc lg hg ++ [(o0, .inl (cJ, 1, .inr (.inl u')))]) (wr := wY cI cJ y0 y1 y2 y3 y4 y5 y6 y7 y8 g rm op la fo co cv ta rc ec su pe qt rn nu th) ⟨hx, hb, hml, hown, hts⟩ (c_L_byRoles l hst D cI cJ x0 x1 x2 x3 x4 x5 x6 x7 x8 x9 o0 _ g rm op rc ec su pe qt rs rn cs cn lc hc lg hg u 100000 (xs (Int32.toNatClampNeg (i + 1))) r0  e0 th' u' hres) (vx_cwSW 3 hts gL_law_L_byRoles rfl rfl rfl (by decide +kernel) ⟨Nat.le_of_ble_eq_true rfl, Nat.le_of_ble_eq_true rfl⟩) hK hP hD hS hA hT [0, 1, 2, 3, 4, 5, 6, 7, 8, 9, 19] [10, 11, 12, 13, 14, 15, 16, 17, 18] rfl rfl (by decide) (by decide) (by decide) rfl rfl hl.1 rfl (lv_room (Nat.le_of_ble_eq_true rfl)) dL_law_1383 hf (fun H locs hP hD hS => ?_)
  replace hP := hP.sub (ws' := wX cI cJ x0 x1 x2 x3 x4 x5 x6 x7 x8 x9 g rm op rc ec su pe qt rs rn cs cn lc hc lg hg ++ (wY cI cJ y0 y1 y2 y3 y4 y5 y6 y7 y8 g rm op la fo co cv ta rc ec su pe qt rn nu th ++ [(o0, .inl (cJ, 1, .inr (.inl u')))])) [9, 10, 11, 12, 13, 14, 15, 16, 17, 18, 0, 1, 2, 3, 4, 5, 6, 7, 8, 19] rfl
  replace hD := hD.sub (ws' := wX cI cJ x0 x1 x2 x3 x4 x5 x6 x7 x8 x9 g rm op rc ec su pe qt rs rn cs cn lc hc lg hg ++ (wY cI cJ y0 y1 y2 y3 y4 y5 y6 y7 y8 g rm op la fo co cv ta rc ec su pe qt rn nu th ++ [(o0, .inl (cJ, 1, .inr (.inl u')))])) [9, 10, 11, 12, 13, 14, 15, 16, 17, 18, 0, 1, 2, 3, 4, 5, 6, 7, 8, 19] (by decide) rfl
  refine lv_istore (lv' := [(5, .int th'), (4, .int i), (3, .ref o0), (2, .ref y0), (1, .ref x0), (0, .ref b)]) hx hb dL_law_1386 hl (by decide) rfl (fun ls hl => ?_)
  refine lv_aload_n hx hb dL_law_1388 rfl (lv_at hl 3 rfl) ?_
  refine lv_aload_n hx hb dL_law_1389 rfl (lv_at hl 5 rfl) ?_
  refine lv_iload hx hb dL_law_1390 (lv_at hl 1 rfl) ?_
  refine lv_iconst (v := 1) hx hb dL_law_1392 (by decide) ?_
  refine lv_iadd hx hb dL_law_1393 ?_
  refine va_sld hx hb hX hbl hbA hS hi1 dL_law_1394 ?_
  refine lz_Ti (r0 := r1) (As := [.int (xs (Int32.toNatClampNeg (i + 1)))]) (rest := []) (wc := wY cI cJ y0 y1 y2 y3 y4 y5 y6 y7 y8 g rm op la fo co cv ta rc ec su pe qt rn nu th) (w1 := wY cI cJ y0 y1 y2 y3 y4 y5 y6 y7 y8 g rm op la fo co cv ta rc ec su pe qt rn nu th') (wr := wX cI cJ x0 x1 x2 x3 x4 x5 x6 x7 x8 x9 g rm op rc ec su pe qt rs rn cs cn lc hc lg hg ++ [(o0, .inl (cJ, 1, .inr (.inl u')))]) ⟨hx, hb, hml, hown, hts⟩ (c_X1_byRoles l D cI cJ y0 y1 y2 y3 y4 y5 y6 y7 y8 _ g rm op la fo co cv ta rc ec su pe qt rn nu th 100000 (xs (Int32.toNatClampNeg (i + 1))) r1 th' e1) (cwV 1 hts gL_law_X1_byRoles rfl rfl rfl (by decide +kernel) ⟨Nat.le_of_ble_eq_true rfl, Nat.le_of_ble_eq_true rfl⟩) hK hP hD hS hA [10, 11, 12, 13, 14, 15, 16, 17, 18] [0, 1, 2, 3, 4, 5, 6, 7, 8, 9, 19] rfl rfl (by decide) (by decide) (by decide) rfl rfl rfl rfl hl.1 rfl (lv_room (Nat.le_of_ble_eq_true rfl)) dL_law_1395 hf (fun H locs hP hD hS => ?_)
  replace hP := hP.sub (ws' := wX cI cJ x0 x1 x2 x3 x4 x5 x6 x7 x8 x9 g rm op rc ec su pe qt rs rn cs cn lc hc lg hg ++ (wY cI cJ y0 y1 y2 y3 y4 y5 y6 y7 y8 g rm op la fo co cv ta rc ec su pe qt rn nu th' ++ [(o0, .inl (cJ, 1, .inr (.inl u')))])) [0, 1, 2, 3, 4, 5, 6, 7, 8, 9, 11, 12, 13, 14, 15, 16, 17, 18, 19, 10] rfl
  replace hD := hD.sub (ws' := wX cI cJ x0 x1 x2 x3 x4 x5 x6 x7 x8 x9 g rm op rc ec su pe qt rs rn cs cn lc hc lg hg ++ (wY cI cJ y0 y1 y2 y3 y4 y5 y6 y7 y8 g rm op la fo co cv ta rc ec su pe qt rn nu th' ++ [(o0, .inl (cJ, 1, .inr (.inl u')))])) [0, 1, 2, 3, 4, 5, 6, 7, 8, 9, 11, 12, 13, 14, 15, 16, 17, 18, 19, 10] (by decide) rfl
  refine lv_istore (lv' := [(6, .int r1), (5, .int th'), (4, .int i), (3, .ref o0), (2, .ref y0), (1, .ref x0), (0, .ref b)]) hx hb dL_law_1398 hl (by decide) rfl (fun ls hl => ?_)
  refine lv_aload_n hx hb dL_law_1400 rfl (lv_at hl 4 rfl) ?_
  refine lz_Ti (r0 := m_X1_thrown th') (As := []) (rest := []) (wc := wY cI cJ y0 y1 y2 y3 y4 y5 y6 y7 y8 g rm op la fo co cv ta rc ec su pe qt rn nu th') (w1 := wY cI cJ y0 y1 y2 y3 y4 y5 y6 y7 y8 g rm op la fo co cv ta rc ec su pe qt rn nu th') (wr := wX cI cJ x0 x1 x2 x3 x4 x5 x6 x7 x8 x9 g rm op rc ec su pe qt rs rn cs cn lc hc lg hg ++ [(o0, .inl (cJ, 1, .inr (.inl u')))]) ⟨hx, hb, hml, hown, hts⟩ (c_X1_thrown l D cI cJ y0 y1 y2 y3 y4 y5 y6 y7 y8 _ g rm op la fo co cv ta rc ec su pe qt rn nu th') (cwV 0 hts gL_law_X1_thrown rfl rfl rfl (by decide +kernel) ⟨Nat.le_of_ble_eq_true rfl, Nat.le_of_ble_eq_true rfl⟩) hK hP hD hS hA [10, 11, 12, 13, 14, 15, 16, 17, 18] [0, 1, 2, 3, 4, 5, 6, 7, 8, 9, 19] rfl rfl (by decide) (by decide) (by decide) rfl rfl rfl rfl hl.1 rfl (lv_room (Nat.le_of_ble_eq_true rfl)) dL_law_1401 hf (fun H locs hP hD hS => ?_)
  replace hP := hP.sub (ws' := wX cI cJ x0 x1 x2 x3 x4 x5 x6 x7 x8 x9 g rm op rc ec su pe qt rs rn cs cn lc hc lg hg ++ (wY cI cJ y0 y1 y2 y3 y4 y5 y6 y7 y8 g rm op la fo co cv ta rc ec su pe qt rn nu th' ++ [(o0, .inl (cJ, 1, .inr (.inl u')))])) [0, 1, 2, 3, 4, 5, 6, 7, 8, 9, 11, 12, 13, 14, 15, 16, 17, 18, 19, 10] rfl
  replace hD := hD.sub (ws' := wX cI cJ x0 x1 x2 x3 x4 x5 x6 x7 x8 x9 g rm op rc ec su pe qt rs rn cs cn lc hc lg hg ++ (wY cI cJ y0 y1 y2 y3 y4 y5 y6 y7 y8 g rm op la fo co cv ta rc ec su pe qt rn nu th' ++ [(o0, .inl (cJ, 1, .inr (.inl u')))])) [0, 1, 2, 3, 4, 5, 6, 7, 8, 9, 11, 12, 13, 14, 15, 16, 17, 18, 19, 10] (by decide) rfl
  refine lv_iload hx hb dL_law_1404 (lv_at hl 1 rfl) ?_
  refine lv_icmp_eq (tgt := 1411) hx hb dL_law_1406 (by decide) (fun c8 => ?_) (fun c8 => ?_)
  · refine lv_iload hx hb dL_law_1411 (lv_at hl 1 rfl) ?_
    refine lv_if_ne (tgt := 1428) hx hb dL_law_1413 (by decide) (fun c9 => ?_) (fun c9 => ?_)
    · refine lv_goto (tgt := 1563) hx hb dL_law_1428 (by decide) ?_
      exact kk _ _ _ ⟨g, rm, op, rc, ec, su, pe, qt, rs, rn, cs, cn, lc, hc, lg, hg, la, fo, co, cv, ta, nu, th', u', q, R, hg8, hVO, hrc, hsu, hqt, hVR, hP, hD, hS⟩ (lv_sub hl [2, 3, 4, 5, 6] rfl)
    · refine lv_aload_n hx hb dL_law_1416 rfl (lv_at hl 3 rfl) ?_
      refine lv_iconst (v := 0) hx hb dL_law_1417 (by decide) ?_
      refine va_lald hx hb hK hP 19 1 rfl rfl (show ¬ ((0 : Int32) < 0 ∨ 1 ≤ Int32.toNatClampNeg 0) by decide) dL_law_1418 ?_
      rw [hcmp c9]
      refine lv_iload hx hb dL_law_1419 (lv_at hl 0 rfl) ?_
      refine lv_i2l (v := Int32.toInt64 r1) hx hb dL_law_1421 rfl ?_
      refine lz_cmp hx hb dL_law_1422 ?_
      refine lv_if_eq (tgt := 1428) hx hb dL_law_1423 (by decide) (fun c8 => ?_) (fun c8 => ?_)
      · refine lv_goto (tgt := 1563) hx hb dL_law_1428 (by decide) ?_
        exact kk _ _ _ ⟨g, rm, op, rc, ec, su, pe, qt, rs, rn, cs, cn, lc, hc, lg, hg, la, fo, co, cv, ta, nu, th', u', q, R, hg8, hVO, hrc, hsu, hqt, hVR, hP, hD, hS⟩ (lv_sub hl [2, 3, 4, 5, 6] rfl)
      · exact (c8 rfl).elim
  · exact (c8 rfl).elim
set_option maxHeartbeats 4000000 in
set_option maxRecDepth 100000 in
theorem lz_exceptions {p : Program} {l : Launch} {e : Env} {s : State} {m : MethodId} {below : List Frame} {meth : Method} {c : Code} {Q : State → Prop} {b L : Nat} {xs : Nat → Int32} {D : va_G} {cI cJ : ClassId} {x0 x1 x2 x3 x4 x5 x6 x7 x8 x9 y0 y1 y2 y3 y4 y5 y6 y7 y8 o0 : Nat} {i : Int32} {cells slots : Nat} {H : Heap} {locs : List Loc} {ls : Array Slot} (hx : p.tables.exec = Jvm.exec) (hb : c.code = cL_law) (hml : c.maxLocals = 7) (hown : s.vm.findClass RL = some m.cls) (hts : ∀ w ∈ wsL_law, w.before ([Value.ref b] : List Value).toArray s = true) (hX : va_X b L xs s s.heap) (hbl : b < s.heap.size) (hst : l.stackTraces = false) (hK : va_K D vwCl [(cI, .int), (cJ, .long)] s) (hT : xThrL (lz_A s) s) (hi1 : vp_in (i + 1) L) (hi2 : vp_in (i + 2) L) (hi3 : vp_in (i + 3) L) (hI : lz_I D cI cJ x0 x1 x2 x3 x4 x5 x6 x7 x8 x9 y0 y1 y2 y3 y4 y5 y6 y7 y8 o0 s H locs) (hl : lv_has ls 7 [(4, .int i), (3, .ref o0), (2, .ref y0), (1, .ref x0), (0, .ref b)]) (hf : cells + 1 ≤ room_1.cells ∧ slots + 6 ≤ room_1.slots)
    (kk : ∀ (H1 : Heap) (locs1 : List Loc) (ls1 : Array Slot), lz_I D cI cJ x0 x1 x2 x3 x4 x5 x6 x7 x8 x9 y0 y1 y2 y3 y4 y5 y6 y7 y8 o0 s H1 locs1 → lv_has ls1 7 [(4, .int i), (3, .ref o0), (2, .ref y0), (1, .ref x0), (0, .ref b)] → W p l e room_1 s m ([Value.ref b] : List Value).toArray below meth c H1 locs1 (cells + 1) (slots + 6) Q (F0 m 1563 ls1 [])) : W p l e room_1 s m ([Value.ref b] : List Value).toArray below meth c H locs cells slots Q (F0 m 1431 ls []) := by
  obtain ⟨g, rm, op, rc, ec, su, pe, qt, rs, rn, cs, cn, lc, hc, lg, hg, la, fo, co, cv, ta, nu, th, u, q, R, hg8, hVO, hrc, hsu, hqt, hVR, hP, hD, hS⟩ := hI
  have hA : ∀ q, s.heap.size ≤ q → lz_A s q := fun q h9 => h9
  have hbA : ¬ lz_A s b := fun h9 => absurd hbl (Nat.not_lt.mpr h9)
  have hf0 : cells + 0 ≤ room_1.cells ∧ slots + 0 ≤ room_1.slots := ⟨Nat.le_trans (Nat.le_succ _) hf.1, Nat.le_trans (Nat.le_add_right _ _) hf.2⟩
  obtain ⟨r0, r1, th', e0, e1, hoc⟩ := s_exceptions hg8 hVR th (xs (Int32.toNatClampNeg (i + 1))) (fu := 100000) (by omega)
  obtain ⟨u', hres, hcmp⟩ := oc_i1 hoc u
  have hl : lv_has ls 7 [(4, .int i), (3, .ref o0), (2, .ref y0), (1, .ref x0), (0, .ref b)] := hl
  refine lv_aload_n hx hb dL_law_1431 rfl (lv_at hl 3 rfl) ?_
  refine lv_aload_n hx hb dL_law_1432 rfl (lv_at hl 4 rfl) ?_
  refine lv_iload hx hb dL_law_1433 (lv_at hl 0 rfl) ?_
  refine lv_iconst (v := 1) hx hb dL_law_1435 (by decide) ?_
  refine lv_iadd hx hb dL_law_1436 ?_
  refine va_sld hx hb hX hbl hbA hS hi1 dL_law_1437 ?_
  refine lv_aload_n hx hb dL_law_1438 rfl (lv_at hl 1 rfl) ?_
  refine lz_Wi (r0 := th') (As := [.ref x0, .int (xs (Int32.toNatClampNeg (i + 1))), .ref o0]) (rest := []) (wc := wX cI cJ x0 x1 x2 x3 x4 x5 x6 x7 x8 x9 g rm op rc ec su pe qt rs rn cs cn lc hc lg hg ++ [(o0, .inl (cJ, 1, .inr (.inl u)))]) (w1 := wX cI cJ x0 x1 x2 x3 x4 x5 x6 x7 x8 x9 g rm op rc ec su pe qt rs rn cs cn lc hc lg hg ++ [(o0, .inl (cJ, 1, .inr (.inl u')))]) (wr := wY cI cJ y0 y1 y2 y3 y4 y5 y6 y7 y8 g rm op la fo co cv ta rc ec su pe qt rn nu th) ⟨hx, hb, hml, hown, hts⟩ (c_L_exceptions l hst D cI cJ x0 x1 x2 x3 x4 x5 x6 x7 x8 x9 o0 _ g rm op rc ec su pe qt rs rn cs cn lc hc lg hg u 100000 (xs (Int32.toNatClampNeg (i + 1))) r0  e0 th' u' hres) (vx_cwSW 3 hts gL_law_L_exceptions rfl rfl rfl (by decide +kernel) ⟨Nat.le_of_ble_eq_true rfl, Nat.le_of_ble_eq_true rfl⟩) hK hP hD hS hA hT [0, 1, 2, 3, 4, 5, 6, 7, 8, 9, 19] [10, 11, 12, 13, 14, 15, 16, 17, 18] rfl rfl (by decide) (by decide) (by decide) rfl rfl hl.1 rfl (lv_room (Nat.le_of_ble_eq_true rfl)) dL_law_1439 hf (fun H locs hP hD hS => ?_)
  replace hP := hP.sub (ws' := wX cI cJ x0 x1 x2 x3 x4 x5 x6 x7 x8 x9 g rm op rc ec su pe qt rs rn cs cn lc hc lg hg ++ (wY cI cJ y0 y1 y2 y3 y4 y5 y6 y7 y8 g rm op la fo co cv ta rc ec su pe qt rn nu th ++ [(o0, .inl (cJ, 1, .inr (.inl u')))])) [9, 10, 11, 12, 13, 14, 15, 16, 17, 18, 0, 1, 2, 3, 4, 5, 6, 7, 8, 19] rfl
  replace hD := hD.sub (ws' := wX cI cJ x0 x1 x2 x3 x4 x5 x6 x7 x8 x9 g rm op rc ec su pe qt rs rn cs cn lc hc lg hg ++ (wY cI cJ y0 y1 y2 y3 y4 y5 y6 y7 y8 g rm op la fo co cv ta rc ec su pe qt rn nu th ++ [(o0, .inl (cJ, 1, .inr (.inl u')))])) [9, 10, 11, 12, 13, 14, 15, 16, 17, 18, 0, 1, 2, 3, 4, 5, 6, 7, 8, 19] (by decide) rfl
  refine lv_istore (lv' := [(5, .int th'), (4, .int i), (3, .ref o0), (2, .ref y0), (1, .ref x0), (0, .ref b)]) hx hb dL_law_1442 hl (by decide) rfl (fun ls hl => ?_)
  refine lv_aload_n hx hb dL_law_1444 rfl (lv_at hl 3 rfl) ?_
  refine lv_aload_n hx hb dL_law_1445 rfl (lv_at hl 5 rfl) ?_
  refine lv_iload hx hb dL_law_1446 (lv_at hl 1 rfl) ?_
  refine lv_iconst (v := 1) hx hb dL_law_1448 (by decide) ?_
  refine lv_iadd hx hb dL_law_1449 ?_
  refine va_sld hx hb hX hbl hbA hS hi1 dL_law_1450 ?_
  refine lz_Ti (r0 := r1) (As := [.int (xs (Int32.toNatClampNeg (i + 1)))]) (rest := []) (wc := wY cI cJ y0 y1 y2 y3 y4 y5 y6 y7 y8 g rm op la fo co cv ta rc ec su pe qt rn nu th) (w1 := wY cI cJ y0 y1 y2 y3 y4 y5 y6 y7 y8 g rm op la fo co cv ta rc ec su pe qt rn nu th') (wr := wX cI cJ x0 x1 x2 x3 x4 x5 x6 x7 x8 x9 g rm op rc ec su pe qt rs rn cs cn lc hc lg hg ++ [(o0, .inl (cJ, 1, .inr (.inl u')))]) ⟨hx, hb, hml, hown, hts⟩ (c_X1_exceptions l D cI cJ y0 y1 y2 y3 y4 y5 y6 y7 y8 _ g rm op la fo co cv ta rc ec su pe qt rn nu th 100000 (xs (Int32.toNatClampNeg (i + 1))) r1 th' e1) (cwV 1 hts gL_law_X1_exceptions rfl rfl rfl (by decide +kernel) ⟨Nat.le_of_ble_eq_true rfl, Nat.le_of_ble_eq_true rfl⟩) hK hP hD hS hA [10, 11, 12, 13, 14, 15, 16, 17, 18] [0, 1, 2, 3, 4, 5, 6, 7, 8, 9, 19] rfl rfl (by decide) (by decide) (by decide) rfl rfl rfl rfl hl.1 rfl (lv_room (Nat.le_of_ble_eq_true rfl)) dL_law_1451 hf (fun H locs hP hD hS => ?_)
  replace hP := hP.sub (ws' := wX cI cJ x0 x1 x2 x3 x4 x5 x6 x7 x8 x9 g rm op rc ec su pe qt rs rn cs cn lc hc lg hg ++ (wY cI cJ y0 y1 y2 y3 y4 y5 y6 y7 y8 g rm op la fo co cv ta rc ec su pe qt rn nu th' ++ [(o0, .inl (cJ, 1, .inr (.inl u')))])) [0, 1, 2, 3, 4, 5, 6, 7, 8, 9, 11, 12, 13, 14, 15, 16, 17, 18, 19, 10] rfl
  replace hD := hD.sub (ws' := wX cI cJ x0 x1 x2 x3 x4 x5 x6 x7 x8 x9 g rm op rc ec su pe qt rs rn cs cn lc hc lg hg ++ (wY cI cJ y0 y1 y2 y3 y4 y5 y6 y7 y8 g rm op la fo co cv ta rc ec su pe qt rn nu th' ++ [(o0, .inl (cJ, 1, .inr (.inl u')))])) [0, 1, 2, 3, 4, 5, 6, 7, 8, 9, 11, 12, 13, 14, 15, 16, 17, 18, 19, 10] (by decide) rfl
  refine lv_istore (lv' := [(6, .int r1), (5, .int th'), (4, .int i), (3, .ref o0), (2, .ref y0), (1, .ref x0), (0, .ref b)]) hx hb dL_law_1454 hl (by decide) rfl (fun ls hl => ?_)
  refine lv_aload_n hx hb dL_law_1456 rfl (lv_at hl 4 rfl) ?_
  refine lz_Ti (r0 := m_X1_thrown th') (As := []) (rest := []) (wc := wY cI cJ y0 y1 y2 y3 y4 y5 y6 y7 y8 g rm op la fo co cv ta rc ec su pe qt rn nu th') (w1 := wY cI cJ y0 y1 y2 y3 y4 y5 y6 y7 y8 g rm op la fo co cv ta rc ec su pe qt rn nu th') (wr := wX cI cJ x0 x1 x2 x3 x4 x5 x6 x7 x8 x9 g rm op rc ec su pe qt rs rn cs cn lc hc lg hg ++ [(o0, .inl (cJ, 1, .inr (.inl u')))]) ⟨hx, hb, hml, hown, hts⟩ (c_X1_thrown l D cI cJ y0 y1 y2 y3 y4 y5 y6 y7 y8 _ g rm op la fo co cv ta rc ec su pe qt rn nu th') (cwV 0 hts gL_law_X1_thrown rfl rfl rfl (by decide +kernel) ⟨Nat.le_of_ble_eq_true rfl, Nat.le_of_ble_eq_true rfl⟩) hK hP hD hS hA [10, 11, 12, 13, 14, 15, 16, 17, 18] [0, 1, 2, 3, 4, 5, 6, 7, 8, 9, 19] rfl rfl (by decide) (by decide) (by decide) rfl rfl rfl rfl hl.1 rfl (lv_room (Nat.le_of_ble_eq_true rfl)) dL_law_1457 hf (fun H locs hP hD hS => ?_)
  replace hP := hP.sub (ws' := wX cI cJ x0 x1 x2 x3 x4 x5 x6 x7 x8 x9 g rm op rc ec su pe qt rs rn cs cn lc hc lg hg ++ (wY cI cJ y0 y1 y2 y3 y4 y5 y6 y7 y8 g rm op la fo co cv ta rc ec su pe qt rn nu th' ++ [(o0, .inl (cJ, 1, .inr (.inl u')))])) [0, 1, 2, 3, 4, 5, 6, 7, 8, 9, 11, 12, 13, 14, 15, 16, 17, 18, 19, 10] rfl
  replace hD := hD.sub (ws' := wX cI cJ x0 x1 x2 x3 x4 x5 x6 x7 x8 x9 g rm op rc ec su pe qt rs rn cs cn lc hc lg hg ++ (wY cI cJ y0 y1 y2 y3 y4 y5 y6 y7 y8 g rm op la fo co cv ta rc ec su pe qt rn nu th' ++ [(o0, .inl (cJ, 1, .inr (.inl u')))])) [0, 1, 2, 3, 4, 5, 6, 7, 8, 9, 11, 12, 13, 14, 15, 16, 17, 18, 19, 10] (by decide) rfl
  refine lv_iload hx hb dL_law_1460 (lv_at hl 1 rfl) ?_
  refine lv_icmp_eq (tgt := 1467) hx hb dL_law_1462 (by decide) (fun c8 => ?_) (fun c8 => ?_)
  · refine lv_iload hx hb dL_law_1467 (lv_at hl 1 rfl) ?_
    refine lv_if_ne (tgt := 1484) hx hb dL_law_1469 (by decide) (fun c9 => ?_) (fun c9 => ?_)
    · refine lv_goto (tgt := 1563) hx hb dL_law_1484 (by decide) ?_
      exact kk _ _ _ ⟨g, rm, op, rc, ec, su, pe, qt, rs, rn, cs, cn, lc, hc, lg, hg, la, fo, co, cv, ta, nu, th', u', q, R, hg8, hVO, hrc, hsu, hqt, hVR, hP, hD, hS⟩ (lv_sub hl [2, 3, 4, 5, 6] rfl)
    · refine lv_aload_n hx hb dL_law_1472 rfl (lv_at hl 3 rfl) ?_
      refine lv_iconst (v := 0) hx hb dL_law_1473 (by decide) ?_
      refine va_lald hx hb hK hP 19 1 rfl rfl (show ¬ ((0 : Int32) < 0 ∨ 1 ≤ Int32.toNatClampNeg 0) by decide) dL_law_1474 ?_
      rw [hcmp c9]
      refine lv_iload hx hb dL_law_1475 (lv_at hl 0 rfl) ?_
      refine lv_i2l (v := Int32.toInt64 r1) hx hb dL_law_1477 rfl ?_
      refine lz_cmp hx hb dL_law_1478 ?_
      refine lv_if_eq (tgt := 1484) hx hb dL_law_1479 (by decide) (fun c8 => ?_) (fun c8 => ?_)
      · refine lv_goto (tgt := 1563) hx hb dL_law_1484 (by decide) ?_
        exact kk _ _ _ ⟨g, rm, op, rc, ec, su, pe, qt, rs, rn, cs, cn, lc, hc, lg, hg, la, fo, co, cv, ta, nu, th', u', q, R, hg8, hVO, hrc, hsu, hqt, hVR, hP, hD, hS⟩ (lv_sub hl [2, 3, 4, 5, 6] rfl)
      · exact (c8 rfl).elim
  · exact (c8 rfl).elim
set_option maxHeartbeats 4000000 in
set_option maxRecDepth 100000 in
theorem lz_cost {p : Program} {l : Launch} {e : Env} {s : State} {m : MethodId} {below : List Frame} {meth : Method} {c : Code} {Q : State → Prop} {b L : Nat} {xs : Nat → Int32} {D : va_G} {cI cJ : ClassId} {x0 x1 x2 x3 x4 x5 x6 x7 x8 x9 y0 y1 y2 y3 y4 y5 y6 y7 y8 o0 : Nat} {i : Int32} {cells slots : Nat} {H : Heap} {locs : List Loc} {ls : Array Slot} (hx : p.tables.exec = Jvm.exec) (hb : c.code = cL_law) (hml : c.maxLocals = 7) (hown : s.vm.findClass RL = some m.cls) (hts : ∀ w ∈ wsL_law, w.before ([Value.ref b] : List Value).toArray s = true) (hX : va_X b L xs s s.heap) (hbl : b < s.heap.size) (hst : l.stackTraces = false) (hK : va_K D vwCl [(cI, .int), (cJ, .long)] s) (hT : xThrL (lz_A s) s) (hi1 : vp_in (i + 1) L) (hi2 : vp_in (i + 2) L) (hi3 : vp_in (i + 3) L) (hI : lz_I D cI cJ x0 x1 x2 x3 x4 x5 x6 x7 x8 x9 y0 y1 y2 y3 y4 y5 y6 y7 y8 o0 s H locs) (hl : lv_has ls 7 [(4, .int i), (3, .ref o0), (2, .ref y0), (1, .ref x0), (0, .ref b)]) (hf : cells + 1 ≤ room_1.cells ∧ slots + 6 ≤ room_1.slots)
    (kk : ∀ (H1 : Heap) (locs1 : List Loc) (ls1 : Array Slot), lz_I D cI cJ x0 x1 x2 x3 x4 x5 x6 x7 x8 x9 y0 y1 y2 y3 y4 y5 y6 y7 y8 o0 s H1 locs1 → lv_has ls1 7 [(4, .int i), (3, .ref o0), (2, .ref y0), (1, .ref x0), (0, .ref b)] → W p l e room_1 s m ([Value.ref b] : List Value).toArray below meth c H1 locs1 (cells + 1) (slots + 6) Q (F0 m 1563 ls1 [])) : W p l e room_1 s m ([Value.ref b] : List Value).toArray below meth c H locs cells slots Q (F0 m 1487 ls []) := by
  obtain ⟨g, rm, op, rc, ec, su, pe, qt, rs, rn, cs, cn, lc, hc, lg, hg, la, fo, co, cv, ta, nu, th, u, q, R, hg8, hVO, hrc, hsu, hqt, hVR, hP, hD, hS⟩ := hI
  have hA : ∀ q, s.heap.size ≤ q → lz_A s q := fun q h9 => h9
  have hbA : ¬ lz_A s b := fun h9 => absurd hbl (Nat.not_lt.mpr h9)
  have hf0 : cells + 0 ≤ room_1.cells ∧ slots + 0 ≤ room_1.slots := ⟨Nat.le_trans (Nat.le_succ _) hf.1, Nat.le_trans (Nat.le_add_right _ _) hf.2⟩
  obtain ⟨r0, e0, e1⟩ := s_cost hg8 hVR rc ec th (fu := 100000) (by omega)
  have hl : lv_has ls 7 [(4, .int i), (3, .ref o0), (2, .ref y0), (1, .ref x0), (0, .ref b)] := hl
  refine lv_aload_n hx hb dL_law_1487 rfl (lv_at hl 3 rfl) ?_
  refine lz_Ti (r0 := r0) (As := []) (rest := []) (wc := wX cI cJ x0 x1 x2 x3 x4 x5 x6 x7 x8 x9 g rm op rc ec su pe qt rs rn cs cn lc hc lg hg) (w1 := wX cI cJ x0 x1 x2 x3 x4 x5 x6 x7 x8 x9 g rm op rc ec su pe qt rs rn cs cn lc hc lg hg) (wr := wY cI cJ y0 y1 y2 y3 y4 y5 y6 y7 y8 g rm op la fo co cv ta rc ec su pe qt rn nu th ++ [(o0, .inl (cJ, 1, .inr (.inl u)))]) ⟨hx, hb, hml, hown, hts⟩ (c_X0_cost l D cI cJ x0 x1 x2 x3 x4 x5 x6 x7 x8 x9 _ g rm op rc ec su pe qt rs rn cs cn lc hc lg hg 100000  r0  e0) (cwV 0 hts gL_law_X0_cost rfl rfl rfl (by decide +kernel) ⟨Nat.le_of_ble_eq_true rfl, Nat.le_of_ble_eq_true rfl⟩) hK hP hD hS hA [0, 1, 2, 3, 4, 5, 6, 7, 8, 9] [10, 11, 12, 13, 14, 15, 16, 17, 18, 19] rfl rfl (by decide) (by decide) (by decide) rfl rfl rfl rfl hl.1 rfl (lv_room (Nat.le_of_ble_eq_true rfl)) dL_law_1488 hf0 (fun H locs hP hD hS => ?_)
  replace hP := hP.sub (ws' := wX cI cJ x0 x1 x2 x3 x4 x5 x6 x7 x8 x9 g rm op rc ec su pe qt rs rn cs cn lc hc lg hg ++ (wY cI cJ y0 y1 y2 y3 y4 y5 y6 y7 y8 g rm op la fo co cv ta rc ec su pe qt rn nu th ++ [(o0, .inl (cJ, 1, .inr (.inl u)))])) [10, 11, 12, 13, 14, 15, 16, 17, 18, 19, 0, 1, 2, 3, 4, 5, 6, 7, 8, 9] rfl
  replace hD := hD.sub (ws' := wX cI cJ x0 x1 x2 x3 x4 x5 x6 x7 x8 x9 g rm op rc ec su pe qt rs rn cs cn lc hc lg hg ++ (wY cI cJ y0 y1 y2 y3 y4 y5 y6 y7 y8 g rm op la fo co cv ta rc ec su pe qt rn nu th ++ [(o0, .inl (cJ, 1, .inr (.inl u)))])) [10, 11, 12, 13, 14, 15, 16, 17, 18, 19, 0, 1, 2, 3, 4, 5, 6, 7, 8, 9] (by decide) rfl
  refine lv_aload_n hx hb dL_law_1491 rfl (lv_at hl 2 rfl) ?_
  refine lz_Ti (r0 := r0) (As := []) (rest := [.int r0]) (wc := wY cI cJ y0 y1 y2 y3 y4 y5 y6 y7 y8 g rm op la fo co cv ta rc ec su pe qt rn nu th) (w1 := wY cI cJ y0 y1 y2 y3 y4 y5 y6 y7 y8 g rm op la fo co cv ta rc ec su pe qt rn nu 0) (wr := wX cI cJ x0 x1 x2 x3 x4 x5 x6 x7 x8 x9 g rm op rc ec su pe qt rs rn cs cn lc hc lg hg ++ [(o0, .inl (cJ, 1, .inr (.inl u)))]) ⟨hx, hb, hml, hown, hts⟩ (c_X1_cost l D cI cJ y0 y1 y2 y3 y4 y5 y6 y7 y8 _ g rm op la fo co cv ta rc ec su pe qt rn nu th 100000  r0 0 e1) (cwV 0 hts gL_law_X1_cost rfl rfl rfl (by decide +kernel) ⟨Nat.le_of_ble_eq_true rfl, Nat.le_of_ble_eq_true rfl⟩) hK hP hD hS hA [10, 11, 12, 13, 14, 15, 16, 17, 18] [0, 1, 2, 3, 4, 5, 6, 7, 8, 9, 19] rfl rfl (by decide) (by decide) (by decide) rfl rfl rfl rfl hl.1 rfl (lv_room (Nat.le_of_ble_eq_true rfl)) dL_law_1492 hf0 (fun H locs hP hD hS => ?_)
  replace hP := hP.sub (ws' := wX cI cJ x0 x1 x2 x3 x4 x5 x6 x7 x8 x9 g rm op rc ec su pe qt rs rn cs cn lc hc lg hg ++ (wY cI cJ y0 y1 y2 y3 y4 y5 y6 y7 y8 g rm op la fo co cv ta rc ec su pe qt rn nu 0 ++ [(o0, .inl (cJ, 1, .inr (.inl u)))])) [0, 1, 2, 3, 4, 5, 6, 7, 8, 9, 11, 12, 13, 14, 15, 16, 17, 18, 19, 10] rfl
  replace hD := hD.sub (ws' := wX cI cJ x0 x1 x2 x3 x4 x5 x6 x7 x8 x9 g rm op rc ec su pe qt rs rn cs cn lc hc lg hg ++ (wY cI cJ y0 y1 y2 y3 y4 y5 y6 y7 y8 g rm op la fo co cv ta rc ec su pe qt rn nu 0 ++ [(o0, .inl (cJ, 1, .inr (.inl u)))])) [0, 1, 2, 3, 4, 5, 6, 7, 8, 9, 11, 12, 13, 14, 15, 16, 17, 18, 19, 10] (by decide) rfl
  refine lv_icmp_eq (tgt := 1563) hx hb dL_law_1495 (by decide) (fun c8 => ?_) (fun c8 => ?_)
  · refine W.widen (k := cells + 1) (n := slots + 6) (Nat.le_succ _) (Nat.le_add_right _ _) ?_
    exact kk _ _ _ ⟨g, rm, op, rc, ec, su, pe, qt, rs, rn, cs, cn, lc, hc, lg, hg, la, fo, co, cv, ta, nu, 0, u, q, R, hg8, hVO, hrc, hsu, hqt, hVR, hP, hD, hS⟩ (lv_sub hl [0, 1, 2, 3, 4] rfl)
  · exact (c8 rfl).elim
set_option maxHeartbeats 4000000 in
set_option maxRecDepth 100000 in
theorem lz_isRisky {p : Program} {l : Launch} {e : Env} {s : State} {m : MethodId} {below : List Frame} {meth : Method} {c : Code} {Q : State → Prop} {b L : Nat} {xs : Nat → Int32} {D : va_G} {cI cJ : ClassId} {x0 x1 x2 x3 x4 x5 x6 x7 x8 x9 y0 y1 y2 y3 y4 y5 y6 y7 y8 o0 : Nat} {i : Int32} {cells slots : Nat} {H : Heap} {locs : List Loc} {ls : Array Slot} (hx : p.tables.exec = Jvm.exec) (hb : c.code = cL_law) (hml : c.maxLocals = 7) (hown : s.vm.findClass RL = some m.cls) (hts : ∀ w ∈ wsL_law, w.before ([Value.ref b] : List Value).toArray s = true) (hX : va_X b L xs s s.heap) (hbl : b < s.heap.size) (hst : l.stackTraces = false) (hK : va_K D vwCl [(cI, .int), (cJ, .long)] s) (hT : xThrL (lz_A s) s) (hi1 : vp_in (i + 1) L) (hi2 : vp_in (i + 2) L) (hi3 : vp_in (i + 3) L) (hI : lz_I D cI cJ x0 x1 x2 x3 x4 x5 x6 x7 x8 x9 y0 y1 y2 y3 y4 y5 y6 y7 y8 o0 s H locs) (hl : lv_has ls 7 [(4, .int i), (3, .ref o0), (2, .ref y0), (1, .ref x0), (0, .ref b)]) (hf : cells + 1 ≤ room_1.cells ∧ slots + 6 ≤ room_1.slots)
    (kk : ∀ (H1 : Heap) (locs1 : List Loc) (ls1 : Array Slot), lz_I D cI cJ x0 x1 x2 x3 x4 x5 x6 x7 x8 x9 y0 y1 y2 y3 y4 y5 y6 y7 y8 o0 s H1 locs1 → lv_has ls1 7 [(4, .int i), (3, .ref o0), (2, .ref y0), (1, .ref x0), (0, .ref b)] → W p l e room_1 s m ([Value.ref b] : List Value).toArray below meth c H1 locs1 (cells + 1) (slots + 6) Q (F0 m 1563 ls1 [])) : W p l e room_1 s m ([Value.ref b] : List Value).toArray below meth c H locs cells slots Q (F0 m 1500 ls []) := by
  obtain ⟨g, rm, op, rc, ec, su, pe, qt, rs, rn, cs, cn, lc, hc, lg, hg, la, fo, co, cv, ta, nu, th, u, q, R, hg8, hVO, hrc, hsu, hqt, hVR, hP, hD, hS⟩ := hI
  have hA : ∀ q, s.heap.size ≤ q → lz_A s q := fun q h9 => h9
  have hbA : ¬ lz_A s b := fun h9 => absurd hbl (Nat.not_lt.mpr h9)
  have hf0 : cells + 0 ≤ room_1.cells ∧ slots + 0 ≤ room_1.slots := ⟨Nat.le_trans (Nat.le_succ _) hf.1, Nat.le_trans (Nat.le_add_right _ _) hf.2⟩
  obtain ⟨r0, r1, th', e0, e1, hoc⟩ := s_isRisky hg8 hVO.1 hVR th (xs (Int32.toNatClampNeg (i + 1))) (fu := 100000) (by omega)
  obtain ⟨u', hres, hcmp⟩ := oc_b1 hoc u
  have hl : lv_has ls 7 [(4, .int i), (3, .ref o0), (2, .ref y0), (1, .ref x0), (0, .ref b)] := hl
  refine lv_aload_n hx hb dL_law_1500 rfl (lv_at hl 3 rfl) ?_
  refine lv_aload_n hx hb dL_law_1501 rfl (lv_at hl 4 rfl) ?_
  refine lv_iload hx hb dL_law_1502 (lv_at hl 0 rfl) ?_
  refine lv_iconst (v := 1) hx hb dL_law_1504 (by decide) ?_
  refine lv_iadd hx hb dL_law_1505 ?_
  refine va_sld hx hb hX hbl hbA hS hi1 dL_law_1506 ?_
  refine lv_aload_n hx hb dL_law_1507 rfl (lv_at hl 1 rfl) ?_
  refine lz_Wi (r0 := th') (As := [.ref x0, .int (xs (Int32.toNatClampNeg (i + 1))), .ref o0]) (rest := []) (wc := wX cI cJ x0 x1 x2 x3 x4 x5 x6 x7 x8 x9 g rm op rc ec su pe qt rs rn cs cn lc hc lg hg ++ [(o0, .inl (cJ, 1, .inr (.inl u)))]) (w1 := wX cI cJ x0 x1 x2 x3 x4 x5 x6 x7 x8 x9 g rm op rc ec su pe qt rs rn cs cn lc hc lg hg ++ [(o0, .inl (cJ, 1, .inr (.inl u')))]) (wr := wY cI cJ y0 y1 y2 y3 y4 y5 y6 y7 y8 g rm op la fo co cv ta rc ec su pe qt rn nu th) ⟨hx, hb, hml, hown, hts⟩ (c_L_isRisky l hst D cI cJ x0 x1 x2 x3 x4 x5 x6 x7 x8 x9 o0 _ g rm op rc ec su pe qt rs rn cs cn lc hc lg hg u 100000 (xs (Int32.toNatClampNeg (i + 1))) r0  e0 th' u' hres) (vx_cwSW 3 hts gL_law_L_isRisky rfl rfl rfl (by decide +kernel) ⟨Nat.le_of_ble_eq_true rfl, Nat.le_of_ble_eq_true rfl⟩) hK hP hD hS hA hT [0, 1, 2, 3, 4, 5, 6, 7, 8, 9, 19] [10, 11, 12, 13, 14, 15, 16, 17, 18] rfl rfl (by decide) (by decide) (by decide) rfl rfl hl.1 rfl (lv_room (Nat.le_of_ble_eq_true rfl)) dL_law_1508 hf (fun H locs hP hD hS => ?_)
  replace hP := hP.sub (ws' := wX cI cJ x0 x1 x2 x3 x4 x5 x6 x7 x8 x9 g rm op rc ec su pe qt rs rn cs cn lc hc lg hg ++ (wY cI cJ y0 y1 y2 y3 y4 y5 y6 y7 y8 g rm op la fo co cv ta rc ec su pe qt rn nu th ++ [(o0, .inl (cJ, 1, .inr (.inl u')))])) [9, 10, 11, 12, 13, 14, 15, 16, 17, 18, 0, 1, 2, 3, 4, 5, 6, 7, 8, 19] rfl
  replace hD := hD.sub (ws' := wX cI cJ x0 x1 x2 x3 x4 x5 x6 x7 x8 x9 g rm op rc ec su pe qt rs rn cs cn lc hc lg hg ++ (wY cI cJ y0 y1 y2 y3 y4 y5 y6 y7 y8 g rm op la fo co cv ta rc ec su pe qt rn nu th ++ [(o0, .inl (cJ, 1, .inr (.inl u')))])) [9, 10, 11, 12, 13, 14, 15, 16, 17, 18, 0, 1, 2, 3, 4, 5, 6, 7, 8, 19] (by decide) rfl
  refine lv_istore (lv' := [(5, .int th'), (4, .int i), (3, .ref o0), (2, .ref y0), (1, .ref x0), (0, .ref b)]) hx hb dL_law_1511 hl (by decide) rfl (fun ls hl => ?_)
  refine lv_aload_n hx hb dL_law_1513 rfl (lv_at hl 3 rfl) ?_
  refine lv_aload_n hx hb dL_law_1514 rfl (lv_at hl 5 rfl) ?_
  refine lv_iload hx hb dL_law_1515 (lv_at hl 1 rfl) ?_
  refine lv_iconst (v := 1) hx hb dL_law_1517 (by decide) ?_
  refine lv_iadd hx hb dL_law_1518 ?_
  refine va_sld hx hb hX hbl hbA hS hi1 dL_law_1519 ?_
  refine lz_Ti (r0 := r1) (As := [.int (xs (Int32.toNatClampNeg (i + 1)))]) (rest := []) (wc := wY cI cJ y0 y1 y2 y3 y4 y5 y6 y7 y8 g rm op la fo co cv ta rc ec su pe qt rn nu th) (w1 := wY cI cJ y0 y1 y2 y3 y4 y5 y6 y7 y8 g rm op la fo co cv ta rc ec su pe qt rn nu th') (wr := wX cI cJ x0 x1 x2 x3 x4 x5 x6 x7 x8 x9 g rm op rc ec su pe qt rs rn cs cn lc hc lg hg ++ [(o0, .inl (cJ, 1, .inr (.inl u')))]) ⟨hx, hb, hml, hown, hts⟩ (c_X1_isRisky l D cI cJ y0 y1 y2 y3 y4 y5 y6 y7 y8 _ g rm op la fo co cv ta rc ec su pe qt rn nu th 100000 (xs (Int32.toNatClampNeg (i + 1))) r1 th' e1) (cwV 1 hts gL_law_X1_isRisky rfl rfl rfl (by decide +kernel) ⟨Nat.le_of_ble_eq_true rfl, Nat.le_of_ble_eq_true rfl⟩) hK hP hD hS hA [10, 11, 12, 13, 14, 15, 16, 17, 18] [0, 1, 2, 3, 4, 5, 6, 7, 8, 9, 19] rfl rfl (by decide) (by decide) (by decide) rfl rfl rfl rfl hl.1 rfl (lv_room (Nat.le_of_ble_eq_true rfl)) dL_law_1520 hf (fun H locs hP hD hS => ?_)
  replace hP := hP.sub (ws' := wX cI cJ x0 x1 x2 x3 x4 x5 x6 x7 x8 x9 g rm op rc ec su pe qt rs rn cs cn lc hc lg hg ++ (wY cI cJ y0 y1 y2 y3 y4 y5 y6 y7 y8 g rm op la fo co cv ta rc ec su pe qt rn nu th' ++ [(o0, .inl (cJ, 1, .inr (.inl u')))])) [0, 1, 2, 3, 4, 5, 6, 7, 8, 9, 11, 12, 13, 14, 15, 16, 17, 18, 19, 10] rfl
  replace hD := hD.sub (ws' := wX cI cJ x0 x1 x2 x3 x4 x5 x6 x7 x8 x9 g rm op rc ec su pe qt rs rn cs cn lc hc lg hg ++ (wY cI cJ y0 y1 y2 y3 y4 y5 y6 y7 y8 g rm op la fo co cv ta rc ec su pe qt rn nu th' ++ [(o0, .inl (cJ, 1, .inr (.inl u')))])) [0, 1, 2, 3, 4, 5, 6, 7, 8, 9, 11, 12, 13, 14, 15, 16, 17, 18, 19, 10] (by decide) rfl
  refine lv_istore (lv' := [(6, .int r1), (5, .int th'), (4, .int i), (3, .ref o0), (2, .ref y0), (1, .ref x0), (0, .ref b)]) hx hb dL_law_1523 hl (by decide) rfl (fun ls hl => ?_)
  refine lv_aload_n hx hb dL_law_1525 rfl (lv_at hl 4 rfl) ?_
  refine lz_Ti (r0 := m_X1_thrown th') (As := []) (rest := []) (wc := wY cI cJ y0 y1 y2 y3 y4 y5 y6 y7 y8 g rm op la fo co cv ta rc ec su pe qt rn nu th') (w1 := wY cI cJ y0 y1 y2 y3 y4 y5 y6 y7 y8 g rm op la fo co cv ta rc ec su pe qt rn nu th') (wr := wX cI cJ x0 x1 x2 x3 x4 x5 x6 x7 x8 x9 g rm op rc ec su pe qt rs rn cs cn lc hc lg hg ++ [(o0, .inl (cJ, 1, .inr (.inl u')))]) ⟨hx, hb, hml, hown, hts⟩ (c_X1_thrown l D cI cJ y0 y1 y2 y3 y4 y5 y6 y7 y8 _ g rm op la fo co cv ta rc ec su pe qt rn nu th') (cwV 0 hts gL_law_X1_thrown rfl rfl rfl (by decide +kernel) ⟨Nat.le_of_ble_eq_true rfl, Nat.le_of_ble_eq_true rfl⟩) hK hP hD hS hA [10, 11, 12, 13, 14, 15, 16, 17, 18] [0, 1, 2, 3, 4, 5, 6, 7, 8, 9, 19] rfl rfl (by decide) (by decide) (by decide) rfl rfl rfl rfl hl.1 rfl (lv_room (Nat.le_of_ble_eq_true rfl)) dL_law_1526 hf (fun H locs hP hD hS => ?_)
  replace hP := hP.sub (ws' := wX cI cJ x0 x1 x2 x3 x4 x5 x6 x7 x8 x9 g rm op rc ec su pe qt rs rn cs cn lc hc lg hg ++ (wY cI cJ y0 y1 y2 y3 y4 y5 y6 y7 y8 g rm op la fo co cv ta rc ec su pe qt rn nu th' ++ [(o0, .inl (cJ, 1, .inr (.inl u')))])) [0, 1, 2, 3, 4, 5, 6, 7, 8, 9, 11, 12, 13, 14, 15, 16, 17, 18, 19, 10] rfl
  replace hD := hD.sub (ws' := wX cI cJ x0 x1 x2 x3 x4 x5 x6 x7 x8 x9 g rm op rc ec su pe qt rs rn cs cn lc hc lg hg ++ (wY cI cJ y0 y1 y2 y3 y4 y5 y6 y7 y8 g rm op la fo co cv ta rc ec su pe qt rn nu th' ++ [(o0, .inl (cJ, 1, .inr (.inl u')))])) [0, 1, 2, 3, 4, 5, 6, 7, 8, 9, 11, 12, 13, 14, 15, 16, 17, 18, 19, 10] (by decide) rfl
  refine lv_iload hx hb dL_law_1529 (lv_at hl 1 rfl) ?_
  refine lv_icmp_eq (tgt := 1536) hx hb dL_law_1531 (by decide) (fun c8 => ?_) (fun c8 => ?_)
  · refine lv_iload hx hb dL_law_1536 (lv_at hl 1 rfl) ?_
    refine lv_if_ne (tgt := 1560) hx hb dL_law_1538 (by decide) (fun c9 => ?_) (fun c9 => ?_)
    · refine lv_goto (tgt := 1563) hx hb dL_law_1560 (by decide) ?_
      exact kk _ _ _ ⟨g, rm, op, rc, ec, su, pe, qt, rs, rn, cs, cn, lc, hc, lg, hg, la, fo, co, cv, ta, nu, th', u', q, R, hg8, hVO, hrc, hsu, hqt, hVR, hP, hD, hS⟩ (lv_sub hl [2, 3, 4, 5, 6] rfl)
    · refine lv_aload_n hx hb dL_law_1541 rfl (lv_at hl 3 rfl) ?_
      refine lv_iconst (v := 0) hx hb dL_law_1542 (by decide) ?_
      refine va_lald hx hb hK hP 19 1 rfl rfl (show ¬ ((0 : Int32) < 0 ∨ 1 ≤ Int32.toNatClampNeg 0) by decide) dL_law_1543 ?_
      rw [hcmp c9]
      refine lv_iload hx hb dL_law_1544 (lv_at hl 0 rfl) ?_
      refine lv_if_eq (tgt := 1553) hx hb dL_law_1546 (by decide) (fun c8 => ?_) (fun c8 => ?_)
      · rw [show bl r1 = 0 from if_pos c8]
        refine lv_lconst (v := 0) hx hb dL_law_1553 (by decide) ?_
        refine lz_cmp hx hb dL_law_1554 ?_
        refine lv_if_eq (tgt := 1560) hx hb dL_law_1555 (by decide) (fun c8 => ?_) (fun c8 => ?_)
        · refine lv_goto (tgt := 1563) hx hb dL_law_1560 (by decide) ?_
          exact kk _ _ _ ⟨g, rm, op, rc, ec, su, pe, qt, rs, rn, cs, cn, lc, hc, lg, hg, la, fo, co, cv, ta, nu, th', u', q, R, hg8, hVO, hrc, hsu, hqt, hVR, hP, hD, hS⟩ (lv_sub hl [2, 3, 4, 5, 6] rfl)
        · exact (c8 rfl).elim
      · rw [show bl r1 = 1 from if_neg c8]
        refine lv_lconst (v := 1) hx hb dL_law_1549 (by decide) ?_
        refine lv_goto (tgt := 1554) hx hb dL_law_1550 (by decide) ?_
        refine lz_cmp hx hb dL_law_1554 ?_
        refine lv_if_eq (tgt := 1560) hx hb dL_law_1555 (by decide) (fun c8 => ?_) (fun c8 => ?_)
        · refine lv_goto (tgt := 1563) hx hb dL_law_1560 (by decide) ?_
          exact kk _ _ _ ⟨g, rm, op, rc, ec, su, pe, qt, rs, rn, cs, cn, lc, hc, lg, hg, la, fo, co, cv, ta, nu, th', u', q, R, hg8, hVO, hrc, hsu, hqt, hVR, hP, hD, hS⟩ (lv_sub hl [2, 3, 4, 5, 6] rfl)
        · exact (c8 rfl).elim
  · exact (c8 rfl).elim
