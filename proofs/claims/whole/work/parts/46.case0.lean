set_option maxHeartbeats 4000000 in
set_option maxRecDepth 100000 in
theorem lz_grant {p : Program} {l : Launch} {e : Env} {s : State} {m : MethodId} {below : List Frame} {meth : Method} {c : Code} {Q : State → Prop} {b L : Nat} {xs : Nat → Int32} {D : va_G} {cI cJ : ClassId} {x0 x1 x2 x3 x4 x5 x6 x7 x8 x9 y0 y1 y2 y3 y4 y5 y6 y7 y8 o0 : Nat} {i : Int32} {cells slots : Nat} {H : Heap} {locs : List Loc} {ls : Array Slot} (hx : p.tables.exec = Jvm.exec) (hb : c.code = cL_law) (hml : c.maxLocals = 7) (hown : s.vm.findClass RL = some m.cls) (hts : ∀ w ∈ wsL_law, w.before ([Value.ref b] : List Value).toArray s = true) (hX : va_X b L xs s s.heap) (hbl : b < s.heap.size) (hst : l.stackTraces = false) (hK : va_K D vwCl [(cI, .int), (cJ, .long)] s) (hT : xThrL (lz_A s) s) (hi1 : vp_in (i + 1) L) (hi2 : vp_in (i + 2) L) (hi3 : vp_in (i + 3) L) (hI : lz_I D cI cJ x0 x1 x2 x3 x4 x5 x6 x7 x8 x9 y0 y1 y2 y3 y4 y5 y6 y7 y8 o0 s H locs) (hl : lv_has ls 7 [(4, .int i), (3, .ref o0), (2, .ref y0), (1, .ref x0), (0, .ref b)]) (hf : cells + 1 ≤ room_1.cells ∧ slots + 6 ≤ room_1.slots)
    (kk : ∀ (H1 : Heap) (locs1 : List Loc) (ls1 : Array Slot), lz_I D cI cJ x0 x1 x2 x3 x4 x5 x6 x7 x8 x9 y0 y1 y2 y3 y4 y5 y6 y7 y8 o0 s H1 locs1 → lv_has ls1 7 [(4, .int i), (3, .ref o0), (2, .ref y0), (1, .ref x0), (0, .ref b)] → W p l e room_1 s m ([Value.ref b] : List Value).toArray below meth c H1 locs1 (cells + 1) (slots + 6) Q (F0 m 1563 ls1 [])) : W p l e room_1 s m ([Value.ref b] : List Value).toArray below meth c H locs cells slots Q (F0 m 168 ls []) := by
  obtain ⟨g, rm, op, rc, ec, su, pe, qt, rs, rn, cs, cn, lc, hc, lg, hg, la, fo, co, cv, ta, nu, th, u, q, R, hg8, hVO, hrc, hsu, hqt, hVR, hP, hD, hS⟩ := hI
  have hA : ∀ q, s.heap.size ≤ q → lz_A s q := fun q h9 => h9
  have hbA : ¬ lz_A s b := fun h9 => absurd hbl (Nat.not_lt.mpr h9)
  have hf0 : cells + 0 ≤ room_1.cells ∧ slots + 0 ≤ room_1.slots := ⟨Nat.le_trans (Nat.le_succ _) hf.1, Nat.le_trans (Nat.le_add_right _ _) hf.2⟩
  obtain ⟨r0, g', rm', r1, th', e0, e1, hg8, hoc⟩ := s_grant hg8 rm qt th (xs (Int32.toNatClampNeg (i + 1))) (xs (Int32.toNatClampNeg (i + 2)))
  obtain ⟨u', hres, hcmp⟩ := oc_b1 hoc u
  have hl : lv_has ls 7 [(4, .int i), (3, .ref o0), (2, .ref y0), (1, .ref x0), (0, .ref b)] := hl
  refine lv_aload_n hx hb dL_law_168 rfl (lv_at hl 3 rfl) ?_
  refine lv_aload_n hx hb dL_law_169 rfl (lv_at hl 4 rfl) ?_
  refine lv_iload hx hb dL_law_170 (lv_at hl 0 rfl) ?_
  refine lv_iconst (v := 1) hx hb dL_law_172 (by decide) ?_
  refine lv_iadd hx hb dL_law_173 ?_
  refine va_sld hx hb hX hbl hbA hS hi1 dL_law_174 ?_
  refine lv_aload_n hx hb dL_law_175 rfl (lv_at hl 4 rfl) ?_
  refine lv_iload hx hb dL_law_176 (lv_at hl 0 rfl) ?_
  refine lv_iconst (v := 2) hx hb dL_law_178 (by decide) ?_
  refine lv_iadd hx hb dL_law_179 ?_
  refine va_sld hx hb hX hbl hbA hS hi2 dL_law_180 ?_
  refine lv_aload_n hx hb dL_law_181 rfl (lv_at hl 1 rfl) ?_
  refine lz_Wi (r0 := th') (As := [.ref x0, .int (xs (Int32.toNatClampNeg (i + 1))), .int (xs (Int32.toNatClampNeg (i + 2))), .ref o0]) (rest := []) (wc := wX cI cJ x0 x1 x2 x3 x4 x5 x6 x7 x8 x9 g rm op rc ec su pe qt rs rn cs cn lc hc lg hg ++ [(o0, .inl (cJ, 1, .inr (.inl u)))]) (w1 := wX cI cJ x0 x1 x2 x3 x4 x5 x6 x7 x8 x9 g' rm' op rc ec su pe qt rs rn cs cn lc hc lg hg ++ [(o0, .inl (cJ, 1, .inr (.inl u')))]) (wr := wY cI cJ y0 y1 y2 y3 y4 y5 y6 y7 y8 g rm op la fo co cv ta rc ec su pe qt rn nu th) ⟨hx, hb, hml, hown, hts⟩ (c_L_grant l hst D cI cJ x0 x1 x2 x3 x4 x5 x6 x7 x8 x9 o0 _ g rm op rc ec su pe qt rs rn cs cn lc hc lg hg u (xs (Int32.toNatClampNeg (i + 1))) (xs (Int32.toNatClampNeg (i + 2))) r0 g' rm' e0 th' u' hres) (vx_cwSW 4 hts gL_law_L_grant rfl rfl rfl (by decide +kernel) ⟨Nat.le_of_ble_eq_true rfl, Nat.le_of_ble_eq_true rfl⟩) hK hP hD hS hA hT [0, 1, 2, 3, 4, 5, 6, 7, 8, 9, 19] [10, 11, 12, 13, 14, 15, 16, 17, 18] rfl rfl (by decide) (by decide) (by decide) rfl rfl hl.1 rfl (lv_room (Nat.le_of_ble_eq_true rfl)) dL_law_182 hf (fun H locs hP hD hS => ?_)
  replace hP := hP.sub (ws' := wX cI cJ x0 x1 x2 x3 x4 x5 x6 x7 x8 x9 g' rm' op rc ec su pe qt rs rn cs cn lc hc lg hg ++ (wY cI cJ y0 y1 y2 y3 y4 y5 y6 y7 y8 g rm op la fo co cv ta rc ec su pe qt rn nu th ++ [(o0, .inl (cJ, 1, .inr (.inl u')))])) [9, 10, 11, 12, 13, 14, 15, 16, 17, 18, 0, 1, 2, 3, 4, 5, 6, 7, 8, 19] rfl
  replace hD := hD.sub (ws' := wX cI cJ x0 x1 x2 x3 x4 x5 x6 x7 x8 x9 g' rm' op rc ec su pe qt rs rn cs cn lc hc lg hg ++ (wY cI cJ y0 y1 y2 y3 y4 y5 y6 y7 y8 g rm op la fo co cv ta rc ec su pe qt rn nu th ++ [(o0, .inl (cJ, 1, .inr (.inl u')))])) [9, 10, 11, 12, 13, 14, 15, 16, 17, 18, 0, 1, 2, 3, 4, 5, 6, 7, 8, 19] (by decide) rfl
  refine lv_istore (lv' := [(5, .int th'), (4, .int i), (3, .ref o0), (2, .ref y0), (1, .ref x0), (0, .ref b)]) hx hb dL_law_185 hl (by decide) rfl (fun ls hl => ?_)
  refine lv_aload_n hx hb dL_law_187 rfl (lv_at hl 3 rfl) ?_
  refine lv_aload_n hx hb dL_law_188 rfl (lv_at hl 5 rfl) ?_
  refine lv_iload hx hb dL_law_189 (lv_at hl 1 rfl) ?_
  refine lv_iconst (v := 1) hx hb dL_law_191 (by decide) ?_
  refine lv_iadd hx hb dL_law_192 ?_
  refine va_sld hx hb hX hbl hbA hS hi1 dL_law_193 ?_
  refine lv_aload_n hx hb dL_law_194 rfl (lv_at hl 5 rfl) ?_
  refine lv_iload hx hb dL_law_195 (lv_at hl 1 rfl) ?_
  refine lv_iconst (v := 2) hx hb dL_law_197 (by decide) ?_
  refine lv_iadd hx hb dL_law_198 ?_
  refine va_sld hx hb hX hbl hbA hS hi2 dL_law_199 ?_
  refine lz_Ti (r0 := r1) (As := [.int (xs (Int32.toNatClampNeg (i + 1))), .int (xs (Int32.toNatClampNeg (i + 2)))]) (rest := []) (wc := wY cI cJ y0 y1 y2 y3 y4 y5 y6 y7 y8 g rm op la fo co cv ta rc ec su pe qt rn nu th) (w1 := wY cI cJ y0 y1 y2 y3 y4 y5 y6 y7 y8 g' rm' op la fo co cv ta rc ec su pe qt rn nu th') (wr := wX cI cJ x0 x1 x2 x3 x4 x5 x6 x7 x8 x9 g' rm' op rc ec su pe qt rs rn cs cn lc hc lg hg ++ [(o0, .inl (cJ, 1, .inr (.inl u')))]) ⟨hx, hb, hml, hown, hts⟩ (c_X1_grant l D cI cJ y0 y1 y2 y3 y4 y5 y6 y7 y8 _ g rm op la fo co cv ta rc ec su pe qt rn nu th (xs (Int32.toNatClampNeg (i + 1))) (xs (Int32.toNatClampNeg (i + 2))) r1 g' rm' th' e1) (cwV 2 hts gL_law_X1_grant rfl rfl rfl (by decide +kernel) ⟨Nat.le_of_ble_eq_true rfl, Nat.le_of_ble_eq_true rfl⟩) hK hP hD hS hA [10, 11, 12, 13, 14, 15, 16, 17, 18] [0, 1, 2, 3, 4, 5, 6, 7, 8, 9, 19] rfl rfl (by decide) (by decide) (by decide) rfl rfl rfl rfl hl.1 rfl (lv_room (Nat.le_of_ble_eq_true rfl)) dL_law_200 hf (fun H locs hP hD hS => ?_)
  replace hP := hP.sub (ws' := wX cI cJ x0 x1 x2 x3 x4 x5 x6 x7 x8 x9 g' rm' op rc ec su pe qt rs rn cs cn lc hc lg hg ++ (wY cI cJ y0 y1 y2 y3 y4 y5 y6 y7 y8 g' rm' op la fo co cv ta rc ec su pe qt rn nu th' ++ [(o0, .inl (cJ, 1, .inr (.inl u')))])) [0, 1, 2, 3, 4, 5, 6, 7, 8, 9, 11, 12, 13, 14, 15, 16, 17, 18, 19, 10] rfl
  replace hD := hD.sub (ws' := wX cI cJ x0 x1 x2 x3 x4 x5 x6 x7 x8 x9 g' rm' op rc ec su pe qt rs rn cs cn lc hc lg hg ++ (wY cI cJ y0 y1 y2 y3 y4 y5 y6 y7 y8 g' rm' op la fo co cv ta rc ec su pe qt rn nu th' ++ [(o0, .inl (cJ, 1, .inr (.inl u')))])) [0, 1, 2, 3, 4, 5, 6, 7, 8, 9, 11, 12, 13, 14, 15, 16, 17, 18, 19, 10] (by decide) rfl
  refine lv_istore (lv' := [(6, .int r1), (5, .int th'), (4, .int i), (3, .ref o0), (2, .ref y0), (1, .ref x0), (0, .ref b)]) hx hb dL_law_203 hl (by decide) rfl (fun ls hl => ?_)
  refine lv_aload_n hx hb dL_law_205 rfl (lv_at hl 4 rfl) ?_
  refine lz_Ti (r0 := m_X1_thrown th') (As := []) (rest := []) (wc := wY cI cJ y0 y1 y2 y3 y4 y5 y6 y7 y8 g' rm' op la fo co cv ta rc ec su pe qt rn nu th') (w1 := wY cI cJ y0 y1 y2 y3 y4 y5 y6 y7 y8 g' rm' op la fo co cv ta rc ec su pe qt rn nu th') (wr := wX cI cJ x0 x1 x2 x3 x4 x5 x6 x7 x8 x9 g' rm' op rc ec su pe qt rs rn cs cn lc hc lg hg ++ [(o0, .inl (cJ, 1, .inr (.inl u')))]) ⟨hx, hb, hml, hown, hts⟩ (c_X1_thrown l D cI cJ y0 y1 y2 y3 y4 y5 y6 y7 y8 _ g' rm' op la fo co cv ta rc ec su pe qt rn nu th') (cwV 0 hts gL_law_X1_thrown rfl rfl rfl (by decide +kernel) ⟨Nat.le_of_ble_eq_true rfl, Nat.le_of_ble_eq_true rfl⟩) hK hP hD hS hA [10, 11, 12, 13, 14, 15, 16, 17, 18] [0, 1, 2, 3, 4, 5, 6, 7, 8, 9, 19] rfl rfl (by decide) (by decide) (by decide) rfl rfl rfl rfl hl.1 rfl (lv_room (Nat.le_of_ble_eq_true rfl)) dL_law_206 hf (fun H locs hP hD hS => ?_)
  replace hP := hP.sub (ws' := wX cI cJ x0 x1 x2 x3 x4 x5 x6 x7 x8 x9 g' rm' op rc ec su pe qt rs rn cs cn lc hc lg hg ++ (wY cI cJ y0 y1 y2 y3 y4 y5 y6 y7 y8 g' rm' op la fo co cv ta rc ec su pe qt rn nu th' ++ [(o0, .inl (cJ, 1, .inr (.inl u')))])) [0, 1, 2, 3, 4, 5, 6, 7, 8, 9, 11, 12, 13, 14, 15, 16, 17, 18, 19, 10] rfl
  replace hD := hD.sub (ws' := wX cI cJ x0 x1 x2 x3 x4 x5 x6 x7 x8 x9 g' rm' op rc ec su pe qt rs rn cs cn lc hc lg hg ++ (wY cI cJ y0 y1 y2 y3 y4 y5 y6 y7 y8 g' rm' op la fo co cv ta rc ec su pe qt rn nu th' ++ [(o0, .inl (cJ, 1, .inr (.inl u')))])) [0, 1, 2, 3, 4, 5, 6, 7, 8, 9, 11, 12, 13, 14, 15, 16, 17, 18, 19, 10] (by decide) rfl
  refine lv_iload hx hb dL_law_209 (lv_at hl 1 rfl) ?_
  refine lv_icmp_eq (tgt := 216) hx hb dL_law_211 (by decide) (fun c8 => ?_) (fun c8 => ?_)
  · refine lv_iload hx hb dL_law_216 (lv_at hl 1 rfl) ?_
    refine lv_if_ne (tgt := 240) hx hb dL_law_218 (by decide) (fun c9 => ?_) (fun c9 => ?_)
    · refine lv_goto (tgt := 1563) hx hb dL_law_240 (by decide) ?_
      exact kk _ _ _ ⟨g', rm', op, rc, ec, su, pe, qt, rs, rn, cs, cn, lc, hc, lg, hg, la, fo, co, cv, ta, nu, th', u', q, R, hg8, hVO, hrc, hsu, hqt, hVR, hP, hD, hS⟩ (lv_sub hl [2, 3, 4, 5, 6] rfl)
    · refine lv_aload_n hx hb dL_law_221 rfl (lv_at hl 3 rfl) ?_
      refine lv_iconst (v := 0) hx hb dL_law_222 (by decide) ?_
      refine va_lald hx hb hK hP 19 1 rfl rfl (show ¬ ((0 : Int32) < 0 ∨ 1 ≤ Int32.toNatClampNeg 0) by decide) dL_law_223 ?_
      rw [hcmp c9]
      refine lv_iload hx hb dL_law_224 (lv_at hl 0 rfl) ?_
      refine lv_if_eq (tgt := 233) hx hb dL_law_226 (by decide) (fun c8 => ?_) (fun c8 => ?_)
      · rw [show bl r1 = 0 from if_pos c8]
        refine lv_lconst (v := 0) hx hb dL_law_233 (by decide) ?_
        refine lz_cmp hx hb dL_law_234 ?_
        refine lv_if_eq (tgt := 240) hx hb dL_law_235 (by decide) (fun c8 => ?_) (fun c8 => ?_)
        · refine lv_goto (tgt := 1563) hx hb dL_law_240 (by decide) ?_
          exact kk _ _ _ ⟨g', rm', op, rc, ec, su, pe, qt, rs, rn, cs, cn, lc, hc, lg, hg, la, fo, co, cv, ta, nu, th', u', q, R, hg8, hVO, hrc, hsu, hqt, hVR, hP, hD, hS⟩ (lv_sub hl [2, 3, 4, 5, 6] rfl)
        · exact (c8 rfl).elim
      · rw [show bl r1 = 1 from if_neg c8]
        refine lv_lconst (v := 1) hx hb dL_law_229 (by decide) ?_
        refine lv_goto (tgt := 234) hx hb dL_law_230 (by decide) ?_
        refine lz_cmp hx hb dL_law_234 ?_
        refine lv_if_eq (tgt := 240) hx hb dL_law_235 (by decide) (fun c8 => ?_) (fun c8 => ?_)
        · refine lv_goto (tgt := 1563) hx hb dL_law_240 (by decide) ?_
          exact kk _ _ _ ⟨g', rm', op, rc, ec, su, pe, qt, rs, rn, cs, cn, lc, hc, lg, hg, la, fo, co, cv, ta, nu, th', u', q, R, hg8, hVO, hrc, hsu, hqt, hVR, hP, hD, hS⟩ (lv_sub hl [2, 3, 4, 5, 6] rfl)
        · exact (c8 rfl).elim
  · exact (c8 rfl).elim
set_option maxHeartbeats 4000000 in
set_option maxRecDepth 100000 in
theorem lz_revoke {p : Program} {l : Launch} {e : Env} {s : State} {m : MethodId} {below : List Frame} {meth : Method} {c : Code} {Q : State → Prop} {b L : Nat} {xs : Nat → Int32} {D : va_G} {cI cJ : ClassId} {x0 x1 x2 x3 x4 x5 x6 x7 x8 x9 y0 y1 y2 y3 y4 y5 y6 y7 y8 o0 : Nat} {i : Int32} {cells slots : Nat} {H : Heap} {locs : List Loc} {ls : Array Slot} (hx : p.tables.exec = Jvm.exec) (hb : c.code = cL_law) (hml : c.maxLocals = 7) (hown : s.vm.findClass RL = some m.cls) (hts : ∀ w ∈ wsL_law, w.before ([Value.ref b] : List Value).toArray s = true) (hX : va_X b L xs s s.heap) (hbl : b < s.heap.size) (hst : l.stackTraces = false) (hK : va_K D vwCl [(cI, .int), (cJ, .long)] s) (hT : xThrL (lz_A s) s) (hi1 : vp_in (i + 1) L) (hi2 : vp_in (i + 2) L) (hi3 : vp_in (i + 3) L) (hI : lz_I D cI cJ x0 x1 x2 x3 x4 x5 x6 x7 x8 x9 y0 y1 y2 y3 y4 y5 y6 y7 y8 o0 s H locs) (hl : lv_has ls 7 [(4, .int i), (3, .ref o0), (2, .ref y0), (1, .ref x0), (0, .ref b)]) (hf : cells + 1 ≤ room_1.cells ∧ slots + 6 ≤ room_1.slots)
    (kk : ∀ (H1 : Heap) (locs1 : List Loc) (ls1 : Array Slot), lz_I D cI cJ x0 x1 x2 x3 x4 x5 x6 x7 x8 x9 y0 y1 y2 y3 y4 y5 y6 y7 y8 o0 s H1 locs1 → lv_has ls1 7 [(4, .int i), (3, .ref o0), (2, .ref y0), (1, .ref x0), (0, .ref b)] → W p l e room_1 s m ([Value.ref b] : List Value).toArray below meth c H1 locs1 (cells + 1) (slots + 6) Q (F0 m 1563 ls1 [])) : W p l e room_1 s m ([Value.ref b] : List Value).toArray below meth c H locs cells slots Q (F0 m 243 ls []) := by
  obtain ⟨g, rm, op, rc, ec, su, pe, qt, rs, rn, cs, cn, lc, hc, lg, hg, la, fo, co, cv, ta, nu, th, u, q, R, hg8, hVO, hrc, hsu, hqt, hVR, hP, hD, hS⟩ := hI
  have hA : ∀ q, s.heap.size ≤ q → lz_A s q := fun q h9 => h9
  have hbA : ¬ lz_A s b := fun h9 => absurd hbl (Nat.not_lt.mpr h9)
  have hf0 : cells + 0 ≤ room_1.cells ∧ slots + 0 ≤ room_1.slots := ⟨Nat.le_trans (Nat.le_succ _) hf.1, Nat.le_trans (Nat.le_add_right _ _) hf.2⟩
  obtain ⟨r0, g', r1, th', e0, e1, hg8, hoc⟩ := s_revoke hg8 th (xs (Int32.toNatClampNeg (i + 1))) (xs (Int32.toNatClampNeg (i + 2)))
  obtain ⟨u', hres, hcmp⟩ := oc_b1 hoc u
  have hl : lv_has ls 7 [(4, .int i), (3, .ref o0), (2, .ref y0), (1, .ref x0), (0, .ref b)] := hl
  refine lv_aload_n hx hb dL_law_243 rfl (lv_at hl 3 rfl) ?_
  refine lv_aload_n hx hb dL_law_244 rfl (lv_at hl 4 rfl) ?_
  refine lv_iload hx hb dL_law_245 (lv_at hl 0 rfl) ?_
  refine lv_iconst (v := 1) hx hb dL_law_247 (by decide) ?_
  refine lv_iadd hx hb dL_law_248 ?_
  refine va_sld hx hb hX hbl hbA hS hi1 dL_law_249 ?_
  refine lv_aload_n hx hb dL_law_250 rfl (lv_at hl 4 rfl) ?_
  refine lv_iload hx hb dL_law_251 (lv_at hl 0 rfl) ?_
  refine lv_iconst (v := 2) hx hb dL_law_253 (by decide) ?_
  refine lv_iadd hx hb dL_law_254 ?_
  refine va_sld hx hb hX hbl hbA hS hi2 dL_law_255 ?_
  refine lv_aload_n hx hb dL_law_256 rfl (lv_at hl 1 rfl) ?_
  refine lz_Wi (r0 := th') (As := [.ref x0, .int (xs (Int32.toNatClampNeg (i + 1))), .int (xs (Int32.toNatClampNeg (i + 2))), .ref o0]) (rest := []) (wc := wX cI cJ x0 x1 x2 x3 x4 x5 x6 x7 x8 x9 g rm op rc ec su pe qt rs rn cs cn lc hc lg hg ++ [(o0, .inl (cJ, 1, .inr (.inl u)))]) (w1 := wX cI cJ x0 x1 x2 x3 x4 x5 x6 x7 x8 x9 g' rm op rc ec su pe qt rs rn cs cn lc hc lg hg ++ [(o0, .inl (cJ, 1, .inr (.inl u')))]) (wr := wY cI cJ y0 y1 y2 y3 y4 y5 y6 y7 y8 g rm op la fo co cv ta rc ec su pe qt rn nu th) ⟨hx, hb, hml, hown, hts⟩ (c_L_revoke l hst D cI cJ x0 x1 x2 x3 x4 x5 x6 x7 x8 x9 o0 _ g rm op rc ec su pe qt rs rn cs cn lc hc lg hg u (xs (Int32.toNatClampNeg (i + 1))) (xs (Int32.toNatClampNeg (i + 2))) r0 g' e0 th' u' hres) (vx_cwSW 4 hts gL_law_L_revoke rfl rfl rfl (by decide +kernel) ⟨Nat.le_of_ble_eq_true rfl, Nat.le_of_ble_eq_true rfl⟩) hK hP hD hS hA hT [0, 1, 2, 3, 4, 5, 6, 7, 8, 9, 19] [10, 11, 12, 13, 14, 15, 16, 17, 18] rfl rfl (by decide) (by decide) (by decide) rfl rfl hl.1 rfl (lv_room (Nat.le_of_ble_eq_true rfl)) dL_law_257 hf (fun H locs hP hD hS => ?_)
  replace hP := hP.sub (ws' := wX cI cJ x0 x1 x2 x3 x4 x5 x6 x7 x8 x9 g' rm op rc ec su pe qt rs rn cs cn lc hc lg hg ++ (wY cI cJ y0 y1 y2 y3 y4 y5 y6 y7 y8 g rm op la fo co cv ta rc ec su pe qt rn nu th ++ [(o0, .inl (cJ, 1, .inr (.inl u')))])) [9, 10, 11, 12, 13, 14, 15, 16, 17, 18, 0, 1, 2, 3, 4, 5, 6, 7, 8, 19] rfl
  replace hD := hD.sub (ws' := wX cI cJ x0 x1 x2 x3 x4 x5 x6 x7 x8 x9 g' rm op rc ec su pe qt rs rn cs cn lc hc lg hg ++ (wY cI cJ y0 y1 y2 y3 y4 y5 y6 y7 y8 g rm op la fo co cv ta rc ec su pe qt rn nu th ++ [(o0, .inl (cJ, 1, .inr (.inl u')))])) [9, 10, 11, 12, 13, 14, 15, 16, 17, 18, 0, 1, 2, 3, 4, 5, 6, 7, 8, 19] (by decide) rfl
  refine lv_istore (lv' := [(5, .int th'), (4, .int i), (3, .ref o0), (2, .ref y0), (1, .ref x0), (0, .ref b)]) hx hb dL_law_260 hl (by decide) rfl (fun ls hl => ?_)
  refine lv_aload_n hx hb dL_law_262 rfl (lv_at hl 3 rfl) ?_
  refine lv_aload_n hx hb dL_law_263 rfl (lv_at hl 5 rfl) ?_
  refine lv_iload hx hb dL_law_264 (lv_at hl 1 rfl) ?_
  refine lv_iconst (v := 1) hx hb dL_law_266 (by decide) ?_
  refine lv_iadd hx hb dL_law_267 ?_
  refine va_sld hx hb hX hbl hbA hS hi1 dL_law_268 ?_
  refine lv_aload_n hx hb dL_law_269 rfl (lv_at hl 5 rfl) ?_
  refine lv_iload hx hb dL_law_270 (lv_at hl 1 rfl) ?_
  refine lv_iconst (v := 2) hx hb dL_law_272 (by decide) ?_
  refine lv_iadd hx hb dL_law_273 ?_
  refine va_sld hx hb hX hbl hbA hS hi2 dL_law_274 ?_
  refine lz_Ti (r0 := r1) (As := [.int (xs (Int32.toNatClampNeg (i + 1))), .int (xs (Int32.toNatClampNeg (i + 2)))]) (rest := []) (wc := wY cI cJ y0 y1 y2 y3 y4 y5 y6 y7 y8 g rm op la fo co cv ta rc ec su pe qt rn nu th) (w1 := wY cI cJ y0 y1 y2 y3 y4 y5 y6 y7 y8 g' rm op la fo co cv ta rc ec su pe qt rn nu th') (wr := wX cI cJ x0 x1 x2 x3 x4 x5 x6 x7 x8 x9 g' rm op rc ec su pe qt rs rn cs cn lc hc lg hg ++ [(o0, .inl (cJ, 1, .inr (.inl u')))]) ⟨hx, hb, hml, hown, hts⟩ (c_X1_revoke l D cI cJ y0 y1 y2 y3 y4 y5 y6 y7 y8 _ g rm op la fo co cv ta rc ec su pe qt rn nu th (xs (Int32.toNatClampNeg (i + 1))) (xs (Int32.toNatClampNeg (i + 2))) r1 g' th' e1) (cwV 2 hts gL_law_X1_revoke rfl rfl rfl (by decide +kernel) ⟨Nat.le_of_ble_eq_true rfl, Nat.le_of_ble_eq_true rfl⟩) hK hP hD hS hA [10, 11, 12, 13, 14, 15, 16, 17, 18] [0, 1, 2, 3, 4, 5, 6, 7, 8, 9, 19] rfl rfl (by decide) (by decide) (by decide) rfl rfl rfl rfl hl.1 rfl (lv_room (Nat.le_of_ble_eq_true rfl)) dL_law_275 hf (fun H locs hP hD hS => ?_)
  replace hP := hP.sub (ws' := wX cI cJ x0 x1 x2 x3 x4 x5 x6 x7 x8 x9 g' rm op rc ec su pe qt rs rn cs cn lc hc lg hg ++ (wY cI cJ y0 y1 y2 y3 y4 y5 y6 y7 y8 g' rm op la fo co cv ta rc ec su pe qt rn nu th' ++ [(o0, .inl (cJ, 1, .inr (.inl u')))])) [0, 1, 2, 3, 4, 5, 6, 7, 8, 9, 11, 12, 13, 14, 15, 16, 17, 18, 19, 10] rfl
  replace hD := hD.sub (ws' := wX cI cJ x0 x1 x2 x3 x4 x5 x6 x7 x8 x9 g' rm op rc ec su pe qt rs rn cs cn lc hc lg hg ++ (wY cI cJ y0 y1 y2 y3 y4 y5 y6 y7 y8 g' rm op la fo co cv ta rc ec su pe qt rn nu th' ++ [(o0, .inl (cJ, 1, .inr (.inl u')))])) [0, 1, 2, 3, 4, 5, 6, 7, 8, 9, 11, 12, 13, 14, 15, 16, 17, 18, 19, 10] (by decide) rfl
  refine lv_istore (lv' := [(6, .int r1), (5, .int th'), (4, .int i), (3, .ref o0), (2, .ref y0), (1, .ref x0), (0, .ref b)]) hx hb dL_law_278 hl (by decide) rfl (fun ls hl => ?_)
  refine lv_aload_n hx hb dL_law_280 rfl (lv_at hl 4 rfl) ?_
  refine lz_Ti (r0 := m_X1_thrown th') (As := []) (rest := []) (wc := wY cI cJ y0 y1 y2 y3 y4 y5 y6 y7 y8 g' rm op la fo co cv ta rc ec su pe qt rn nu th') (w1 := wY cI cJ y0 y1 y2 y3 y4 y5 y6 y7 y8 g' rm op la fo co cv ta rc ec su pe qt rn nu th') (wr := wX cI cJ x0 x1 x2 x3 x4 x5 x6 x7 x8 x9 g' rm op rc ec su pe qt rs rn cs cn lc hc lg hg ++ [(o0, .inl (cJ, 1, .inr (.inl u')))]) ⟨hx, hb, hml, hown, hts⟩ (c_X1_thrown l D cI cJ y0 y1 y2 y3 y4 y5 y6 y7 y8 _ g' rm op la fo co cv ta rc ec su pe qt rn nu th') (cwV 0 hts gL_law_X1_thrown rfl rfl rfl (by decide +kernel) ⟨Nat.le_of_ble_eq_true rfl, Nat.le_of_ble_eq_true rfl⟩) hK hP hD hS hA [10, 11, 12, 13, 14, 15, 16, 17, 18] [0, 1, 2, 3, 4, 5, 6, 7, 8, 9, 19] rfl rfl (by decide) (by decide) (by decide) rfl rfl rfl rfl hl.1 rfl (lv_room (Nat.le_of_ble_eq_true rfl)) dL_law_281 hf (fun H locs hP hD hS => ?_)
  replace hP := hP.sub (ws' := wX cI cJ x0 x1 x2 x3 x4 x5 x6 x7 x8 x9 g' rm op rc ec su pe qt rs rn cs cn lc hc lg hg ++ (wY cI cJ y0 y1 y2 y3 y4 y5 y6 y7 y8 g' rm op la fo co cv ta rc ec su pe qt rn nu th' ++ [(o0, .inl (cJ, 1, .inr (.inl u')))])) [0, 1, 2, 3, 4, 5, 6, 7, 8, 9, 11, 12, 13, 14, 15, 16, 17, 18, 19, 10] rfl
  replace hD := hD.sub (ws' := wX cI cJ x0 x1 x2 x3 x4 x5 x6 x7 x8 x9 g' rm op rc ec su pe qt rs rn cs cn lc hc lg hg ++ (wY cI cJ y0 y1 y2 y3 y4 y5 y6 y7 y8 g' rm op la fo co cv ta rc ec su pe qt rn nu th' ++ [(o0, .inl (cJ, 1, .inr (.inl u')))])) [0, 1, 2, 3, 4, 5, 6, 7, 8, 9, 11, 12, 13, 14, 15, 16, 17, 18, 19, 10] (by decide) rfl
  refine lv_iload hx hb dL_law_284 (lv_at hl 1 rfl) ?_
  refine lv_icmp_eq (tgt := 291) hx hb dL_law_286 (by decide) (fun c8 => ?_) (fun c8 => ?_)
  · refine lv_iload hx hb dL_law_291 (lv_at hl 1 rfl) ?_
    refine lv_if_ne (tgt := 315) hx hb dL_law_293 (by decide) (fun c9 => ?_) (fun c9 => ?_)
    · refine lv_goto (tgt := 1563) hx hb dL_law_315 (by decide) ?_
      exact kk _ _ _ ⟨g', rm, op, rc, ec, su, pe, qt, rs, rn, cs, cn, lc, hc, lg, hg, la, fo, co, cv, ta, nu, th', u', q, R, hg8, hVO, hrc, hsu, hqt, hVR, hP, hD, hS⟩ (lv_sub hl [2, 3, 4, 5, 6] rfl)
    · refine lv_aload_n hx hb dL_law_296 rfl (lv_at hl 3 rfl) ?_
      refine lv_iconst (v := 0) hx hb dL_law_297 (by decide) ?_
      refine va_lald hx hb hK hP 19 1 rfl rfl (show ¬ ((0 : Int32) < 0 ∨ 1 ≤ Int32.toNatClampNeg 0) by decide) dL_law_298 ?_
      rw [hcmp c9]
      refine lv_iload hx hb dL_law_299 (lv_at hl 0 rfl) ?_
      refine lv_if_eq (tgt := 308) hx hb dL_law_301 (by decide) (fun c8 => ?_) (fun c8 => ?_)
      · rw [show bl r1 = 0 from if_pos c8]
        refine lv_lconst (v := 0) hx hb dL_law_308 (by decide) ?_
        refine lz_cmp hx hb dL_law_309 ?_
        refine lv_if_eq (tgt := 315) hx hb dL_law_310 (by decide) (fun c8 => ?_) (fun c8 => ?_)
        · refine lv_goto (tgt := 1563) hx hb dL_law_315 (by decide) ?_
          exact kk _ _ _ ⟨g', rm, op, rc, ec, su, pe, qt, rs, rn, cs, cn, lc, hc, lg, hg, la, fo, co, cv, ta, nu, th', u', q, R, hg8, hVO, hrc, hsu, hqt, hVR, hP, hD, hS⟩ (lv_sub hl [2, 3, 4, 5, 6] rfl)
        · exact (c8 rfl).elim
      · rw [show bl r1 = 1 from if_neg c8]
        refine lv_lconst (v := 1) hx hb dL_law_304 (by decide) ?_
        refine lv_goto (tgt := 309) hx hb dL_law_305 (by decide) ?_
        refine lz_cmp hx hb dL_law_309 ?_
        refine lv_if_eq (tgt := 315) hx hb dL_law_310 (by decide) (fun c8 => ?_) (fun c8 => ?_)
        · refine lv_goto (tgt := 1563) hx hb dL_law_315 (by decide) ?_
          exact kk _ _ _ ⟨g', rm, op, rc, ec, su, pe, qt, rs, rn, cs, cn, lc, hc, lg, hg, la, fo, co, cv, ta, nu, th', u', q, R, hg8, hVO, hrc, hsu, hqt, hVR, hP, hD, hS⟩ (lv_sub hl [2, 3, 4, 5, 6] rfl)
        · exact (c8 rfl).elim
  · exact (c8 rfl).elim
set_option maxHeartbeats 4000000 in
set_option maxRecDepth 100000 in
theorem lz_setGrants {p : Program} {l : Launch} {e : Env} {s : State} {m : MethodId} {below : List Frame} {meth : Method} {c : Code} {Q : State → Prop} {b L : Nat} {xs : Nat → Int32} {D : va_G} {cI cJ : ClassId} {x0 x1 x2 x3 x4 x5 x6 x7 x8 x9 y0 y1 y2 y3 y4 y5 y6 y7 y8 o0 : Nat} {i : Int32} {cells slots : Nat} {H : Heap} {locs : List Loc} {ls : Array Slot} (hx : p.tables.exec = Jvm.exec) (hb : c.code = cL_law) (hml : c.maxLocals = 7) (hown : s.vm.findClass RL = some m.cls) (hts : ∀ w ∈ wsL_law, w.before ([Value.ref b] : List Value).toArray s = true) (hX : va_X b L xs s s.heap) (hbl : b < s.heap.size) (hst : l.stackTraces = false) (hK : va_K D vwCl [(cI, .int), (cJ, .long)] s) (hT : xThrL (lz_A s) s) (hi1 : vp_in (i + 1) L) (hi2 : vp_in (i + 2) L) (hi3 : vp_in (i + 3) L) (hI : lz_I D cI cJ x0 x1 x2 x3 x4 x5 x6 x7 x8 x9 y0 y1 y2 y3 y4 y5 y6 y7 y8 o0 s H locs) (hl : lv_has ls 7 [(4, .int i), (3, .ref o0), (2, .ref y0), (1, .ref x0), (0, .ref b)]) (hf : cells + 1 ≤ room_1.cells ∧ slots + 6 ≤ room_1.slots)
    (kk : ∀ (H1 : Heap) (locs1 : List Loc) (ls1 : Array Slot), lz_I D cI cJ x0 x1 x2 x3 x4 x5 x6 x7 x8 x9 y0 y1 y2 y3 y4 y5 y6 y7 y8 o0 s H1 locs1 → lv_has ls1 7 [(4, .int i), (3, .ref o0), (2, .ref y0), (1, .ref x0), (0, .ref b)] → W p l e room_1 s m ([Value.ref b] : List Value).toArray below meth c H1 locs1 (cells + 1) (slots + 6) Q (F0 m 1563 ls1 [])) : W p l e room_1 s m ([Value.ref b] : List Value).toArray below meth c H locs cells slots Q (F0 m 318 ls []) := by
  obtain ⟨g, rm, op, rc, ec, su, pe, qt, rs, rn, cs, cn, lc, hc, lg, hg, la, fo, co, cv, ta, nu, th, u, q, R, hg8, hVO, hrc, hsu, hqt, hVR, hP, hD, hS⟩ := hI
  have hA : ∀ q, s.heap.size ≤ q → lz_A s q := fun q h9 => h9
  have hbA : ¬ lz_A s b := fun h9 => absurd hbl (Nat.not_lt.mpr h9)
  have hf0 : cells + 0 ≤ room_1.cells ∧ slots + 0 ≤ room_1.slots := ⟨Nat.le_trans (Nat.le_succ _) hf.1, Nat.le_trans (Nat.le_add_right _ _) hf.2⟩
  obtain ⟨r0, g', rm', r1, th', e0, e1, hg8, hoc⟩ := s_setGrants hg8 rm qt th (xs (Int32.toNatClampNeg (i + 1))) (xs (Int32.toNatClampNeg (i + 2))) (fu := 100000) (by omega)
  obtain ⟨u', hres, hcmp⟩ := oc_i2 hoc u
  have hl : lv_has ls 7 [(4, .int i), (3, .ref o0), (2, .ref y0), (1, .ref x0), (0, .ref b)] := hl
  refine lv_aload_n hx hb dL_law_318 rfl (lv_at hl 3 rfl) ?_
  refine lv_aload_n hx hb dL_law_319 rfl (lv_at hl 4 rfl) ?_
  refine lv_iload hx hb dL_law_320 (lv_at hl 0 rfl) ?_
  refine lv_iconst (v := 1) hx hb dL_law_322 (by decide) ?_
  refine lv_iadd hx hb dL_law_323 ?_
  refine va_sld hx hb hX hbl hbA hS hi1 dL_law_324 ?_
  refine lv_aload_n hx hb dL_law_325 rfl (lv_at hl 4 rfl) ?_
  refine lv_iload hx hb dL_law_326 (lv_at hl 0 rfl) ?_
  refine lv_iconst (v := 2) hx hb dL_law_328 (by decide) ?_
  refine lv_iadd hx hb dL_law_329 ?_
  refine va_sld hx hb hX hbl hbA hS hi2 dL_law_330 ?_
  refine lv_aload_n hx hb dL_law_331 rfl (lv_at hl 1 rfl) ?_
  refine lz_Wi (r0 := th') (As := [.ref x0, .int (xs (Int32.toNatClampNeg (i + 1))), .int (xs (Int32.toNatClampNeg (i + 2))), .ref o0]) (rest := []) (wc := wX cI cJ x0 x1 x2 x3 x4 x5 x6 x7 x8 x9 g rm op rc ec su pe qt rs rn cs cn lc hc lg hg ++ [(o0, .inl (cJ, 1, .inr (.inl u)))]) (w1 := wX cI cJ x0 x1 x2 x3 x4 x5 x6 x7 x8 x9 g' rm' op rc ec su pe qt rs rn cs cn lc hc lg hg ++ [(o0, .inl (cJ, 1, .inr (.inl u')))]) (wr := wY cI cJ y0 y1 y2 y3 y4 y5 y6 y7 y8 g rm op la fo co cv ta rc ec su pe qt rn nu th) ⟨hx, hb, hml, hown, hts⟩ (c_L_setGrants l hst D cI cJ x0 x1 x2 x3 x4 x5 x6 x7 x8 x9 o0 _ g rm op rc ec su pe qt rs rn cs cn lc hc lg hg u 100000 (xs (Int32.toNatClampNeg (i + 1))) (xs (Int32.toNatClampNeg (i + 2))) r0 g' rm' e0 th' u' hres) (vx_cwSW 4 hts gL_law_L_setGrants rfl rfl rfl (by decide +kernel) ⟨Nat.le_of_ble_eq_true rfl, Nat.le_of_ble_eq_true rfl⟩) hK hP hD hS hA hT [0, 1, 2, 3, 4, 5, 6, 7, 8, 9, 19] [10, 11, 12, 13, 14, 15, 16, 17, 18] rfl rfl (by decide) (by decide) (by decide) rfl rfl hl.1 rfl (lv_room (Nat.le_of_ble_eq_true rfl)) dL_law_332 hf (fun H locs hP hD hS => ?_)
  replace hP := hP.sub (ws' := wX cI cJ x0 x1 x2 x3 x4 x5 x6 x7 x8 x9 g' rm' op rc ec su pe qt rs rn cs cn lc hc lg hg ++ (wY cI cJ y0 y1 y2 y3 y4 y5 y6 y7 y8 g rm op la fo co cv ta rc ec su pe qt rn nu th ++ [(o0, .inl (cJ, 1, .inr (.inl u')))])) [9, 10, 11, 12, 13, 14, 15, 16, 17, 18, 0, 1, 2, 3, 4, 5, 6, 7, 8, 19] rfl
  replace hD := hD.sub (ws' := wX cI cJ x0 x1 x2 x3 x4 x5 x6 x7 x8 x9 g' rm' op rc ec su pe qt rs rn cs cn lc hc lg hg ++ (wY cI cJ y0 y1 y2 y3 y4 y5 y6 y7 y8 g rm op la fo co cv ta rc ec su pe qt rn nu th ++ [(o0, .inl (cJ, 1, .inr (.inl u')))])) [9, 10, 11, 12, 13, 14, 15, 16, 17, 18, 0, 1, 2, 3, 4, 5, 6, 7, 8, 19] (by decide) rfl
  refine lv_istore (lv' := [(5, .int th'), (4, .int i), (3, .ref o0), (2, .ref y0), (1, .ref x0), (0, .ref b)]) hx hb dL_law_335 hl (by decide) rfl (fun ls hl => ?_)
  refine lv_aload_n hx hb dL_law_337 rfl (lv_at hl 3 rfl) ?_
  refine lv_aload_n hx hb dL_law_338 rfl (lv_at hl 5 rfl) ?_
  refine lv_iload hx hb dL_law_339 (lv_at hl 1 rfl) ?_
  refine lv_iconst (v := 1) hx hb dL_law_341 (by decide) ?_
  refine lv_iadd hx hb dL_law_342 ?_
  refine va_sld hx hb hX hbl hbA hS hi1 dL_law_343 ?_
  refine lv_aload_n hx hb dL_law_344 rfl (lv_at hl 5 rfl) ?_
  refine lv_iload hx hb dL_law_345 (lv_at hl 1 rfl) ?_
  refine lv_iconst (v := 2) hx hb dL_law_347 (by decide) ?_
  refine lv_iadd hx hb dL_law_348 ?_
  refine va_sld hx hb hX hbl hbA hS hi2 dL_law_349 ?_
  refine lz_Ti (r0 := r1) (As := [.int (xs (Int32.toNatClampNeg (i + 1))), .int (xs (Int32.toNatClampNeg (i + 2)))]) (rest := []) (wc := wY cI cJ y0 y1 y2 y3 y4 y5 y6 y7 y8 g rm op la fo co cv ta rc ec su pe qt rn nu th) (w1 := wY cI cJ y0 y1 y2 y3 y4 y5 y6 y7 y8 g' rm' op la fo co cv ta rc ec su pe qt rn nu th') (wr := wX cI cJ x0 x1 x2 x3 x4 x5 x6 x7 x8 x9 g' rm' op rc ec su pe qt rs rn cs cn lc hc lg hg ++ [(o0, .inl (cJ, 1, .inr (.inl u')))]) ⟨hx, hb, hml, hown, hts⟩ (c_X1_setGrants l D cI cJ y0 y1 y2 y3 y4 y5 y6 y7 y8 _ g rm op la fo co cv ta rc ec su pe qt rn nu th 100000 (xs (Int32.toNatClampNeg (i + 1))) (xs (Int32.toNatClampNeg (i + 2))) r1 g' rm' th' e1) (cwV 2 hts gL_law_X1_setGrants rfl rfl rfl (by decide +kernel) ⟨Nat.le_of_ble_eq_true rfl, Nat.le_of_ble_eq_true rfl⟩) hK hP hD hS hA [10, 11, 12, 13, 14, 15, 16, 17, 18] [0, 1, 2, 3, 4, 5, 6, 7, 8, 9, 19] rfl rfl (by decide) (by decide) (by decide) rfl rfl rfl rfl hl.1 rfl (lv_room (Nat.le_of_ble_eq_true rfl)) dL_law_350 hf (fun H locs hP hD hS => ?_)
  replace hP := hP.sub (ws' := wX cI cJ x0 x1 x2 x3 x4 x5 x6 x7 x8 x9 g' rm' op rc ec su pe qt rs rn cs cn lc hc lg hg ++ (wY cI cJ y0 y1 y2 y3 y4 y5 y6 y7 y8 g' rm' op la fo co cv ta rc ec su pe qt rn nu th' ++ [(o0, .inl (cJ, 1, .inr (.inl u')))])) [0, 1, 2, 3, 4, 5, 6, 7, 8, 9, 11, 12, 13, 14, 15, 16, 17, 18, 19, 10] rfl
  replace hD := hD.sub (ws' := wX cI cJ x0 x1 x2 x3 x4 x5 x6 x7 x8 x9 g' rm' op rc ec su pe qt rs rn cs cn lc hc lg hg ++ (wY cI cJ y0 y1 y2 y3 y4 y5 y6 y7 y8 g' rm' op la fo co cv ta rc ec su pe qt rn nu th' ++ [(o0, .inl (cJ, 1, .inr (.inl u')))])) [0, 1, 2, 3, 4, 5, 6, 7, 8, 9, 11, 12, 13, 14, 15, 16, 17, 18, 19, 10] (by decide) rfl
  refine lv_istore (lv' := [(6, .int r1), (5, .int th'), (4, .int i), (3, .ref o0), (2, .ref y0), (1, .ref x0), (0, .ref b)]) hx hb dL_law_353 hl (by decide) rfl (fun ls hl => ?_)
  refine lv_aload_n hx hb dL_law_355 rfl (lv_at hl 4 rfl) ?_
  refine lz_Ti (r0 := m_X1_thrown th') (As := []) (rest := []) (wc := wY cI cJ y0 y1 y2 y3 y4 y5 y6 y7 y8 g' rm' op la fo co cv ta rc ec su pe qt rn nu th') (w1 := wY cI cJ y0 y1 y2 y3 y4 y5 y6 y7 y8 g' rm' op la fo co cv ta rc ec su pe qt rn nu th') (wr := wX cI cJ x0 x1 x2 x3 x4 x5 x6 x7 x8 x9 g' rm' op rc ec su pe qt rs rn cs cn lc hc lg hg ++ [(o0, .inl (cJ, 1, .inr (.inl u')))]) ⟨hx, hb, hml, hown, hts⟩ (c_X1_thrown l D cI cJ y0 y1 y2 y3 y4 y5 y6 y7 y8 _ g' rm' op la fo co cv ta rc ec su pe qt rn nu th') (cwV 0 hts gL_law_X1_thrown rfl rfl rfl (by decide +kernel) ⟨Nat.le_of_ble_eq_true rfl, Nat.le_of_ble_eq_true rfl⟩) hK hP hD hS hA [10, 11, 12, 13, 14, 15, 16, 17, 18] [0, 1, 2, 3, 4, 5, 6, 7, 8, 9, 19] rfl rfl (by decide) (by decide) (by decide) rfl rfl rfl rfl hl.1 rfl (lv_room (Nat.le_of_ble_eq_true rfl)) dL_law_356 hf (fun H locs hP hD hS => ?_)
  replace hP := hP.sub (ws' := wX cI cJ x0 x1 x2 x3 x4 x5 x6 x7 x8 x9 g' rm' op rc ec su pe qt rs rn cs cn lc hc lg hg ++ (wY cI cJ y0 y1 y2 y3 y4 y5 y6 y7 y8 g' rm' op la fo co cv ta rc ec su pe qt rn nu th' ++ [(o0, .inl (cJ, 1, .inr (.inl u')))])) [0, 1, 2, 3, 4, 5, 6, 7, 8, 9, 11, 12, 13, 14, 15, 16, 17, 18, 19, 10] rfl
  replace hD := hD.sub (ws' := wX cI cJ x0 x1 x2 x3 x4 x5 x6 x7 x8 x9 g' rm' op rc ec su pe qt rs rn cs cn lc hc lg hg ++ (wY cI cJ y0 y1 y2 y3 y4 y5 y6 y7 y8 g' rm' op la fo co cv ta rc ec su pe qt rn nu th' ++ [(o0, .inl (cJ, 1, .inr (.inl u')))])) [0, 1, 2, 3, 4, 5, 6, 7, 8, 9, 11, 12, 13, 14, 15, 16, 17, 18, 19, 10] (by decide) rfl
  refine lv_iload hx hb dL_law_359 (lv_at hl 1 rfl) ?_
  refine lv_icmp_eq (tgt := 366) hx hb dL_law_361 (by decide) (fun c8 => ?_) (fun c8 => ?_)
  · refine lv_iload hx hb dL_law_366 (lv_at hl 1 rfl) ?_
    refine lv_if_ne (tgt := 383) hx hb dL_law_368 (by decide) (fun c9 => ?_) (fun c9 => ?_)
    · refine lv_goto (tgt := 1563) hx hb dL_law_383 (by decide) ?_
      exact kk _ _ _ ⟨g', rm', op, rc, ec, su, pe, qt, rs, rn, cs, cn, lc, hc, lg, hg, la, fo, co, cv, ta, nu, th', u', q, R, hg8, hVO, hrc, hsu, hqt, hVR, hP, hD, hS⟩ (lv_sub hl [2, 3, 4, 5, 6] rfl)
    · refine lv_aload_n hx hb dL_law_371 rfl (lv_at hl 3 rfl) ?_
      refine lv_iconst (v := 0) hx hb dL_law_372 (by decide) ?_
      refine va_lald hx hb hK hP 19 1 rfl rfl (show ¬ ((0 : Int32) < 0 ∨ 1 ≤ Int32.toNatClampNeg 0) by decide) dL_law_373 ?_
      rw [hcmp c9]
      refine lv_iload hx hb dL_law_374 (lv_at hl 0 rfl) ?_
      refine lv_i2l (v := Int32.toInt64 r1) hx hb dL_law_376 rfl ?_
      refine lz_cmp hx hb dL_law_377 ?_
      refine lv_if_eq (tgt := 383) hx hb dL_law_378 (by decide) (fun c8 => ?_) (fun c8 => ?_)
      · refine lv_goto (tgt := 1563) hx hb dL_law_383 (by decide) ?_
        exact kk _ _ _ ⟨g', rm', op, rc, ec, su, pe, qt, rs, rn, cs, cn, lc, hc, lg, hg, la, fo, co, cv, ta, nu, th', u', q, R, hg8, hVO, hrc, hsu, hqt, hVR, hP, hD, hS⟩ (lv_sub hl [2, 3, 4, 5, 6] rfl)
      · exact (c8 rfl).elim
  · exact (c8 rfl).elim
set_option maxHeartbeats 4000000 in
set_option maxRecDepth 100000 in
theorem lz_setConflict0 {p : Program} {l : Launch} {e : Env} {s : State} {m : MethodId} {below : List Frame} {meth : Method} {c : Code} {Q : State → Prop} {b L : Nat} {xs : Nat → Int32} {D : va_G} {cI cJ : ClassId} {x0 x1 x2 x3 x4 x5 x6 x7 x8 x9 y0 y1 y2 y3 y4 y5 y6 y7 y8 o0 : Nat} {i : Int32} {cells slots : Nat} {H : Heap} {locs : List Loc} {ls : Array Slot} (hx : p.tables.exec = Jvm.exec) (hb : c.code = cL_law) (hml : c.maxLocals = 7) (hown : s.vm.findClass RL = some m.cls) (hts : ∀ w ∈ wsL_law, w.before ([Value.ref b] : List Value).toArray s = true) (hX : va_X b L xs s s.heap) (hbl : b < s.heap.size) (hst : l.stackTraces = false) (hK : va_K D vwCl [(cI, .int), (cJ, .long)] s) (hT : xThrL (lz_A s) s) (h3 : (xs (Int32.toNatClampNeg (i + 3))) = 0) (hi1 : vp_in (i + 1) L) (hi2 : vp_in (i + 2) L) (hi3 : vp_in (i + 3) L) (hI : lz_I D cI cJ x0 x1 x2 x3 x4 x5 x6 x7 x8 x9 y0 y1 y2 y3 y4 y5 y6 y7 y8 o0 s H locs) (hl : lv_has ls 7 [(4, .int i), (3, .ref o0), (2, .ref y0), (1, .ref x0), (0, .ref b)]) (hf : cells + 1 ≤ room_1.cells ∧ slots + 6 ≤ room_1.slots)
    (kk : ∀ (H1 : Heap) (locs1 : List Loc) (ls1 : Array Slot), lz_I D cI cJ x0 x1 x2 x3 x4 x5 x6 x7 x8 x9 y0 y1 y2 y3 y4 y5 y6 y7 y8 o0 s H1 locs1 → lv_has ls1 7 [(4, .int i), (3, .ref o0), (2, .ref y0), (1, .ref x0), (0, .ref b)] → W p l e room_1 s m ([Value.ref b] : List Value).toArray below meth c H1 locs1 (cells + 1) (slots + 6) Q (F0 m 1563 ls1 [])) : W p l e room_1 s m ([Value.ref b] : List Value).toArray below meth c H locs cells slots Q (F0 m 386 ls []) := by
  obtain ⟨g, rm, op, rc, ec, su, pe, qt, rs, rn, cs, cn, lc, hc, lg, hg, la, fo, co, cv, ta, nu, th, u, q, R, hg8, hVO, hrc, hsu, hqt, hVR, hP, hD, hS⟩ := hI
  have hA : ∀ q, s.heap.size ≤ q → lz_A s q := fun q h9 => h9
  have hbA : ¬ lz_A s b := fun h9 => absurd hbl (Nat.not_lt.mpr h9)
  have hf0 : cells + 0 ≤ room_1.cells ∧ slots + 0 ≤ room_1.slots := ⟨Nat.le_trans (Nat.le_succ _) hf.1, Nat.le_trans (Nat.le_add_right _ _) hf.2⟩
  have hc9 : (0 : Int32) = 0 ∨ (0 : Int32) = 1 := by decide
  obtain ⟨r0, op', r1, th', e0, e1, hVO, hoc⟩ := s_setConflict hVO th (xs (Int32.toNatClampNeg (i + 1))) (xs (Int32.toNatClampNeg (i + 2))) 0 hc9
  obtain ⟨u', hres, hcmp⟩ := oc_b2 hoc u
  have hl : lv_has ls 7 [(4, .int i), (3, .ref o0), (2, .ref y0), (1, .ref x0), (0, .ref b)] := hl
  refine lv_aload_n hx hb dL_law_386 rfl (lv_at hl 3 rfl) ?_
  refine lv_aload_n hx hb dL_law_387 rfl (lv_at hl 4 rfl) ?_
  refine lv_iload hx hb dL_law_388 (lv_at hl 0 rfl) ?_
  refine lv_iconst (v := 1) hx hb dL_law_390 (by decide) ?_
  refine lv_iadd hx hb dL_law_391 ?_
  refine va_sld hx hb hX hbl hbA hS hi1 dL_law_392 ?_
  refine lv_aload_n hx hb dL_law_393 rfl (lv_at hl 4 rfl) ?_
  refine lv_iload hx hb dL_law_394 (lv_at hl 0 rfl) ?_
  refine lv_iconst (v := 2) hx hb dL_law_396 (by decide) ?_
  refine lv_iadd hx hb dL_law_397 ?_
  refine va_sld hx hb hX hbl hbA hS hi2 dL_law_398 ?_
  refine lv_aload_n hx hb dL_law_399 rfl (lv_at hl 4 rfl) ?_
  refine lv_iload hx hb dL_law_400 (lv_at hl 0 rfl) ?_
  refine lv_iconst (v := 3) hx hb dL_law_402 (by decide) ?_
  refine lv_iadd hx hb dL_law_403 ?_
  refine va_sld hx hb hX hbl hbA hS hi3 dL_law_404 ?_
  refine lv_if_eq (tgt := 412) hx hb dL_law_405 (by decide) (fun c8 => ?_) (fun c8 => ?_)
  · refine lv_iconst (v := 0) hx hb dL_law_412 (by decide) ?_
    refine lv_aload_n hx hb dL_law_413 rfl (lv_at hl 1 rfl) ?_
    refine lz_Wi (r0 := th') (As := [.ref x0, .int (xs (Int32.toNatClampNeg (i + 1))), .int (xs (Int32.toNatClampNeg (i + 2))), .int 0, .ref o0]) (rest := []) (wc := wX cI cJ x0 x1 x2 x3 x4 x5 x6 x7 x8 x9 g rm op rc ec su pe qt rs rn cs cn lc hc lg hg ++ [(o0, .inl (cJ, 1, .inr (.inl u)))]) (w1 := wX cI cJ x0 x1 x2 x3 x4 x5 x6 x7 x8 x9 g rm op' rc ec su pe qt rs rn cs cn lc hc lg hg ++ [(o0, .inl (cJ, 1, .inr (.inl u')))]) (wr := wY cI cJ y0 y1 y2 y3 y4 y5 y6 y7 y8 g rm op la fo co cv ta rc ec su pe qt rn nu th) ⟨hx, hb, hml, hown, hts⟩ (c_L_setConflict l hst D cI cJ x0 x1 x2 x3 x4 x5 x6 x7 x8 x9 o0 _ g rm op rc ec su pe qt rs rn cs cn lc hc lg hg u (xs (Int32.toNatClampNeg (i + 1))) (xs (Int32.toNatClampNeg (i + 2))) 0 r0 op' e0 th' u' hres) (vx_cwSW 5 hts gL_law_L_setConflict rfl rfl rfl (by decide +kernel) ⟨Nat.le_of_ble_eq_true rfl, Nat.le_of_ble_eq_true rfl⟩) hK hP hD hS hA hT [0, 1, 2, 3, 4, 5, 6, 7, 8, 9, 19] [10, 11, 12, 13, 14, 15, 16, 17, 18] rfl rfl (by decide) (by decide) (by decide) rfl rfl hl.1 rfl (lv_room (Nat.le_of_ble_eq_true rfl)) dL_law_414 hf (fun H locs hP hD hS => ?_)
    replace hP := hP.sub (ws' := wX cI cJ x0 x1 x2 x3 x4 x5 x6 x7 x8 x9 g rm op' rc ec su pe qt rs rn cs cn lc hc lg hg ++ (wY cI cJ y0 y1 y2 y3 y4 y5 y6 y7 y8 g rm op la fo co cv ta rc ec su pe qt rn nu th ++ [(o0, .inl (cJ, 1, .inr (.inl u')))])) [9, 10, 11, 12, 13, 14, 15, 16, 17, 18, 0, 1, 2, 3, 4, 5, 6, 7, 8, 19] rfl
    replace hD := hD.sub (ws' := wX cI cJ x0 x1 x2 x3 x4 x5 x6 x7 x8 x9 g rm op' rc ec su pe qt rs rn cs cn lc hc lg hg ++ (wY cI cJ y0 y1 y2 y3 y4 y5 y6 y7 y8 g rm op la fo co cv ta rc ec su pe qt rn nu th ++ [(o0, .inl (cJ, 1, .inr (.inl u')))])) [9, 10, 11, 12, 13, 14, 15, 16, 17, 18, 0, 1, 2, 3, 4, 5, 6, 7, 8, 19] (by decide) rfl
    refine lv_istore (lv' := [(5, .int th'), (4, .int i), (3, .ref o0), (2, .ref y0), (1, .ref x0), (0, .ref b)]) hx hb dL_law_417 hl (by decide) rfl (fun ls hl => ?_)
    refine lv_aload_n hx hb dL_law_419 rfl (lv_at hl 3 rfl) ?_
    refine lv_aload_n hx hb dL_law_420 rfl (lv_at hl 5 rfl) ?_
    refine lv_iload hx hb dL_law_421 (lv_at hl 1 rfl) ?_
    refine lv_iconst (v := 1) hx hb dL_law_423 (by decide) ?_
    refine lv_iadd hx hb dL_law_424 ?_
    refine va_sld hx hb hX hbl hbA hS hi1 dL_law_425 ?_
    refine lv_aload_n hx hb dL_law_426 rfl (lv_at hl 5 rfl) ?_
    refine lv_iload hx hb dL_law_427 (lv_at hl 1 rfl) ?_
    refine lv_iconst (v := 2) hx hb dL_law_429 (by decide) ?_
    refine lv_iadd hx hb dL_law_430 ?_
    refine va_sld hx hb hX hbl hbA hS hi2 dL_law_431 ?_
    refine lv_aload_n hx hb dL_law_432 rfl (lv_at hl 5 rfl) ?_
    refine lv_iload hx hb dL_law_433 (lv_at hl 1 rfl) ?_
    refine lv_iconst (v := 3) hx hb dL_law_435 (by decide) ?_
    refine lv_iadd hx hb dL_law_436 ?_
    refine va_sld hx hb hX hbl hbA hS hi3 dL_law_437 ?_
    refine lv_if_eq (tgt := 445) hx hb dL_law_438 (by decide) (fun c8 => ?_) (fun c8 => ?_)
    · refine lv_iconst (v := 0) hx hb dL_law_445 (by decide) ?_
      refine lz_Ti (r0 := r1) (As := [.int (xs (Int32.toNatClampNeg (i + 1))), .int (xs (Int32.toNatClampNeg (i + 2))), .int 0]) (rest := []) (wc := wY cI cJ y0 y1 y2 y3 y4 y5 y6 y7 y8 g rm op la fo co cv ta rc ec su pe qt rn nu th) (w1 := wY cI cJ y0 y1 y2 y3 y4 y5 y6 y7 y8 g rm op' la fo co cv ta rc ec su pe qt rn nu th') (wr := wX cI cJ x0 x1 x2 x3 x4 x5 x6 x7 x8 x9 g rm op' rc ec su pe qt rs rn cs cn lc hc lg hg ++ [(o0, .inl (cJ, 1, .inr (.inl u')))]) ⟨hx, hb, hml, hown, hts⟩ (c_X1_setConflict l D cI cJ y0 y1 y2 y3 y4 y5 y6 y7 y8 _ g rm op la fo co cv ta rc ec su pe qt rn nu th (xs (Int32.toNatClampNeg (i + 1))) (xs (Int32.toNatClampNeg (i + 2))) 0 r1 op' th' e1) (cwV 3 hts gL_law_X1_setConflict rfl rfl rfl (by decide +kernel) ⟨Nat.le_of_ble_eq_true rfl, Nat.le_of_ble_eq_true rfl⟩) hK hP hD hS hA [10, 11, 12, 13, 14, 15, 16, 17, 18] [0, 1, 2, 3, 4, 5, 6, 7, 8, 9, 19] rfl rfl (by decide) (by decide) (by decide) rfl rfl rfl rfl hl.1 rfl (lv_room (Nat.le_of_ble_eq_true rfl)) dL_law_446 hf (fun H locs hP hD hS => ?_)
      replace hP := hP.sub (ws' := wX cI cJ x0 x1 x2 x3 x4 x5 x6 x7 x8 x9 g rm op' rc ec su pe qt rs rn cs cn lc hc lg hg ++ (wY cI cJ y0 y1 y2 y3 y4 y5 y6 y7 y8 g rm op' la fo co cv ta rc ec su pe qt rn nu th' ++ [(o0, .inl (cJ, 1, .inr (.inl u')))])) [0, 1, 2, 3, 4, 5, 6, 7, 8, 9, 11, 12, 13, 14, 15, 16, 17, 18, 19, 10] rfl
      replace hD := hD.sub (ws' := wX cI cJ x0 x1 x2 x3 x4 x5 x6 x7 x8 x9 g rm op' rc ec su pe qt rs rn cs cn lc hc lg hg ++ (wY cI cJ y0 y1 y2 y3 y4 y5 y6 y7 y8 g rm op' la fo co cv ta rc ec su pe qt rn nu th' ++ [(o0, .inl (cJ, 1, .inr (.inl u')))])) [0, 1, 2, 3, 4, 5, 6, 7, 8, 9, 11, 12, 13, 14, 15, 16, 17, 18, 19, 10] (by decide) rfl
      refine lv_istore (lv' := [(6, .int r1), (5, .int th'), (4, .int i), (3, .ref o0), (2, .ref y0), (1, .ref x0), (0, .ref b)]) hx hb dL_law_449 hl (by decide) rfl (fun ls hl => ?_)
      refine lv_aload_n hx hb dL_law_451 rfl (lv_at hl 4 rfl) ?_
      refine lz_Ti (r0 := m_X1_thrown th') (As := []) (rest := []) (wc := wY cI cJ y0 y1 y2 y3 y4 y5 y6 y7 y8 g rm op' la fo co cv ta rc ec su pe qt rn nu th') (w1 := wY cI cJ y0 y1 y2 y3 y4 y5 y6 y7 y8 g rm op' la fo co cv ta rc ec su pe qt rn nu th') (wr := wX cI cJ x0 x1 x2 x3 x4 x5 x6 x7 x8 x9 g rm op' rc ec su pe qt rs rn cs cn lc hc lg hg ++ [(o0, .inl (cJ, 1, .inr (.inl u')))]) ⟨hx, hb, hml, hown, hts⟩ (c_X1_thrown l D cI cJ y0 y1 y2 y3 y4 y5 y6 y7 y8 _ g rm op' la fo co cv ta rc ec su pe qt rn nu th') (cwV 0 hts gL_law_X1_thrown rfl rfl rfl (by decide +kernel) ⟨Nat.le_of_ble_eq_true rfl, Nat.le_of_ble_eq_true rfl⟩) hK hP hD hS hA [10, 11, 12, 13, 14, 15, 16, 17, 18] [0, 1, 2, 3, 4, 5, 6, 7, 8, 9, 19] rfl rfl (by decide) (by decide) (by decide) rfl rfl rfl rfl hl.1 rfl (lv_room (Nat.le_of_ble_eq_true rfl)) dL_law_452 hf (fun H locs hP hD hS => ?_)
      replace hP := hP.sub (ws' := wX cI cJ x0 x1 x2 x3 x4 x5 x6 x7 x8 x9 g rm op' rc ec su pe qt rs rn cs cn lc hc lg hg ++ (wY cI cJ y0 y1 y2 y3 y4 y5 y6 y7 y8 g rm op' la fo co cv ta rc ec su pe qt rn nu th' ++ [(o0, .inl (cJ, 1, .inr (.inl u')))])) [0, 1, 2, 3, 4, 5, 6, 7, 8, 9, 11, 12, 13, 14, 15, 16, 17, 18, 19, 10] rfl
      replace hD := hD.sub (ws' := wX cI cJ x0 x1 x2 x3 x4 x5 x6 x7 x8 x9 g rm op' rc ec su pe qt rs rn cs cn lc hc lg hg ++ (wY cI cJ y0 y1 y2 y3 y4 y5 y6 y7 y8 g rm op' la fo co cv ta rc ec su pe qt rn nu th' ++ [(o0, .inl (cJ, 1, .inr (.inl u')))])) [0, 1, 2, 3, 4, 5, 6, 7, 8, 9, 11, 12, 13, 14, 15, 16, 17, 18, 19, 10] (by decide) rfl
      refine lv_iload hx hb dL_law_455 (lv_at hl 1 rfl) ?_
      refine lv_icmp_eq (tgt := 462) hx hb dL_law_457 (by decide) (fun c8 => ?_) (fun c8 => ?_)
      · refine lv_iload hx hb dL_law_462 (lv_at hl 1 rfl) ?_
        refine lv_if_ne (tgt := 486) hx hb dL_law_464 (by decide) (fun c9 => ?_) (fun c9 => ?_)
        · refine lv_goto (tgt := 1563) hx hb dL_law_486 (by decide) ?_
          exact kk _ _ _ ⟨g, rm, op', rc, ec, su, pe, qt, rs, rn, cs, cn, lc, hc, lg, hg, la, fo, co, cv, ta, nu, th', u', q, R, hg8, hVO, hrc, hsu, hqt, hVR, hP, hD, hS⟩ (lv_sub hl [2, 3, 4, 5, 6] rfl)
        · refine lv_aload_n hx hb dL_law_467 rfl (lv_at hl 3 rfl) ?_
          refine lv_iconst (v := 0) hx hb dL_law_468 (by decide) ?_
          refine va_lald hx hb hK hP 19 1 rfl rfl (show ¬ ((0 : Int32) < 0 ∨ 1 ≤ Int32.toNatClampNeg 0) by decide) dL_law_469 ?_
          rw [hcmp c9]
          refine lv_iload hx hb dL_law_470 (lv_at hl 0 rfl) ?_
          refine lv_if_eq (tgt := 479) hx hb dL_law_472 (by decide) (fun c8 => ?_) (fun c8 => ?_)
          · rw [show bl r1 = 0 from if_pos c8]
            refine lv_lconst (v := 0) hx hb dL_law_479 (by decide) ?_
            refine lz_cmp hx hb dL_law_480 ?_
            refine lv_if_eq (tgt := 486) hx hb dL_law_481 (by decide) (fun c8 => ?_) (fun c8 => ?_)
            · refine lv_goto (tgt := 1563) hx hb dL_law_486 (by decide) ?_
              exact kk _ _ _ ⟨g, rm, op', rc, ec, su, pe, qt, rs, rn, cs, cn, lc, hc, lg, hg, la, fo, co, cv, ta, nu, th', u', q, R, hg8, hVO, hrc, hsu, hqt, hVR, hP, hD, hS⟩ (lv_sub hl [2, 3, 4, 5, 6] rfl)
            · exact (c8 rfl).elim
          · rw [show bl r1 = 1 from if_neg c8]
            refine lv_lconst (v := 1) hx hb dL_law_475 (by decide) ?_
            refine lv_goto (tgt := 480) hx hb dL_law_476 (by decide) ?_
            refine lz_cmp hx hb dL_law_480 ?_
            refine lv_if_eq (tgt := 486) hx hb dL_law_481 (by decide) (fun c8 => ?_) (fun c8 => ?_)
            · refine lv_goto (tgt := 1563) hx hb dL_law_486 (by decide) ?_
              exact kk _ _ _ ⟨g, rm, op', rc, ec, su, pe, qt, rs, rn, cs, cn, lc, hc, lg, hg, la, fo, co, cv, ta, nu, th', u', q, R, hg8, hVO, hrc, hsu, hqt, hVR, hP, hD, hS⟩ (lv_sub hl [2, 3, 4, 5, 6] rfl)
            · exact (c8 rfl).elim
      · exact (c8 rfl).elim
    · exact (c8 h3).elim
  · exact (c8 h3).elim
set_option maxHeartbeats 4000000 in
set_option maxRecDepth 100000 in
theorem lz_setConflict1 {p : Program} {l : Launch} {e : Env} {s : State} {m : MethodId} {below : List Frame} {meth : Method} {c : Code} {Q : State → Prop} {b L : Nat} {xs : Nat → Int32} {D : va_G} {cI cJ : ClassId} {x0 x1 x2 x3 x4 x5 x6 x7 x8 x9 y0 y1 y2 y3 y4 y5 y6 y7 y8 o0 : Nat} {i : Int32} {cells slots : Nat} {H : Heap} {locs : List Loc} {ls : Array Slot} (hx : p.tables.exec = Jvm.exec) (hb : c.code = cL_law) (hml : c.maxLocals = 7) (hown : s.vm.findClass RL = some m.cls) (hts : ∀ w ∈ wsL_law, w.before ([Value.ref b] : List Value).toArray s = true) (hX : va_X b L xs s s.heap) (hbl : b < s.heap.size) (hst : l.stackTraces = false) (hK : va_K D vwCl [(cI, .int), (cJ, .long)] s) (hT : xThrL (lz_A s) s) (h3 : ¬ (xs (Int32.toNatClampNeg (i + 3))) = 0) (hi1 : vp_in (i + 1) L) (hi2 : vp_in (i + 2) L) (hi3 : vp_in (i + 3) L) (hI : lz_I D cI cJ x0 x1 x2 x3 x4 x5 x6 x7 x8 x9 y0 y1 y2 y3 y4 y5 y6 y7 y8 o0 s H locs) (hl : lv_has ls 7 [(4, .int i), (3, .ref o0), (2, .ref y0), (1, .ref x0), (0, .ref b)]) (hf : cells + 1 ≤ room_1.cells ∧ slots + 6 ≤ room_1.slots)
    (kk : ∀ (H1 : Heap) (locs1 : List Loc) (ls1 : Array Slot), lz_I D cI cJ x0 x1 x2 x3 x4 x5 x6 x7 x8 x9 y0 y1 y2 y3 y4 y5 y6 y7 y8 o0 s H1 locs1 → lv_has ls1 7 [(4, .int i), (3, .ref o0), (2, .ref y0), (1, .ref x0), (0, .ref b)] → W p l e room_1 s m ([Value.ref b] : List Value).toArray below meth c H1 locs1 (cells + 1) (slots + 6) Q (F0 m 1563 ls1 [])) : W p l e room_1 s m ([Value.ref b] : List Value).toArray below meth c H locs cells slots Q (F0 m 386 ls []) := by
  obtain ⟨g, rm, op, rc, ec, su, pe, qt, rs, rn, cs, cn, lc, hc, lg, hg, la, fo, co, cv, ta, nu, th, u, q, R, hg8, hVO, hrc, hsu, hqt, hVR, hP, hD, hS⟩ := hI
  have hA : ∀ q, s.heap.size ≤ q → lz_A s q := fun q h9 => h9
  have hbA : ¬ lz_A s b := fun h9 => absurd hbl (Nat.not_lt.mpr h9)
  have hf0 : cells + 0 ≤ room_1.cells ∧ slots + 0 ≤ room_1.slots := ⟨Nat.le_trans (Nat.le_succ _) hf.1, Nat.le_trans (Nat.le_add_right _ _) hf.2⟩
  have hc9 : (1 : Int32) = 0 ∨ (1 : Int32) = 1 := by decide
  obtain ⟨r0, op', r1, th', e0, e1, hVO, hoc⟩ := s_setConflict hVO th (xs (Int32.toNatClampNeg (i + 1))) (xs (Int32.toNatClampNeg (i + 2))) 1 hc9
  obtain ⟨u', hres, hcmp⟩ := oc_b2 hoc u
  have hl : lv_has ls 7 [(4, .int i), (3, .ref o0), (2, .ref y0), (1, .ref x0), (0, .ref b)] := hl
  refine lv_aload_n hx hb dL_law_386 rfl (lv_at hl 3 rfl) ?_
  refine lv_aload_n hx hb dL_law_387 rfl (lv_at hl 4 rfl) ?_
  refine lv_iload hx hb dL_law_388 (lv_at hl 0 rfl) ?_
  refine lv_iconst (v := 1) hx hb dL_law_390 (by decide) ?_
  refine lv_iadd hx hb dL_law_391 ?_
  refine va_sld hx hb hX hbl hbA hS hi1 dL_law_392 ?_
  refine lv_aload_n hx hb dL_law_393 rfl (lv_at hl 4 rfl) ?_
  refine lv_iload hx hb dL_law_394 (lv_at hl 0 rfl) ?_
  refine lv_iconst (v := 2) hx hb dL_law_396 (by decide) ?_
  refine lv_iadd hx hb dL_law_397 ?_
  refine va_sld hx hb hX hbl hbA hS hi2 dL_law_398 ?_
  refine lv_aload_n hx hb dL_law_399 rfl (lv_at hl 4 rfl) ?_
  refine lv_iload hx hb dL_law_400 (lv_at hl 0 rfl) ?_
  refine lv_iconst (v := 3) hx hb dL_law_402 (by decide) ?_
  refine lv_iadd hx hb dL_law_403 ?_
  refine va_sld hx hb hX hbl hbA hS hi3 dL_law_404 ?_
  refine lv_if_eq (tgt := 412) hx hb dL_law_405 (by decide) (fun c8 => ?_) (fun c8 => ?_)
  · exact (h3 c8).elim
  · refine lv_iconst (v := 1) hx hb dL_law_408 (by decide) ?_
    refine lv_goto (tgt := 413) hx hb dL_law_409 (by decide) ?_
    refine lv_aload_n hx hb dL_law_413 rfl (lv_at hl 1 rfl) ?_
    refine lz_Wi (r0 := th') (As := [.ref x0, .int (xs (Int32.toNatClampNeg (i + 1))), .int (xs (Int32.toNatClampNeg (i + 2))), .int 1, .ref o0]) (rest := []) (wc := wX cI cJ x0 x1 x2 x3 x4 x5 x6 x7 x8 x9 g rm op rc ec su pe qt rs rn cs cn lc hc lg hg ++ [(o0, .inl (cJ, 1, .inr (.inl u)))]) (w1 := wX cI cJ x0 x1 x2 x3 x4 x5 x6 x7 x8 x9 g rm op' rc ec su pe qt rs rn cs cn lc hc lg hg ++ [(o0, .inl (cJ, 1, .inr (.inl u')))]) (wr := wY cI cJ y0 y1 y2 y3 y4 y5 y6 y7 y8 g rm op la fo co cv ta rc ec su pe qt rn nu th) ⟨hx, hb, hml, hown, hts⟩ (c_L_setConflict l hst D cI cJ x0 x1 x2 x3 x4 x5 x6 x7 x8 x9 o0 _ g rm op rc ec su pe qt rs rn cs cn lc hc lg hg u (xs (Int32.toNatClampNeg (i + 1))) (xs (Int32.toNatClampNeg (i + 2))) 1 r0 op' e0 th' u' hres) (vx_cwSW 5 hts gL_law_L_setConflict rfl rfl rfl (by decide +kernel) ⟨Nat.le_of_ble_eq_true rfl, Nat.le_of_ble_eq_true rfl⟩) hK hP hD hS hA hT [0, 1, 2, 3, 4, 5, 6, 7, 8, 9, 19] [10, 11, 12, 13, 14, 15, 16, 17, 18] rfl rfl (by decide) (by decide) (by decide) rfl rfl hl.1 rfl (lv_room (Nat.le_of_ble_eq_true rfl)) dL_law_414 hf (fun H locs hP hD hS => ?_)
    replace hP := hP.sub (ws' := wX cI cJ x0 x1 x2 x3 x4 x5 x6 x7 x8 x9 g rm op' rc ec su pe qt rs rn cs cn lc hc lg hg ++ (wY cI cJ y0 y1 y2 y3 y4 y5 y6 y7 y8 g rm op la fo co cv ta rc ec su pe qt rn nu th ++ [(o0, .inl (cJ, 1, .inr (.inl u')))])) [9, 10, 11, 12, 13, 14, 15, 16, 17, 18, 0, 1, 2, 3, 4, 5, 6, 7, 8, 19] rfl
    replace hD := hD.sub (ws' := wX cI cJ x0 x1 x2 x3 x4 x5 x6 x7 x8 x9 g rm op' rc ec su pe qt rs rn cs cn lc hc lg hg ++ (wY cI cJ y0 y1 y2 y3 y4 y5 y6 y7 y8 g rm op la fo co cv ta rc ec su pe qt rn nu th ++ [(o0, .inl (cJ, 1, .inr (.inl u')))])) [9, 10, 11, 12, 13, 14, 15, 16, 17, 18, 0, 1, 2, 3, 4, 5, 6, 7, 8, 19] (by decide) rfl
    refine lv_istore (lv' := [(5, .int th'), (4, .int i), (3, .ref o0), (2, .ref y0), (1, .ref x0), (0, .ref b)]) hx hb dL_law_417 hl (by decide) rfl (fun ls hl => ?_)
    refine lv_aload_n hx hb dL_law_419 rfl (lv_at hl 3 rfl) ?_
    refine lv_aload_n hx hb dL_law_420 rfl (lv_at hl 5 rfl) ?_
    refine lv_iload hx hb dL_law_421 (lv_at hl 1 rfl) ?_
    refine lv_iconst (v := 1) hx hb dL_law_423 (by decide) ?_
    refine lv_iadd hx hb dL_law_424 ?_
    refine va_sld hx hb hX hbl hbA hS hi1 dL_law_425 ?_
    refine lv_aload_n hx hb dL_law_426 rfl (lv_at hl 5 rfl) ?_
    refine lv_iload hx hb dL_law_427 (lv_at hl 1 rfl) ?_
    refine lv_iconst (v := 2) hx hb dL_law_429 (by decide) ?_
    refine lv_iadd hx hb dL_law_430 ?_
    refine va_sld hx hb hX hbl hbA hS hi2 dL_law_431 ?_
    refine lv_aload_n hx hb dL_law_432 rfl (lv_at hl 5 rfl) ?_
    refine lv_iload hx hb dL_law_433 (lv_at hl 1 rfl) ?_
    refine lv_iconst (v := 3) hx hb dL_law_435 (by decide) ?_
    refine lv_iadd hx hb dL_law_436 ?_
    refine va_sld hx hb hX hbl hbA hS hi3 dL_law_437 ?_
    refine lv_if_eq (tgt := 445) hx hb dL_law_438 (by decide) (fun c8 => ?_) (fun c8 => ?_)
    · exact (h3 c8).elim
    · refine lv_iconst (v := 1) hx hb dL_law_441 (by decide) ?_
      refine lv_goto (tgt := 446) hx hb dL_law_442 (by decide) ?_
      refine lz_Ti (r0 := r1) (As := [.int (xs (Int32.toNatClampNeg (i + 1))), .int (xs (Int32.toNatClampNeg (i + 2))), .int 1]) (rest := []) (wc := wY cI cJ y0 y1 y2 y3 y4 y5 y6 y7 y8 g rm op la fo co cv ta rc ec su pe qt rn nu th) (w1 := wY cI cJ y0 y1 y2 y3 y4 y5 y6 y7 y8 g rm op' la fo co cv ta rc ec su pe qt rn nu th') (wr := wX cI cJ x0 x1 x2 x3 x4 x5 x6 x7 x8 x9 g rm op' rc ec su pe qt rs rn cs cn lc hc lg hg ++ [(o0, .inl (cJ, 1, .inr (.inl u')))]) ⟨hx, hb, hml, hown, hts⟩ (c_X1_setConflict l D cI cJ y0 y1 y2 y3 y4 y5 y6 y7 y8 _ g rm op la fo co cv ta rc ec su pe qt rn nu th (xs (Int32.toNatClampNeg (i + 1))) (xs (Int32.toNatClampNeg (i + 2))) 1 r1 op' th' e1) (cwV 3 hts gL_law_X1_setConflict rfl rfl rfl (by decide +kernel) ⟨Nat.le_of_ble_eq_true rfl, Nat.le_of_ble_eq_true rfl⟩) hK hP hD hS hA [10, 11, 12, 13, 14, 15, 16, 17, 18] [0, 1, 2, 3, 4, 5, 6, 7, 8, 9, 19] rfl rfl (by decide) (by decide) (by decide) rfl rfl rfl rfl hl.1 rfl (lv_room (Nat.le_of_ble_eq_true rfl)) dL_law_446 hf (fun H locs hP hD hS => ?_)
      replace hP := hP.sub (ws' := wX cI cJ x0 x1 x2 x3 x4 x5 x6 x7 x8 x9 g rm op' rc ec su pe qt rs rn cs cn lc hc lg hg ++ (wY cI cJ y0 y1 y2 y3 y4 y5 y6 y7 y8 g rm op' la fo co cv ta rc ec su pe qt rn nu th' ++ [(o0, .inl (cJ, 1, .inr (.inl u')))])) [0, 1, 2, 3, 4, 5, 6, 7, 8, 9, 11, 12, 13, 14, 15, 16, 17, 18, 19, 10] rfl
      replace hD := hD.sub (ws' := wX cI cJ x0 x1 x2 x3 x4 x5 x6 x7 x8 x9 g rm op' rc ec su pe qt rs rn cs cn lc hc lg hg ++ (wY cI cJ y0 y1 y2 y3 y4 y5 y6 y7 y8 g rm op' la fo co cv ta rc ec su pe qt rn nu th' ++ [(o0, .inl (cJ, 1, .inr (.inl u')))])) [0, 1, 2, 3, 4, 5, 6, 7, 8, 9, 11, 12, 13, 14, 15, 16, 17, 18, 19, 10] (by decide) rfl
      refine lv_istore (lv' := [(6, .int r1), (5, .int th'), (4, .int i), (3, .ref o0), (2, .ref y0), (1, .ref x0), (0, .ref b)]) hx hb dL_law_449 hl (by decide) rfl (fun ls hl => ?_)
      refine lv_aload_n hx hb dL_law_451 rfl (lv_at hl 4 rfl) ?_
      refine lz_Ti (r0 := m_X1_thrown th') (As := []) (rest := []) (wc := wY cI cJ y0 y1 y2 y3 y4 y5 y6 y7 y8 g rm op' la fo co cv ta rc ec su pe qt rn nu th') (w1 := wY cI cJ y0 y1 y2 y3 y4 y5 y6 y7 y8 g rm op' la fo co cv ta rc ec su pe qt rn nu th') (wr := wX cI cJ x0 x1 x2 x3 x4 x5 x6 x7 x8 x9 g rm op' rc ec su pe qt rs rn cs cn lc hc lg hg ++ [(o0, .inl (cJ, 1, .inr (.inl u')))]) ⟨hx, hb, hml, hown, hts⟩ (c_X1_thrown l D cI cJ y0 y1 y2 y3 y4 y5 y6 y7 y8 _ g rm op' la fo co cv ta rc ec su pe qt rn nu th') (cwV 0 hts gL_law_X1_thrown rfl rfl rfl (by decide +kernel) ⟨Nat.le_of_ble_eq_true rfl, Nat.le_of_ble_eq_true rfl⟩) hK hP hD hS hA [10, 11, 12, 13, 14, 15, 16, 17, 18] [0, 1, 2, 3, 4, 5, 6, 7, 8, 9, 19] rfl rfl (by decide) (by decide) (by decide) rfl rfl rfl rfl hl.1 rfl (lv_room (Nat.le_of_ble_eq_true rfl)) dL_law_452 hf (fun H locs hP hD hS => ?_)
      replace hP := hP.sub (ws' := wX cI cJ x0 x1 x2 x3 x4 x5 x6 x7 x8 x9 g rm op' rc ec su pe qt rs rn cs cn lc hc lg hg ++ (wY cI cJ y0 y1 y2 y3 y4 y5 y6 y7 y8 g rm op' la fo co cv ta rc ec su pe qt rn nu th' ++ [(o0, .inl (cJ, 1, .inr (.inl u')))])) [0, 1, 2, 3, 4, 5, 6, 7, 8, 9, 11, 12, 13, 14, 15, 16, 17, 18, 19, 10] rfl
      replace hD := hD.sub (ws' := wX cI cJ x0 x1 x2 x3 x4 x5 x6 x7 x8 x9 g rm op' rc ec su pe qt rs rn cs cn lc hc lg hg ++ (wY cI cJ y0 y1 y2 y3 y4 y5 y6 y7 y8 g rm op' la fo co cv ta rc ec su pe qt rn nu th' ++ [(o0, .inl (cJ, 1, .inr (.inl u')))])) [0, 1, 2, 3, 4, 5, 6, 7, 8, 9, 11, 12, 13, 14, 15, 16, 17, 18, 19, 10] (by decide) rfl
      refine lv_iload hx hb dL_law_455 (lv_at hl 1 rfl) ?_
      refine lv_icmp_eq (tgt := 462) hx hb dL_law_457 (by decide) (fun c8 => ?_) (fun c8 => ?_)
      · refine lv_iload hx hb dL_law_462 (lv_at hl 1 rfl) ?_
        refine lv_if_ne (tgt := 486) hx hb dL_law_464 (by decide) (fun c9 => ?_) (fun c9 => ?_)
        · refine lv_goto (tgt := 1563) hx hb dL_law_486 (by decide) ?_
          exact kk _ _ _ ⟨g, rm, op', rc, ec, su, pe, qt, rs, rn, cs, cn, lc, hc, lg, hg, la, fo, co, cv, ta, nu, th', u', q, R, hg8, hVO, hrc, hsu, hqt, hVR, hP, hD, hS⟩ (lv_sub hl [2, 3, 4, 5, 6] rfl)
        · refine lv_aload_n hx hb dL_law_467 rfl (lv_at hl 3 rfl) ?_
          refine lv_iconst (v := 0) hx hb dL_law_468 (by decide) ?_
          refine va_lald hx hb hK hP 19 1 rfl rfl (show ¬ ((0 : Int32) < 0 ∨ 1 ≤ Int32.toNatClampNeg 0) by decide) dL_law_469 ?_
          rw [hcmp c9]
          refine lv_iload hx hb dL_law_470 (lv_at hl 0 rfl) ?_
          refine lv_if_eq (tgt := 479) hx hb dL_law_472 (by decide) (fun c8 => ?_) (fun c8 => ?_)
          · rw [show bl r1 = 0 from if_pos c8]
            refine lv_lconst (v := 0) hx hb dL_law_479 (by decide) ?_
            refine lz_cmp hx hb dL_law_480 ?_
            refine lv_if_eq (tgt := 486) hx hb dL_law_481 (by decide) (fun c8 => ?_) (fun c8 => ?_)
            · refine lv_goto (tgt := 1563) hx hb dL_law_486 (by decide) ?_
              exact kk _ _ _ ⟨g, rm, op', rc, ec, su, pe, qt, rs, rn, cs, cn, lc, hc, lg, hg, la, fo, co, cv, ta, nu, th', u', q, R, hg8, hVO, hrc, hsu, hqt, hVR, hP, hD, hS⟩ (lv_sub hl [2, 3, 4, 5, 6] rfl)
            · exact (c8 rfl).elim
          · rw [show bl r1 = 1 from if_neg c8]
            refine lv_lconst (v := 1) hx hb dL_law_475 (by decide) ?_
            refine lv_goto (tgt := 480) hx hb dL_law_476 (by decide) ?_
            refine lz_cmp hx hb dL_law_480 ?_
            refine lv_if_eq (tgt := 486) hx hb dL_law_481 (by decide) (fun c8 => ?_) (fun c8 => ?_)
            · refine lv_goto (tgt := 1563) hx hb dL_law_486 (by decide) ?_
              exact kk _ _ _ ⟨g, rm, op', rc, ec, su, pe, qt, rs, rn, cs, cn, lc, hc, lg, hg, la, fo, co, cv, ta, nu, th', u', q, R, hg8, hVO, hrc, hsu, hqt, hVR, hP, hD, hS⟩ (lv_sub hl [2, 3, 4, 5, 6] rfl)
            · exact (c8 rfl).elim
      · exact (c8 rfl).elim
set_option maxHeartbeats 4000000 in
set_option maxRecDepth 100000 in
theorem lz_setCosts {p : Program} {l : Launch} {e : Env} {s : State} {m : MethodId} {below : List Frame} {meth : Method} {c : Code} {Q : State → Prop} {b L : Nat} {xs : Nat → Int32} {D : va_G} {cI cJ : ClassId} {x0 x1 x2 x3 x4 x5 x6 x7 x8 x9 y0 y1 y2 y3 y4 y5 y6 y7 y8 o0 : Nat} {i : Int32} {cells slots : Nat} {H : Heap} {locs : List Loc} {ls : Array Slot} (hx : p.tables.exec = Jvm.exec) (hb : c.code = cL_law) (hml : c.maxLocals = 7) (hown : s.vm.findClass RL = some m.cls) (hts : ∀ w ∈ wsL_law, w.before ([Value.ref b] : List Value).toArray s = true) (hX : va_X b L xs s s.heap) (hbl : b < s.heap.size) (hst : l.stackTraces = false) (hK : va_K D vwCl [(cI, .int), (cJ, .long)] s) (hT : xThrL (lz_A s) s) (hi1 : vp_in (i + 1) L) (hi2 : vp_in (i + 2) L) (hi3 : vp_in (i + 3) L) (hI : lz_I D cI cJ x0 x1 x2 x3 x4 x5 x6 x7 x8 x9 y0 y1 y2 y3 y4 y5 y6 y7 y8 o0 s H locs) (hl : lv_has ls 7 [(4, .int i), (3, .ref o0), (2, .ref y0), (1, .ref x0), (0, .ref b)]) (hf : cells + 1 ≤ room_1.cells ∧ slots + 6 ≤ room_1.slots)
    (kk : ∀ (H1 : Heap) (locs1 : List Loc) (ls1 : Array Slot), lz_I D cI cJ x0 x1 x2 x3 x4 x5 x6 x7 x8 x9 y0 y1 y2 y3 y4 y5 y6 y7 y8 o0 s H1 locs1 → lv_has ls1 7 [(4, .int i), (3, .ref o0), (2, .ref y0), (1, .ref x0), (0, .ref b)] → W p l e room_1 s m ([Value.ref b] : List Value).toArray below meth c H1 locs1 (cells + 1) (slots + 6) Q (F0 m 1563 ls1 [])) : W p l e room_1 s m ([Value.ref b] : List Value).toArray below meth c H locs cells slots Q (F0 m 489 ls []) := by
  obtain ⟨g, rm, op, rc, ec, su, pe, qt, rs, rn, cs, cn, lc, hc, lg, hg, la, fo, co, cv, ta, nu, th, u, q, R, hg8, hVO, hrc, hsu, hqt, hVR, hP, hD, hS⟩ := hI
  have hA : ∀ q, s.heap.size ≤ q → lz_A s q := fun q h9 => h9
  have hbA : ¬ lz_A s b := fun h9 => absurd hbl (Nat.not_lt.mpr h9)
  have hf0 : cells + 0 ≤ room_1.cells ∧ slots + 0 ≤ room_1.slots := ⟨Nat.le_trans (Nat.le_succ _) hf.1, Nat.le_trans (Nat.le_add_right _ _) hf.2⟩
  obtain ⟨r0, rc', ec', th', e0, e1, hrc, hoc⟩ := s_setCosts rc ec th (xs (Int32.toNatClampNeg (i + 1))) (xs (Int32.toNatClampNeg (i + 2))) hrc
  have hres := oc_v1 hoc
  have hl : lv_has ls 7 [(4, .int i), (3, .ref o0), (2, .ref y0), (1, .ref x0), (0, .ref b)] := hl
  refine lv_aload_n hx hb dL_law_489 rfl (lv_at hl 3 rfl) ?_
  refine lv_aload_n hx hb dL_law_490 rfl (lv_at hl 4 rfl) ?_
  refine lv_iload hx hb dL_law_491 (lv_at hl 0 rfl) ?_
  refine lv_iconst (v := 1) hx hb dL_law_493 (by decide) ?_
  refine lv_iadd hx hb dL_law_494 ?_
  refine va_sld hx hb hX hbl hbA hS hi1 dL_law_495 ?_
  refine lv_aload_n hx hb dL_law_496 rfl (lv_at hl 4 rfl) ?_
  refine lv_iload hx hb dL_law_497 (lv_at hl 0 rfl) ?_
  refine lv_iconst (v := 2) hx hb dL_law_499 (by decide) ?_
  refine lv_iadd hx hb dL_law_500 ?_
  refine va_sld hx hb hX hbl hbA hS hi2 dL_law_501 ?_
  refine lz_Wi (r0 := th') (As := [.ref x0, .int (xs (Int32.toNatClampNeg (i + 1))), .int (xs (Int32.toNatClampNeg (i + 2)))]) (rest := []) (wc := wX cI cJ x0 x1 x2 x3 x4 x5 x6 x7 x8 x9 g rm op rc ec su pe qt rs rn cs cn lc hc lg hg) (w1 := wX cI cJ x0 x1 x2 x3 x4 x5 x6 x7 x8 x9 g rm op rc' ec' su pe qt rs rn cs cn lc hc lg hg) (wr := wY cI cJ y0 y1 y2 y3 y4 y5 y6 y7 y8 g rm op la fo co cv ta rc ec su pe qt rn nu th ++ [(o0, .inl (cJ, 1, .inr (.inl u)))]) ⟨hx, hb, hml, hown, hts⟩ (c_L_setCosts l hst D cI cJ x0 x1 x2 x3 x4 x5 x6 x7 x8 x9 _ g rm op rc ec su pe qt rs rn cs cn lc hc lg hg (xs (Int32.toNatClampNeg (i + 1))) (xs (Int32.toNatClampNeg (i + 2))) r0 rc' ec' e0 th' hres) (vx_cwSW 3 hts gL_law_L_setCosts rfl rfl rfl (by decide +kernel) ⟨Nat.le_of_ble_eq_true rfl, Nat.le_of_ble_eq_true rfl⟩) hK hP hD hS hA hT [0, 1, 2, 3, 4, 5, 6, 7, 8, 9] [10, 11, 12, 13, 14, 15, 16, 17, 18, 19] rfl rfl (by decide) (by decide) (by decide) rfl rfl hl.1 rfl (lv_room (Nat.le_of_ble_eq_true rfl)) dL_law_502 hf (fun H locs hP hD hS => ?_)
  replace hP := hP.sub (ws' := wX cI cJ x0 x1 x2 x3 x4 x5 x6 x7 x8 x9 g rm op rc' ec' su pe qt rs rn cs cn lc hc lg hg ++ (wY cI cJ y0 y1 y2 y3 y4 y5 y6 y7 y8 g rm op la fo co cv ta rc ec su pe qt rn nu th ++ [(o0, .inl (cJ, 1, .inr (.inl u)))])) [10, 11, 12, 13, 14, 15, 16, 17, 18, 19, 0, 1, 2, 3, 4, 5, 6, 7, 8, 9] rfl
  replace hD := hD.sub (ws' := wX cI cJ x0 x1 x2 x3 x4 x5 x6 x7 x8 x9 g rm op rc' ec' su pe qt rs rn cs cn lc hc lg hg ++ (wY cI cJ y0 y1 y2 y3 y4 y5 y6 y7 y8 g rm op la fo co cv ta rc ec su pe qt rn nu th ++ [(o0, .inl (cJ, 1, .inr (.inl u)))])) [10, 11, 12, 13, 14, 15, 16, 17, 18, 19, 0, 1, 2, 3, 4, 5, 6, 7, 8, 9] (by decide) rfl
  refine lv_istore (lv' := [(5, .int th'), (4, .int i), (3, .ref o0), (2, .ref y0), (1, .ref x0), (0, .ref b)]) hx hb dL_law_505 hl (by decide) rfl (fun ls hl => ?_)
  refine lv_aload_n hx hb dL_law_507 rfl (lv_at hl 3 rfl) ?_
  refine lv_aload_n hx hb dL_law_508 rfl (lv_at hl 5 rfl) ?_
  refine lv_iload hx hb dL_law_509 (lv_at hl 1 rfl) ?_
  refine lv_iconst (v := 1) hx hb dL_law_511 (by decide) ?_
  refine lv_iadd hx hb dL_law_512 ?_
  refine va_sld hx hb hX hbl hbA hS hi1 dL_law_513 ?_
  refine lv_aload_n hx hb dL_law_514 rfl (lv_at hl 5 rfl) ?_
  refine lv_iload hx hb dL_law_515 (lv_at hl 1 rfl) ?_
  refine lv_iconst (v := 2) hx hb dL_law_517 (by decide) ?_
  refine lv_iadd hx hb dL_law_518 ?_
  refine va_sld hx hb hX hbl hbA hS hi2 dL_law_519 ?_
  refine lz_Tv (As := [.int (xs (Int32.toNatClampNeg (i + 1))), .int (xs (Int32.toNatClampNeg (i + 2)))]) (rest := []) (wc := wY cI cJ y0 y1 y2 y3 y4 y5 y6 y7 y8 g rm op la fo co cv ta rc ec su pe qt rn nu th) (w1 := wY cI cJ y0 y1 y2 y3 y4 y5 y6 y7 y8 g rm op la fo co cv ta rc' ec' su pe qt rn nu th') (wr := wX cI cJ x0 x1 x2 x3 x4 x5 x6 x7 x8 x9 g rm op rc' ec' su pe qt rs rn cs cn lc hc lg hg ++ [(o0, .inl (cJ, 1, .inr (.inl u)))]) ⟨hx, hb, hml, hown, hts⟩ (c_X1_setCosts l D cI cJ y0 y1 y2 y3 y4 y5 y6 y7 y8 _ g rm op la fo co cv ta rc ec su pe qt rn nu th (xs (Int32.toNatClampNeg (i + 1))) (xs (Int32.toNatClampNeg (i + 2)))  rc' ec' th' e1) (cwV 2 hts gL_law_X1_setCosts rfl rfl rfl (by decide +kernel) ⟨Nat.le_of_ble_eq_true rfl, Nat.le_of_ble_eq_true rfl⟩) hK hP hD hS hA [10, 11, 12, 13, 14, 15, 16, 17, 18] [0, 1, 2, 3, 4, 5, 6, 7, 8, 9, 19] rfl rfl (by decide) (by decide) (by decide) rfl rfl rfl rfl hl.1 rfl (lv_room (Nat.le_of_ble_eq_true rfl)) dL_law_520 hf (fun H locs hP hD hS => ?_)
  replace hP := hP.sub (ws' := wX cI cJ x0 x1 x2 x3 x4 x5 x6 x7 x8 x9 g rm op rc' ec' su pe qt rs rn cs cn lc hc lg hg ++ (wY cI cJ y0 y1 y2 y3 y4 y5 y6 y7 y8 g rm op la fo co cv ta rc' ec' su pe qt rn nu th' ++ [(o0, .inl (cJ, 1, .inr (.inl u)))])) [0, 1, 2, 3, 4, 5, 6, 7, 8, 9, 11, 12, 13, 14, 15, 16, 17, 18, 19, 10] rfl
  replace hD := hD.sub (ws' := wX cI cJ x0 x1 x2 x3 x4 x5 x6 x7 x8 x9 g rm op rc' ec' su pe qt rs rn cs cn lc hc lg hg ++ (wY cI cJ y0 y1 y2 y3 y4 y5 y6 y7 y8 g rm op la fo co cv ta rc' ec' su pe qt rn nu th' ++ [(o0, .inl (cJ, 1, .inr (.inl u)))])) [0, 1, 2, 3, 4, 5, 6, 7, 8, 9, 11, 12, 13, 14, 15, 16, 17, 18, 19, 10] (by decide) rfl
  refine lv_aload_n hx hb dL_law_523 rfl (lv_at hl 3 rfl) ?_
  refine lz_Ti (r0 := m_X1_thrown th') (As := []) (rest := []) (wc := wY cI cJ y0 y1 y2 y3 y4 y5 y6 y7 y8 g rm op la fo co cv ta rc' ec' su pe qt rn nu th') (w1 := wY cI cJ y0 y1 y2 y3 y4 y5 y6 y7 y8 g rm op la fo co cv ta rc' ec' su pe qt rn nu th') (wr := wX cI cJ x0 x1 x2 x3 x4 x5 x6 x7 x8 x9 g rm op rc' ec' su pe qt rs rn cs cn lc hc lg hg ++ [(o0, .inl (cJ, 1, .inr (.inl u)))]) ⟨hx, hb, hml, hown, hts⟩ (c_X1_thrown l D cI cJ y0 y1 y2 y3 y4 y5 y6 y7 y8 _ g rm op la fo co cv ta rc' ec' su pe qt rn nu th') (cwV 0 hts gL_law_X1_thrown rfl rfl rfl (by decide +kernel) ⟨Nat.le_of_ble_eq_true rfl, Nat.le_of_ble_eq_true rfl⟩) hK hP hD hS hA [10, 11, 12, 13, 14, 15, 16, 17, 18] [0, 1, 2, 3, 4, 5, 6, 7, 8, 9, 19] rfl rfl (by decide) (by decide) (by decide) rfl rfl rfl rfl hl.1 rfl (lv_room (Nat.le_of_ble_eq_true rfl)) dL_law_524 hf (fun H locs hP hD hS => ?_)
  replace hP := hP.sub (ws' := wX cI cJ x0 x1 x2 x3 x4 x5 x6 x7 x8 x9 g rm op rc' ec' su pe qt rs rn cs cn lc hc lg hg ++ (wY cI cJ y0 y1 y2 y3 y4 y5 y6 y7 y8 g rm op la fo co cv ta rc' ec' su pe qt rn nu th' ++ [(o0, .inl (cJ, 1, .inr (.inl u)))])) [0, 1, 2, 3, 4, 5, 6, 7, 8, 9, 11, 12, 13, 14, 15, 16, 17, 18, 19, 10] rfl
  replace hD := hD.sub (ws' := wX cI cJ x0 x1 x2 x3 x4 x5 x6 x7 x8 x9 g rm op rc' ec' su pe qt rs rn cs cn lc hc lg hg ++ (wY cI cJ y0 y1 y2 y3 y4 y5 y6 y7 y8 g rm op la fo co cv ta rc' ec' su pe qt rn nu th' ++ [(o0, .inl (cJ, 1, .inr (.inl u)))])) [0, 1, 2, 3, 4, 5, 6, 7, 8, 9, 11, 12, 13, 14, 15, 16, 17, 18, 19, 10] (by decide) rfl
  refine lv_iload hx hb dL_law_527 (lv_at hl 0 rfl) ?_
  refine lv_icmp_eq (tgt := 534) hx hb dL_law_529 (by decide) (fun c8 => ?_) (fun c8 => ?_)
  · refine lv_goto (tgt := 1563) hx hb dL_law_534 (by decide) ?_
    exact kk _ _ _ ⟨g, rm, op, rc', ec', su, pe, qt, rs, rn, cs, cn, lc, hc, lg, hg, la, fo, co, cv, ta, nu, th', u, q, R, hg8, hVO, hrc, hsu, hqt, hVR, hP, hD, hS⟩ (lv_sub hl [1, 2, 3, 4, 5] rfl)
  · exact (c8 rfl).elim
