set_option maxHeartbeats 16000000 in
set_option maxRecDepth 100000 in
theorem lz_h283 {p : Program} {l : Launch} {e : Env} {s : State} {m : MethodId} {below : List Frame} {meth : Method} {c : Code} {b L : Nat} {xs : Nat → Int32} {D : va_G} {cI cJ : ClassId} {x0 x1 x2 x3 x4 x5 x6 x7 x8 x9 p2 p3 : Nat} (hx : p.tables.exec = Jvm.exec) (hb : c.code = cL_law) (hr : meth.sig.returnType = ret) (hlocks : meth.locks = false) (hml : c.maxLocals = 10) (hown : s.vm.findClass RL = some m.cls) (hts : ∀ w ∈ wsL_law, w.before ([Value.ref b] : List Value).toArray s = true) (hX : va_X b L xs s s.heap) (hbl : b < s.heap.size) (hst : l.stackTraces = false) (hK : va_K D vwCl [(cI, .int), (cJ, .long)] s) (hT : xThrL (lz_A s) s) (fu n : Nat) (ih : lz_St p l e s m below meth c b L xs D cI cJ x0 x1 x2 x3 x4 x5 x6 x7 x8 x9 p2 p3 fu n) : ∀ (v4 : Int32) (v5 : Int32) (g : Nat → Int32) (rm : Nat → Int32) (op : Nat → Int32) (rc : Int32) (ec : Int32) (su : Int32) (pe : Int32) (qt : Int32) (rs : Nat → Int32) (rn : Int32) (cs : Nat → Int32) (cn : Int32) (lc : Nat → Int64) (hc : Nat → Int64) (lg : Nat → Int64) (hg : Nat → Int64) (pr st : Nat → Int32) (H : Heap) (locs : List Loc) (ls : Array Slot) (cells slots : Nat), cells + (n + 1) * 10 + 100 ≤ 600130 → slots + (n + 1) * 300 + 1000 ≤ 7301080 → m_L_law_32 fu xs L (n + 1) 3 v4 v5 0 0 0 g rm op rc ec su pe qt rs rn cs cn lc hc lg hg pr st (fun _ => 0) = some 1 → va_P D vwCl (wX cI cJ x0 x1 x2 x3 x4 x5 x6 x7 x8 x9 g rm op rc ec su pe qt rs rn cs cn lc hc lg hg ++ [(p2, .inl (cI, 12, .inl pr)), (p3, .inl (cI, 4, .inl st))]) H → va_D (lz_A s) (wX cI cJ x0 x1 x2 x3 x4 x5 x6 x7 x8 x9 g rm op rc ec su pe qt rs rn cs cn lc hc lg hg ++ [(p2, .inl (cI, 12, .inl pr)), (p3, .inl (cI, 4, .inl st))]) → va_S (lz_A s) s.heap H locs → lv_has ls 10 [(5, .int v5), (4, .int v4), (3, .ref p3), (2, .ref p2), (1, .ref x0), (0, .ref b)] → W p l e room_1 s m ([Value.ref b] : List Value).toArray below meth c H locs cells slots (lw_Z below #[Value.ref b] s) (F0 m 283 ls []) := by
  intro v4 v5 g rm op rc ec su pe qt rs rn cs cn lc hc lg hg pr st H locs ls cells slots hc1 hc2 h hP hD hS hl
  have hbA : ¬ lz_A s b := fun h9 => absurd hbl (Nat.not_lt.mpr h9)
  have hA : ∀ q : Nat, s.heap.size ≤ q → lz_A s q := fun _ h9 => h9
  rw [m_L_law_32] at h
  replace h := (if_neg (by decide)).symm.trans h
  replace h := (if_neg (by decide)).symm.trans h
  replace h := (if_neg (by decide)).symm.trans h
  refine lv_aload_n hx hb dL_law_283 rfl (lv_at hl 4 rfl) ?_
  refine lv_aload_n hx hb dL_law_284 rfl (lv_at hl 3 rfl) ?_
  refine lv_aload_n hx hb dL_law_285 rfl (lv_at hl 2 rfl) ?_
  refine lv_iconst (v := 0) hx hb dL_law_286 (by decide) ?_
  refine va_iald hx hb hK hP 11 0 rfl rfl (show ¬ ((0 : Int32) < 0 ∨ 4 ≤ Int32.toNatClampNeg 0) by decide) dL_law_287 ?_
  refine lv_aload_n hx hb dL_law_288 rfl (lv_at hl 2 rfl) ?_
  refine lv_iconst (v := 1) hx hb dL_law_289 (by decide) ?_
  refine va_iald hx hb hK hP 11 0 rfl rfl (show ¬ ((1 : Int32) < 0 ∨ 4 ≤ Int32.toNatClampNeg 1) by decide) dL_law_290 ?_
  obtain ⟨r_187, e_188, h⟩ := bnd1_some h
  refine gl_Si (As := [.ref x0, .ref p2, .int (st (Int32.toNatClampNeg 0)), .int (st (Int32.toNatClampNeg 1))]) (rest := []) (wc := wX cI cJ x0 x1 x2 x3 x4 x5 x6 x7 x8 x9 g rm op rc ec su pe qt rs rn cs cn lc hc lg hg ++ [(p2, .inl (cI, 12, .inl pr))]) (w1 := wX cI cJ x0 x1 x2 x3 x4 x5 x6 x7 x8 x9 g rm op rc ec su pe qt rs rn cs cn lc hc lg hg ++ [(p2, .inl (cI, 12, .inl pr))]) (wr := [(p3, .inl (cI, 4, .inl st))]) ⟨hx, hb, hml, hown, hts⟩ (c_L_users l D cI cJ x0 x1 x2 x3 x4 x5 x6 x7 x8 x9 p2 _ g rm op rc ec su pe qt rs rn cs cn lc hc lg hg pr fu (st (Int32.toNatClampNeg 0)) (st (Int32.toNatClampNeg 1)) r_187 e_188) (va_cwS 4 hts gL_law_L_users rfl rfl rfl (by decide +kernel) ⟨Nat.le_of_ble_eq_true rfl, Nat.le_of_ble_eq_true rfl⟩) hK hP hD hS hA [0, 1, 2, 3, 4, 5, 6, 7, 8, 9, 10] [11] rfl rfl (by decide) (by decide) rfl rfl rfl hl.1 rfl (lv_room (Nat.le_of_ble_eq_true rfl)) dL_law_291 ⟨show (cells) + 0 ≤ 600130 by omega, show (slots) + 0 ≤ 7301080 by omega⟩ (fun H locs hP hD hS => ?_)
  replace hP := hP.sub (ws' := wX cI cJ x0 x1 x2 x3 x4 x5 x6 x7 x8 x9 g rm op rc ec su pe qt rs rn cs cn lc hc lg hg ++ [(p2, .inl (cI, 12, .inl pr)), (p3, .inl (cI, 4, .inl st))]) [1, 2, 3, 4, 5, 6, 7, 8, 9, 10, 11, 0] rfl
  replace hD := hD.sub (ws' := wX cI cJ x0 x1 x2 x3 x4 x5 x6 x7 x8 x9 g rm op rc ec su pe qt rs rn cs cn lc hc lg hg ++ [(p2, .inl (cI, 12, .inl pr)), (p3, .inl (cI, 4, .inl st))]) [1, 2, 3, 4, 5, 6, 7, 8, 9, 10, 11, 0] (by decide) rfl
  refine lv_if_eq (tgt := 318) hx hb dL_law_294 (by decide) (fun c_189 => ?_) (fun c_189 => ?_)
  · replace h := (if_pos c_189).symm.trans h
    refine lv_iconst (v := 0) hx hb dL_law_318 (by decide) ?_
    cases h
  · replace h := (if_neg c_189).symm.trans h
    refine lv_iload hx hb dL_law_297 (lv_at hl 0 rfl) ?_
    refine lv_bipush (v := 6) hx hb dL_law_299 (by decide) ?_
    refine gl_Si0 (As := [.int v5, .int 6]) (rest := []) ⟨hx, hb, hml, hown, hts⟩ (c_L_low l D _ v5 6 (by decide)) (va_cwS 2 hts gL_law_L_low rfl rfl rfl (by decide +kernel) ⟨Nat.le_of_ble_eq_true rfl, Nat.le_of_ble_eq_true rfl⟩) hK hP hD hS hA rfl rfl hl.1 rfl (lv_room (Nat.le_of_ble_eq_true rfl)) dL_law_301 ⟨show (cells) + 0 ≤ 600130 by omega, show (slots) + 0 ≤ 7301080 by omega⟩ (fun H locs hP hD hS => ?_)
    refine lv_if_ne (tgt := 320) hx hb dL_law_304 (by decide) (fun c_190 => ?_) (fun c_190 => ?_)
    · replace h := (if_neg c_190).symm.trans h
      refine lv_iinc (v := (v4 + 1)) (lv' := [(4, .int (v4 + 1)), (5, .int v5), (3, .ref p3), (2, .ref p2), (1, .ref x0), (0, .ref b)]) hx hb dL_law_320 hl (k := 1) rfl rfl (by decide) rfl (fun ls hl => ?_)
      refine lv_goto (tgt := 32) hx hb dL_law_323 (by decide) ?_
      exact ih.1 (v4 + 1) g rm op rc ec su pe qt rs rn cs cn lc hc lg hg pr st _ _ _ _ _ (by omega) (by omega) h hP hD hS (lv_sub hl [0, 2, 3, 4, 5] rfl)
    · replace h := (if_pos c_190).symm.trans h
      refine lv_aload_n hx hb dL_law_307 rfl (lv_at hl 4 rfl) ?_
      refine lv_aload_n hx hb dL_law_308 rfl (lv_at hl 3 rfl) ?_
      refine lv_aload_n hx hb dL_law_309 rfl (lv_at hl 2 rfl) ?_
      refine lv_iconst (v := 2) hx hb dL_law_310 (by decide) ?_
      refine va_iald hx hb hK hP 11 0 rfl rfl (show ¬ ((2 : Int32) < 0 ∨ 4 ≤ Int32.toNatClampNeg 2) by decide) dL_law_311 ?_
      obtain ⟨r_191, cs_192, cn_193, lc_194, hc_195, lg_196, hg_197, e_198, h⟩ := bnd7_some h
      refine gl_L (mc := 2) (ms := 12) (As := [.ref x0, .ref p2, .int (st (Int32.toNatClampNeg 2))]) (rest := []) (wc := wX cI cJ x0 x1 x2 x3 x4 x5 x6 x7 x8 x9 g rm op rc ec su pe qt rs rn cs cn lc hc lg hg ++ [(p2, .inl (cI, 12, .inl pr))]) (w1 := wX cI cJ x0 x1 x2 x3 x4 x5 x6 x7 x8 x9 g rm op rc ec su pe qt rs rn cs_192 cn_193 lc_194 hc_195 lg_196 hg_197 ++ [(p2, .inl (cI, 12, .inl pr))]) (wr := [(p3, .inl (cI, 4, .inl st))]) ⟨hx, hb, hml, hown, hts⟩ (c_L_candidates l hst D cI cJ x0 x1 x2 x3 x4 x5 x6 x7 x8 x9 p2 _ g rm op rc ec su pe qt rs rn cs cn lc hc lg hg pr fu (st (Int32.toNatClampNeg 2)) r_191 cs_192 cn_193 lc_194 hc_195 lg_196 hg_197 e_198) (va_cwS 3 hts gL_law_L_candidates rfl rfl rfl (by decide +kernel) ⟨Nat.le_of_ble_eq_true rfl, Nat.le_of_ble_eq_true rfl⟩) hK hP hD hS hA hT [0, 1, 2, 3, 4, 5, 6, 7, 8, 9, 10] [11] rfl rfl (by decide) (by decide) rfl rfl rfl hl.1 rfl (lv_room (Nat.le_of_ble_eq_true rfl)) dL_law_312 ⟨show (cells) + 2 ≤ 600130 by omega, show (slots) + 12 ≤ 7301080 by omega⟩ (fun H locs hP hD hS => ?_)
      replace hP := hP.sub (ws' := wX cI cJ x0 x1 x2 x3 x4 x5 x6 x7 x8 x9 g rm op rc ec su pe qt rs rn cs_192 cn_193 lc_194 hc_195 lg_196 hg_197 ++ [(p2, .inl (cI, 12, .inl pr)), (p3, .inl (cI, 4, .inl st))]) [1, 2, 3, 4, 5, 6, 7, 8, 9, 10, 11, 0] rfl
      replace hD := hD.sub (ws' := wX cI cJ x0 x1 x2 x3 x4 x5 x6 x7 x8 x9 g rm op rc ec su pe qt rs rn cs_192 cn_193 lc_194 hc_195 lg_196 hg_197 ++ [(p2, .inl (cI, 12, .inl pr)), (p3, .inl (cI, 4, .inl st))]) [1, 2, 3, 4, 5, 6, 7, 8, 9, 10, 11, 0] (by decide) rfl
      refine lv_if_ne (tgt := 320) hx hb dL_law_315 (by decide) (fun c_199 => ?_) (fun c_199 => ?_)
      · replace h := (if_neg c_199).symm.trans h
        refine lv_iinc (v := (v4 + 1)) (lv' := [(4, .int (v4 + 1)), (5, .int v5), (3, .ref p3), (2, .ref p2), (1, .ref x0), (0, .ref b)]) hx hb dL_law_320 hl (k := 1) rfl rfl (by decide) rfl (fun ls hl => ?_)
        refine lv_goto (tgt := 32) hx hb dL_law_323 (by decide) ?_
        exact ih.1 (v4 + 1) g rm op rc ec su pe qt rs rn cs_192 cn_193 lc_194 hc_195 lg_196 hg_197 pr st _ _ _ _ _ (by omega) (by omega) h hP hD hS (lv_sub hl [0, 2, 3, 4, 5] rfl)
      · replace h := (if_pos c_199).symm.trans h
        refine lv_iconst (v := 0) hx hb dL_law_318 (by decide) ?_
        cases h
