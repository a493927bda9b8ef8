set_option maxHeartbeats 16000000 in
set_option maxRecDepth 100000 in
theorem lz_h32 {p : Program} {l : Launch} {e : Env} {s : State} {m : MethodId} {below : List Frame} {meth : Method} {c : Code} {b L : Nat} {xs : Nat → Int32} {D : va_G} {cI cJ : ClassId} {x0 x1 x2 x3 x4 x5 x6 x7 x8 x9 p2 p3 : Nat} (hx : p.tables.exec = Jvm.exec) (hb : c.code = cL_law) (hr : meth.sig.returnType = ret) (hlocks : meth.locks = false) (hml : c.maxLocals = 10) (hown : s.vm.findClass RL = some m.cls) (hts : ∀ w ∈ wsL_law, w.before ([Value.ref b] : List Value).toArray s = true) (hX : va_X b L xs s s.heap) (hbl : b < s.heap.size) (hst : l.stackTraces = false) (hK : va_K D vwCl [(cI, .int), (cJ, .long)] s) (hT : xThrL (lz_A s) s) (fu n : Nat) (ih : lz_St p l e s m below meth c b L xs D cI cJ x0 x1 x2 x3 x4 x5 x6 x7 x8 x9 p2 p3 fu n) : ∀ (v4 : Int32) (g : Nat → Int32) (rm : Nat → Int32) (op : Nat → Int32) (rc : Int32) (ec : Int32) (su : Int32) (pe : Int32) (qt : Int32) (rs : Nat → Int32) (rn : Int32) (cs : Nat → Int32) (cn : Int32) (lc : Nat → Int64) (hc : Nat → Int64) (lg : Nat → Int64) (hg : Nat → Int64) (pr st : Nat → Int32) (H : Heap) (locs : List Loc) (ls : Array Slot) (cells slots : Nat), cells + (n + 1) * 10 + 100 ≤ 600130 → slots + (n + 1) * 300 + 1000 ≤ 7301080 → m_L_law_32 fu xs L (n + 1) 0 v4 0 0 0 0 g rm op rc ec su pe qt rs rn cs cn lc hc lg hg pr st (fun _ => 0) = some 1 → va_P D vwCl (wX cI cJ x0 x1 x2 x3 x4 x5 x6 x7 x8 x9 g rm op rc ec su pe qt rs rn cs cn lc hc lg hg ++ [(p2, .inl (cI, 12, .inl pr)), (p3, .inl (cI, 4, .inl st))]) H → va_D (lz_A s) (wX cI cJ x0 x1 x2 x3 x4 x5 x6 x7 x8 x9 g rm op rc ec su pe qt rs rn cs cn lc hc lg hg ++ [(p2, .inl (cI, 12, .inl pr)), (p3, .inl (cI, 4, .inl st))]) → va_S (lz_A s) s.heap H locs → lv_has ls 10 [(4, .int v4), (3, .ref p3), (2, .ref p2), (1, .ref x0), (0, .ref b)] → W p l e room_1 s m ([Value.ref b] : List Value).toArray below meth c H locs cells slots (lw_Z below #[Value.ref b] s) (F0 m 32 ls []) := by
  intro v4 g rm op rc ec su pe qt rs rn cs cn lc hc lg hg pr st H locs ls cells slots hc1 hc2 h hP hD hS hl
  have hbA : ¬ lz_A s b := fun h9 => absurd hbl (Nat.not_lt.mpr h9)
  have hA : ∀ q : Nat, s.heap.size ≤ q → lz_A s q := fun _ h9 => h9
  rw [m_L_law_32] at h
  replace h := (if_pos rfl).symm.trans h
  refine lv_iload hx hb dL_law_32 (lv_at hl 0 rfl) ?_
  refine lv_bipush (v := 26) hx hb dL_law_34 (by decide) ?_
  refine lv_icmp_ge (tgt := 326) hx hb dL_law_36 (by decide) (fun c_1 => ?_) (fun c_1 => ?_)
  · replace h := (if_pos c_1).symm.trans h
    refine lv_aload_n hx hb dL_law_326 rfl (lv_at hl 3 rfl) ?_
    obtain ⟨r_2, cs_3, cn_4, lc_5, hc_6, lg_7, hg_8, e_9, h⟩ := bnd7_some h
    refine gl_Vi (As := []) (rest := []) (wc := wX cI cJ x0 x1 x2 x3 x4 x5 x6 x7 x8 x9 g rm op rc ec su pe qt rs rn cs cn lc hc lg hg) (w1 := wX cI cJ x0 x1 x2 x3 x4 x5 x6 x7 x8 x9 g rm op rc ec su pe qt rs rn cs_3 cn_4 lc_5 hc_6 lg_7 hg_8) (wr := [(p2, .inl (cI, 12, .inl pr)), (p3, .inl (cI, 4, .inl st))]) ⟨hx, hb, hml, hown, hts⟩ (c_X0_candidates l D cI cJ x0 x1 x2 x3 x4 x5 x6 x7 x8 x9 _ g rm op rc ec su pe qt rs rn cs cn lc hc lg hg fu  r_2 cs_3 cn_4 lc_5 hc_6 lg_7 hg_8 e_9) (cwV 0 hts gL_law_X0_candidates rfl rfl rfl (by decide +kernel) ⟨Nat.le_of_ble_eq_true rfl, Nat.le_of_ble_eq_true rfl⟩) hK hP hD hS hA [0, 1, 2, 3, 4, 5, 6, 7, 8, 9] [10, 11] rfl rfl (by decide) (by decide) rfl rfl rfl rfl rfl hl.1 rfl (lv_room (Nat.le_of_ble_eq_true rfl)) dL_law_327 ⟨show (cells) + 0 ≤ 600130 by omega, show (slots) + 0 ≤ 7301080 by omega⟩ (fun H locs hP hD hS => ?_)
    replace hP := hP.sub (ws' := wX cI cJ x0 x1 x2 x3 x4 x5 x6 x7 x8 x9 g rm op rc ec su pe qt rs rn cs_3 cn_4 lc_5 hc_6 lg_7 hg_8 ++ [(p2, .inl (cI, 12, .inl pr)), (p3, .inl (cI, 4, .inl st))]) [2, 3, 4, 5, 6, 7, 8, 9, 10, 11, 0, 1] rfl
    replace hD := hD.sub (ws' := wX cI cJ x0 x1 x2 x3 x4 x5 x6 x7 x8 x9 g rm op rc ec su pe qt rs rn cs_3 cn_4 lc_5 hc_6 lg_7 hg_8 ++ [(p2, .inl (cI, 12, .inl pr)), (p3, .inl (cI, 4, .inl st))]) [2, 3, 4, 5, 6, 7, 8, 9, 10, 11, 0, 1] (by decide) rfl
    refine lv_bipush (v := 15) hx hb dL_law_330 (by decide) ?_
    refine lv_icmp_ge (tgt := 339) hx hb dL_law_332 (by decide) (fun c_10 => ?_) (fun c_10 => ?_)
    · replace h := (if_pos c_10).symm.trans h
      refine lv_iconst (v := 0) hx hb dL_law_339 (by decide) ?_
      refine lv_istore (lv' := [(4, .int 0), (3, .ref p3), (2, .ref p2), (1, .ref x0), (0, .ref b)]) hx hb dL_law_340 hl (by decide) rfl (fun ls hl => ?_)
      refine lv_aload_n hx hb dL_law_342 rfl (lv_at hl 3 rfl) ?_
      refine lv_iconst (v := 0) hx hb dL_law_343 (by decide) ?_
      obtain ⟨r_11, cs_12, cn_13, lc_14, hc_15, lg_16, hg_17, e_18, hE_19, h⟩ := bw6_some h
      refine gl_W1 (As := [.ref x0, .int 0]) (rest := []) (wc := wX cI cJ x0 x1 x2 x3 x4 x5 x6 x7 x8 x9 g rm op rc ec su pe qt rs rn cs_3 cn_4 lc_5 hc_6 lg_7 hg_8) (w1 := wX cI cJ x0 x1 x2 x3 x4 x5 x6 x7 x8 x9 g rm op rc ec su pe qt rs rn cs_12 cn_13 lc_14 hc_15 lg_16 hg_17) (wr := [(p2, .inl (cI, 12, .inl pr)), (p3, .inl (cI, 4, .inl st))]) ⟨hx, hb, hml, hown, hts⟩ (c_L_price l hst D cI cJ x0 x1 x2 x3 x4 x5 x6 x7 x8 x9 _ g rm op rc ec su pe qt rs rn cs_3 cn_4 lc_5 hc_6 lg_7 hg_8 fu 0 r_11 cs_12 cn_13 lc_14 hc_15 lg_16 hg_17 e_18 hE_19) (vx_cwSW 2 hts gL_law_L_price rfl rfl rfl (by decide +kernel) ⟨Nat.le_of_ble_eq_true rfl, Nat.le_of_ble_eq_true rfl⟩) hK hP hD hS hA hT [0, 1, 2, 3, 4, 5, 6, 7, 8, 9] [10, 11] rfl rfl (by decide) (by decide) rfl rfl rfl hl.1 rfl (lv_room (Nat.le_of_ble_eq_true rfl)) dL_law_344 ⟨show (cells) + 1 ≤ 600130 by omega, show (slots) + 6 ≤ 7301080 by omega⟩ (fun H locs hP hD hS => ?_)
      replace hP := hP.sub (ws' := wX cI cJ x0 x1 x2 x3 x4 x5 x6 x7 x8 x9 g rm op rc ec su pe qt rs rn cs_12 cn_13 lc_14 hc_15 lg_16 hg_17 ++ [(p2, .inl (cI, 12, .inl pr)), (p3, .inl (cI, 4, .inl st))]) [2, 3, 4, 5, 6, 7, 8, 9, 10, 11, 0, 1] rfl
      replace hD := hD.sub (ws' := wX cI cJ x0 x1 x2 x3 x4 x5 x6 x7 x8 x9 g rm op rc ec su pe qt rs rn cs_12 cn_13 lc_14 hc_15 lg_16 hg_17 ++ [(p2, .inl (cI, 12, .inl pr)), (p3, .inl (cI, 4, .inl st))]) [2, 3, 4, 5, 6, 7, 8, 9, 10, 11, 0, 1] (by decide) rfl
      refine lv_istore (lv' := [(5, .int (wr2 "java/lang/IllegalStateException" (-4) (-3) r_11)), (4, .int 0), (3, .ref p3), (2, .ref p2), (1, .ref x0), (0, .ref b)]) hx hb dL_law_347 hl (by decide) rfl (fun ls hl => ?_)
      refine lv_iload hx hb dL_law_349 (lv_at hl 0 rfl) ?_
      refine lv_iload hx hb dL_law_351 (lv_at hl 1 rfl) ?_
      refine lv_if_eq (tgt := 367) hx hb dL_law_353 (by decide) (fun c_20 => ?_) (fun c_20 => ?_)
      · refine lv_bipush (v := (-4)) hx hb dL_law_367 (by decide) ?_
        refine lv_icmp_ne (tgt := 455) hx hb dL_law_369 (by decide) (fun c_21 => ?_) (fun c_21 => ?_)
        · replace h := (if_neg c_21).symm.trans h
          refine lv_iconst (v := 0) hx hb dL_law_455 (by decide) ?_
          cases h
        · replace h := (if_pos c_21).symm.trans h
          refine lv_aload_n hx hb dL_law_372 rfl (lv_at hl 4 rfl) ?_
          refine lv_iconst (v := (-1)) hx hb dL_law_373 (by decide) ?_
          obtain ⟨r_22, cs_23, cn_24, lc_25, hc_26, lg_27, hg_28, e_29, hE_30, h⟩ := bw6_some h
          refine gl_W1 (As := [.ref x0, .int (-1)]) (rest := []) (wc := wX cI cJ x0 x1 x2 x3 x4 x5 x6 x7 x8 x9 g rm op rc ec su pe qt rs rn cs_12 cn_13 lc_14 hc_15 lg_16 hg_17) (w1 := wX cI cJ x0 x1 x2 x3 x4 x5 x6 x7 x8 x9 g rm op rc ec su pe qt rs rn cs_23 cn_24 lc_25 hc_26 lg_27 hg_28) (wr := [(p2, .inl (cI, 12, .inl pr)), (p3, .inl (cI, 4, .inl st))]) ⟨hx, hb, hml, hown, hts⟩ (c_L_price l hst D cI cJ x0 x1 x2 x3 x4 x5 x6 x7 x8 x9 _ g rm op rc ec su pe qt rs rn cs_12 cn_13 lc_14 hc_15 lg_16 hg_17 fu (-1) r_22 cs_23 cn_24 lc_25 hc_26 lg_27 hg_28 e_29 hE_30) (vx_cwSW 2 hts gL_law_L_price rfl rfl rfl (by decide +kernel) ⟨Nat.le_of_ble_eq_true rfl, Nat.le_of_ble_eq_true rfl⟩) hK hP hD hS hA hT [0, 1, 2, 3, 4, 5, 6, 7, 8, 9] [10, 11] rfl rfl (by decide) (by decide) rfl rfl rfl hl.1 rfl (lv_room (Nat.le_of_ble_eq_true rfl)) dL_law_374 ⟨show ((cells + 1)) + 1 ≤ 600130 by omega, show ((slots + 6)) + 6 ≤ 7301080 by omega⟩ (fun H locs hP hD hS => ?_)
          replace hP := hP.sub (ws' := wX cI cJ x0 x1 x2 x3 x4 x5 x6 x7 x8 x9 g rm op rc ec su pe qt rs rn cs_23 cn_24 lc_25 hc_26 lg_27 hg_28 ++ [(p2, .inl (cI, 12, .inl pr)), (p3, .inl (cI, 4, .inl st))]) [2, 3, 4, 5, 6, 7, 8, 9, 10, 11, 0, 1] rfl
          replace hD := hD.sub (ws' := wX cI cJ x0 x1 x2 x3 x4 x5 x6 x7 x8 x9 g rm op rc ec su pe qt rs rn cs_23 cn_24 lc_25 hc_26 lg_27 hg_28 ++ [(p2, .inl (cI, 12, .inl pr)), (p3, .inl (cI, 4, .inl st))]) [2, 3, 4, 5, 6, 7, 8, 9, 10, 11, 0, 1] (by decide) rfl
          refine lv_iload hx hb dL_law_377 (lv_at hl 1 rfl) ?_
          refine lv_if_eq (tgt := 387) hx hb dL_law_379 (by decide) (fun c_31 => ?_) (fun c_31 => ?_)
          · refine lv_bipush (v := (-4)) hx hb dL_law_387 (by decide) ?_
            refine lv_icmp_ne (tgt := 455) hx hb dL_law_389 (by decide) (fun c_32 => ?_) (fun c_32 => ?_)
            · replace h := (if_neg c_32).symm.trans h
              refine lv_iconst (v := 0) hx hb dL_law_455 (by decide) ?_
              cases h
            · replace h := (if_pos c_32).symm.trans h
              refine lv_aload_n hx hb dL_law_392 rfl (lv_at hl 4 rfl) ?_
              refine lv_iconst (v := 0) hx hb dL_law_393 (by decide) ?_
              obtain ⟨r_33, e_34, hE_35, h⟩ := bw0_some h
              refine gl_W1 (As := [.ref x0, .int 0]) (rest := []) (wc := wX cI cJ x0 x1 x2 x3 x4 x5 x6 x7 x8 x9 g rm op rc ec su pe qt rs rn cs_23 cn_24 lc_25 hc_26 lg_27 hg_28) (w1 := wX cI cJ x0 x1 x2 x3 x4 x5 x6 x7 x8 x9 g rm op rc ec su pe qt rs rn cs_23 cn_24 lc_25 hc_26 lg_27 hg_28) (wr := [(p2, .inl (cI, 12, .inl pr)), (p3, .inl (cI, 4, .inl st))]) ⟨hx, hb, hml, hown, hts⟩ (c_L_holders l hst D cI cJ x0 x1 x2 x3 x4 x5 x6 x7 x8 x9 _ g rm op rc ec su pe qt rs rn cs_23 cn_24 lc_25 hc_26 lg_27 hg_28 fu 0 r_33 e_34 hE_35) (vx_cwSW 2 hts gL_law_L_holders rfl rfl rfl (by decide +kernel) ⟨Nat.le_of_ble_eq_true rfl, Nat.le_of_ble_eq_true rfl⟩) hK hP hD hS hA hT [0, 1, 2, 3, 4, 5, 6, 7, 8, 9] [10, 11] rfl rfl (by decide) (by decide) rfl rfl rfl hl.1 rfl (lv_room (Nat.le_of_ble_eq_true rfl)) dL_law_394 ⟨show (((cells + 1) + 1)) + 1 ≤ 600130 by omega, show (((slots + 6) + 6)) + 6 ≤ 7301080 by omega⟩ (fun H locs hP hD hS => ?_)
              replace hP := hP.sub (ws' := wX cI cJ x0 x1 x2 x3 x4 x5 x6 x7 x8 x9 g rm op rc ec su pe qt rs rn cs_23 cn_24 lc_25 hc_26 lg_27 hg_28 ++ [(p2, .inl (cI, 12, .inl pr)), (p3, .inl (cI, 4, .inl st))]) [2, 3, 4, 5, 6, 7, 8, 9, 10, 11, 0, 1] rfl
              replace hD := hD.sub (ws' := wX cI cJ x0 x1 x2 x3 x4 x5 x6 x7 x8 x9 g rm op rc ec su pe qt rs rn cs_23 cn_24 lc_25 hc_26 lg_27 hg_28 ++ [(p2, .inl (cI, 12, .inl pr)), (p3, .inl (cI, 4, .inl st))]) [2, 3, 4, 5, 6, 7, 8, 9, 10, 11, 0, 1] (by decide) rfl
              refine lv_sipush (v := 255) hx hb dL_law_397 (by decide) ?_
              refine lv_icmp_ne (tgt := 455) hx hb dL_law_400 (by decide) (fun c_36 => ?_) (fun c_36 => ?_)
              · replace h := (if_neg c_36).symm.trans h
                refine lv_iconst (v := 0) hx hb dL_law_455 (by decide) ?_
                cases h
              · replace h := (if_pos c_36).symm.trans h
                refine lv_aload_n hx hb dL_law_403 rfl (lv_at hl 4 rfl) ?_
                refine lv_sipush (v := 4096) hx hb dL_law_404 (by decide) ?_
                obtain ⟨r_37, e_38, hE_39, h⟩ := bw0_some h
                refine gl_W1 (As := [.ref x0, .int 4096]) (rest := []) (wc := wX cI cJ x0 x1 x2 x3 x4 x5 x6 x7 x8 x9 g rm op rc ec su pe qt rs rn cs_23 cn_24 lc_25 hc_26 lg_27 hg_28) (w1 := wX cI cJ x0 x1 x2 x3 x4 x5 x6 x7 x8 x9 g rm op rc ec su pe qt rs rn cs_23 cn_24 lc_25 hc_26 lg_27 hg_28) (wr := [(p2, .inl (cI, 12, .inl pr)), (p3, .inl (cI, 4, .inl st))]) ⟨hx, hb, hml, hown, hts⟩ (c_L_holders l hst D cI cJ x0 x1 x2 x3 x4 x5 x6 x7 x8 x9 _ g rm op rc ec su pe qt rs rn cs_23 cn_24 lc_25 hc_26 lg_27 hg_28 fu 4096 r_37 e_38 hE_39) (vx_cwSW 2 hts gL_law_L_holders rfl rfl rfl (by decide +kernel) ⟨Nat.le_of_ble_eq_true rfl, Nat.le_of_ble_eq_true rfl⟩) hK hP hD hS hA hT [0, 1, 2, 3, 4, 5, 6, 7, 8, 9] [10, 11] rfl rfl (by decide) (by decide) rfl rfl rfl hl.1 rfl (lv_room (Nat.le_of_ble_eq_true rfl)) dL_law_407 ⟨show ((((cells + 1) + 1) + 1)) + 1 ≤ 600130 by omega, show ((((slots + 6) + 6) + 6)) + 6 ≤ 7301080 by omega⟩ (fun H locs hP hD hS => ?_)
                replace hP := hP.sub (ws' := wX cI cJ x0 x1 x2 x3 x4 x5 x6 x7 x8 x9 g rm op rc ec su pe qt rs rn cs_23 cn_24 lc_25 hc_26 lg_27 hg_28 ++ [(p2, .inl (cI, 12, .inl pr)), (p3, .inl (cI, 4, .inl st))]) [2, 3, 4, 5, 6, 7, 8, 9, 10, 11, 0, 1] rfl
                replace hD := hD.sub (ws' := wX cI cJ x0 x1 x2 x3 x4 x5 x6 x7 x8 x9 g rm op rc ec su pe qt rs rn cs_23 cn_24 lc_25 hc_26 lg_27 hg_28 ++ [(p2, .inl (cI, 12, .inl pr)), (p3, .inl (cI, 4, .inl st))]) [2, 3, 4, 5, 6, 7, 8, 9, 10, 11, 0, 1] (by decide) rfl
                refine lv_bipush (v := (-3)) hx hb dL_law_410 (by decide) ?_
                refine lv_icmp_ne (tgt := 455) hx hb dL_law_412 (by decide) (fun c_40 => ?_) (fun c_40 => ?_)
                · replace h := (if_neg c_40).symm.trans h
                  refine lv_iconst (v := 0) hx hb dL_law_455 (by decide) ?_
                  cases h
                · replace h := (if_pos c_40).symm.trans h
                  refine lv_aload_n hx hb dL_law_415 rfl (lv_at hl 4 rfl) ?_
                  refine lv_bipush (v := 8) hx hb dL_law_416 (by decide) ?_
                  refine lv_iconst (v := (-1)) hx hb dL_law_418 (by decide) ?_
                  obtain ⟨r_41, g_42, rm_43, e_44, hE_45, h⟩ := bw2_some h
                  refine gl_W1 (As := [.ref x0, .int 8, .int (-1)]) (rest := []) (wc := wX cI cJ x0 x1 x2 x3 x4 x5 x6 x7 x8 x9 g rm op rc ec su pe qt rs rn cs_23 cn_24 lc_25 hc_26 lg_27 hg_28) (w1 := wX cI cJ x0 x1 x2 x3 x4 x5 x6 x7 x8 x9 g_42 rm_43 op rc ec su pe qt rs rn cs_23 cn_24 lc_25 hc_26 lg_27 hg_28) (wr := [(p2, .inl (cI, 12, .inl pr)), (p3, .inl (cI, 4, .inl st))]) ⟨hx, hb, hml, hown, hts⟩ (c_L_all l hst D cI cJ x0 x1 x2 x3 x4 x5 x6 x7 x8 x9 _ g rm op rc ec su pe qt rs rn cs_23 cn_24 lc_25 hc_26 lg_27 hg_28 fu 8 (-1) r_41 g_42 rm_43 e_44 hE_45) (vx_cwSW 3 hts gL_law_L_all rfl rfl rfl (by decide +kernel) ⟨Nat.le_of_ble_eq_true rfl, Nat.le_of_ble_eq_true rfl⟩) hK hP hD hS hA hT [0, 1, 2, 3, 4, 5, 6, 7, 8, 9] [10, 11] rfl rfl (by decide) (by decide) rfl rfl rfl hl.1 rfl (lv_room (Nat.le_of_ble_eq_true rfl)) dL_law_419 ⟨show (((((cells + 1) + 1) + 1) + 1)) + 1 ≤ 600130 by omega, show (((((slots + 6) + 6) + 6) + 6)) + 6 ≤ 7301080 by omega⟩ (fun H locs hP hD hS => ?_)
                  replace hP := hP.sub (ws' := wX cI cJ x0 x1 x2 x3 x4 x5 x6 x7 x8 x9 g_42 rm_43 op rc ec su pe qt rs rn cs_23 cn_24 lc_25 hc_26 lg_27 hg_28 ++ [(p2, .inl (cI, 12, .inl pr)), (p3, .inl (cI, 4, .inl st))]) [2, 3, 4, 5, 6, 7, 8, 9, 10, 11, 0, 1] rfl
                  replace hD := hD.sub (ws' := wX cI cJ x0 x1 x2 x3 x4 x5 x6 x7 x8 x9 g_42 rm_43 op rc ec su pe qt rs rn cs_23 cn_24 lc_25 hc_26 lg_27 hg_28 ++ [(p2, .inl (cI, 12, .inl pr)), (p3, .inl (cI, 4, .inl st))]) [2, 3, 4, 5, 6, 7, 8, 9, 10, 11, 0, 1] (by decide) rfl
                  refine lv_bipush (v := (-2)) hx hb dL_law_422 (by decide) ?_
                  refine lv_icmp_ne (tgt := 455) hx hb dL_law_424 (by decide) (fun c_46 => ?_) (fun c_46 => ?_)
                  · replace h := (if_neg c_46).symm.trans h
                    refine lv_iconst (v := 0) hx hb dL_law_455 (by decide) ?_
                    cases h
                  · replace h := (if_pos c_46).symm.trans h
                    refine lv_aload_n hx hb dL_law_427 rfl (lv_at hl 4 rfl) ?_
                    refine lv_iconst (v := 0) hx hb dL_law_428 (by decide) ?_
                    refine lv_bipush (v := 12) hx hb dL_law_429 (by decide) ?_
                    obtain ⟨r_47, rm_48, e_49, hE_50, h⟩ := bw1_some h
                    refine gl_W1 (As := [.ref x0, .int 0, .int 12]) (rest := []) (wc := wX cI cJ x0 x1 x2 x3 x4 x5 x6 x7 x8 x9 g_42 rm_43 op rc ec su pe qt rs rn cs_23 cn_24 lc_25 hc_26 lg_27 hg_28) (w1 := wX cI cJ x0 x1 x2 x3 x4 x5 x6 x7 x8 x9 g_42 rm_48 op rc ec su pe qt rs rn cs_23 cn_24 lc_25 hc_26 lg_27 hg_28) (wr := [(p2, .inl (cI, 12, .inl pr)), (p3, .inl (cI, 4, .inl st))]) ⟨hx, hb, hml, hown, hts⟩ (c_L_review l hst D cI cJ x0 x1 x2 x3 x4 x5 x6 x7 x8 x9 _ g_42 rm_43 op rc ec su pe qt rs rn cs_23 cn_24 lc_25 hc_26 lg_27 hg_28 0 12 r_47 rm_48 e_49 hE_50) (vx_cwSW 3 hts gL_law_L_review rfl rfl rfl (by decide +kernel) ⟨Nat.le_of_ble_eq_true rfl, Nat.le_of_ble_eq_true rfl⟩) hK hP hD hS hA hT [0, 1, 2, 3, 4, 5, 6, 7, 8, 9] [10, 11] rfl rfl (by decide) (by decide) rfl rfl rfl hl.1 rfl (lv_room (Nat.le_of_ble_eq_true rfl)) dL_law_431 ⟨show ((((((cells + 1) + 1) + 1) + 1) + 1)) + 1 ≤ 600130 by omega, show ((((((slots + 6) + 6) + 6) + 6) + 6)) + 6 ≤ 7301080 by omega⟩ (fun H locs hP hD hS => ?_)
                    replace hP := hP.sub (ws' := wX cI cJ x0 x1 x2 x3 x4 x5 x6 x7 x8 x9 g_42 rm_48 op rc ec su pe qt rs rn cs_23 cn_24 lc_25 hc_26 lg_27 hg_28 ++ [(p2, .inl (cI, 12, .inl pr)), (p3, .inl (cI, 4, .inl st))]) [2, 3, 4, 5, 6, 7, 8, 9, 10, 11, 0, 1] rfl
                    replace hD := hD.sub (ws' := wX cI cJ x0 x1 x2 x3 x4 x5 x6 x7 x8 x9 g_42 rm_48 op rc ec su pe qt rs rn cs_23 cn_24 lc_25 hc_26 lg_27 hg_28 ++ [(p2, .inl (cI, 12, .inl pr)), (p3, .inl (cI, 4, .inl st))]) [2, 3, 4, 5, 6, 7, 8, 9, 10, 11, 0, 1] (by decide) rfl
                    refine lv_bipush (v := (-2)) hx hb dL_law_434 (by decide) ?_
                    refine lv_icmp_ne (tgt := 455) hx hb dL_law_436 (by decide) (fun c_51 => ?_) (fun c_51 => ?_)
                    · replace h := (if_neg c_51).symm.trans h
                      refine lv_iconst (v := 0) hx hb dL_law_455 (by decide) ?_
                      cases h
                    · replace h := (if_pos c_51).symm.trans h
                      refine lv_aload_n hx hb dL_law_439 rfl (lv_at hl 4 rfl) ?_
                      refine lv_iconst (v := 3) hx hb dL_law_440 (by decide) ?_
                      refine lv_iconst (v := 3) hx hb dL_law_441 (by decide) ?_
                      refine lv_iconst (v := 1) hx hb dL_law_442 (by decide) ?_
                      obtain ⟨r_52, op_53, e_54, hE_55, h⟩ := bw1_some h
                      refine gl_W1 (As := [.ref x0, .int 3, .int 3, .int 1]) (rest := []) (wc := wX cI cJ x0 x1 x2 x3 x4 x5 x6 x7 x8 x9 g_42 rm_48 op rc ec su pe qt rs rn cs_23 cn_24 lc_25 hc_26 lg_27 hg_28) (w1 := wX cI cJ x0 x1 x2 x3 x4 x5 x6 x7 x8 x9 g_42 rm_48 op_53 rc ec su pe qt rs rn cs_23 cn_24 lc_25 hc_26 lg_27 hg_28) (wr := [(p2, .inl (cI, 12, .inl pr)), (p3, .inl (cI, 4, .inl st))]) ⟨hx, hb, hml, hown, hts⟩ (c_L_clash l hst D cI cJ x0 x1 x2 x3 x4 x5 x6 x7 x8 x9 _ g_42 rm_48 op rc ec su pe qt rs rn cs_23 cn_24 lc_25 hc_26 lg_27 hg_28 3 3 1 r_52 op_53 e_54 hE_55) (vx_cwSW 4 hts gL_law_L_clash rfl rfl rfl (by decide +kernel) ⟨Nat.le_of_ble_eq_true rfl, Nat.le_of_ble_eq_true rfl⟩) hK hP hD hS hA hT [0, 1, 2, 3, 4, 5, 6, 7, 8, 9] [10, 11] rfl rfl (by decide) (by decide) rfl rfl rfl hl.1 rfl (lv_room (Nat.le_of_ble_eq_true rfl)) dL_law_443 ⟨show (((((((cells + 1) + 1) + 1) + 1) + 1) + 1)) + 1 ≤ 600130 by omega, show (((((((slots + 6) + 6) + 6) + 6) + 6) + 6)) + 6 ≤ 7301080 by omega⟩ (fun H locs hP hD hS => ?_)
                      replace hP := hP.sub (ws' := wX cI cJ x0 x1 x2 x3 x4 x5 x6 x7 x8 x9 g_42 rm_48 op_53 rc ec su pe qt rs rn cs_23 cn_24 lc_25 hc_26 lg_27 hg_28 ++ [(p2, .inl (cI, 12, .inl pr)), (p3, .inl (cI, 4, .inl st))]) [2, 3, 4, 5, 6, 7, 8, 9, 10, 11, 0, 1] rfl
                      replace hD := hD.sub (ws' := wX cI cJ x0 x1 x2 x3 x4 x5 x6 x7 x8 x9 g_42 rm_48 op_53 rc ec su pe qt rs rn cs_23 cn_24 lc_25 hc_26 lg_27 hg_28 ++ [(p2, .inl (cI, 12, .inl pr)), (p3, .inl (cI, 4, .inl st))]) [2, 3, 4, 5, 6, 7, 8, 9, 10, 11, 0, 1] (by decide) rfl
                      refine lv_bipush (v := (-3)) hx hb dL_law_446 (by decide) ?_
                      refine lv_icmp_ne (tgt := 455) hx hb dL_law_448 (by decide) (fun c_56 => ?_) (fun c_56 => ?_)
                      · replace h := (if_neg c_56).symm.trans h
                        refine lv_iconst (v := 0) hx hb dL_law_455 (by decide) ?_
                        cases h
                      · replace h := (if_pos c_56).symm.trans h
                        refine lv_iconst (v := 1) hx hb dL_law_451 (by decide) ?_
                        refine lv_goto (tgt := 456) hx hb dL_law_452 (by decide) ?_
                        refine va_forget hS.2.2 ?_
                        refine W.widen (k := 600130) (n := 7301080) (by omega) (by omega) ?_
                        exact lw_ret hx hb hr hlocks dL_law_456
          · exact absurd (by decide) c_31
      · exact absurd (by decide) c_20
    · replace h := (if_neg c_10).symm.trans h
      refine lv_iconst (v := 1) hx hb dL_law_335 (by decide) ?_
      refine lv_goto (tgt := 340) hx hb dL_law_336 (by decide) ?_
      refine lv_istore (lv' := [(4, .int 1), (3, .ref p3), (2, .ref p2), (1, .ref x0), (0, .ref b)]) hx hb dL_law_340 hl (by decide) rfl (fun ls hl => ?_)
      refine lv_aload_n hx hb dL_law_342 rfl (lv_at hl 3 rfl) ?_
      refine lv_iconst (v := 0) hx hb dL_law_343 (by decide) ?_
      obtain ⟨r_57, cs_58, cn_59, lc_60, hc_61, lg_62, hg_63, e_64, hE_65, h⟩ := bw6_some h
      refine gl_W1 (As := [.ref x0, .int 0]) (rest := []) (wc := wX cI cJ x0 x1 x2 x3 x4 x5 x6 x7 x8 x9 g rm op rc ec su pe qt rs rn cs_3 cn_4 lc_5 hc_6 lg_7 hg_8) (w1 := wX cI cJ x0 x1 x2 x3 x4 x5 x6 x7 x8 x9 g rm op rc ec su pe qt rs rn cs_58 cn_59 lc_60 hc_61 lg_62 hg_63) (wr := [(p2, .inl (cI, 12, .inl pr)), (p3, .inl (cI, 4, .inl st))]) ⟨hx, hb, hml, hown, hts⟩ (c_L_price l hst D cI cJ x0 x1 x2 x3 x4 x5 x6 x7 x8 x9 _ g rm op rc ec su pe qt rs rn cs_3 cn_4 lc_5 hc_6 lg_7 hg_8 fu 0 r_57 cs_58 cn_59 lc_60 hc_61 lg_62 hg_63 e_64 hE_65) (vx_cwSW 2 hts gL_law_L_price rfl rfl rfl (by decide +kernel) ⟨Nat.le_of_ble_eq_true rfl, Nat.le_of_ble_eq_true rfl⟩) hK hP hD hS hA hT [0, 1, 2, 3, 4, 5, 6, 7, 8, 9] [10, 11] rfl rfl (by decide) (by decide) rfl rfl rfl hl.1 rfl (lv_room (Nat.le_of_ble_eq_true rfl)) dL_law_344 ⟨show (cells) + 1 ≤ 600130 by omega, show (slots) + 6 ≤ 7301080 by omega⟩ (fun H locs hP hD hS => ?_)
      replace hP := hP.sub (ws' := wX cI cJ x0 x1 x2 x3 x4 x5 x6 x7 x8 x9 g rm op rc ec su pe qt rs rn cs_58 cn_59 lc_60 hc_61 lg_62 hg_63 ++ [(p2, .inl (cI, 12, .inl pr)), (p3, .inl (cI, 4, .inl st))]) [2, 3, 4, 5, 6, 7, 8, 9, 10, 11, 0, 1] rfl
      replace hD := hD.sub (ws' := wX cI cJ x0 x1 x2 x3 x4 x5 x6 x7 x8 x9 g rm op rc ec su pe qt rs rn cs_58 cn_59 lc_60 hc_61 lg_62 hg_63 ++ [(p2, .inl (cI, 12, .inl pr)), (p3, .inl (cI, 4, .inl st))]) [2, 3, 4, 5, 6, 7, 8, 9, 10, 11, 0, 1] (by decide) rfl
      refine lv_istore (lv' := [(5, .int (wr2 "java/lang/IllegalStateException" (-4) (-3) r_57)), (4, .int 1), (3, .ref p3), (2, .ref p2), (1, .ref x0), (0, .ref b)]) hx hb dL_law_347 hl (by decide) rfl (fun ls hl => ?_)
      refine lv_iload hx hb dL_law_349 (lv_at hl 0 rfl) ?_
      refine lv_iload hx hb dL_law_351 (lv_at hl 1 rfl) ?_
      refine lv_if_eq (tgt := 367) hx hb dL_law_353 (by decide) (fun c_66 => ?_) (fun c_66 => ?_)
      · exact absurd c_66 (by decide)
      · refine lv_aload_n hx hb dL_law_356 rfl (lv_at hl 2 rfl) ?_
        refine lv_iconst (v := 1) hx hb dL_law_357 (by decide) ?_
        refine va_iald hx hb hK hP 11 0 rfl rfl (show ¬ ((1 : Int32) < 0 ∨ 4 ≤ Int32.toNatClampNeg 1) by decide) dL_law_358 ?_
        refine lv_aload_n hx hb dL_law_359 rfl (lv_at hl 4 rfl) ?_
        obtain ⟨r_67, e_68, h⟩ := bnd1_some h
        refine gl_Vi (As := []) (rest := [.int (st (Int32.toNatClampNeg 1)), .int (wr2 "java/lang/IllegalStateException" (-4) (-3) r_57)]) (wc := wX cI cJ x0 x1 x2 x3 x4 x5 x6 x7 x8 x9 g rm op rc ec su pe qt rs rn cs_58 cn_59 lc_60 hc_61 lg_62 hg_63) (w1 := wX cI cJ x0 x1 x2 x3 x4 x5 x6 x7 x8 x9 g rm op rc ec su pe qt rs rn cs_58 cn_59 lc_60 hc_61 lg_62 hg_63) (wr := [(p2, .inl (cI, 12, .inl pr)), (p3, .inl (cI, 4, .inl st))]) ⟨hx, hb, hml, hown, hts⟩ (c_X0_grants l D cI cJ x0 x1 x2 x3 x4 x5 x6 x7 x8 x9 _ g rm op rc ec su pe qt rs rn cs_58 cn_59 lc_60 hc_61 lg_62 hg_63 fu  r_67 e_68) (cwV 0 hts gL_law_X0_grants rfl rfl rfl (by decide +kernel) ⟨Nat.le_of_ble_eq_true rfl, Nat.le_of_ble_eq_true rfl⟩) hK hP hD hS hA [0, 1, 2, 3, 4, 5, 6, 7, 8, 9] [10, 11] rfl rfl (by decide) (by decide) rfl rfl rfl rfl rfl hl.1 rfl (lv_room (Nat.le_of_ble_eq_true rfl)) dL_law_360 ⟨show ((cells + 1)) + 0 ≤ 600130 by omega, show ((slots + 6)) + 0 ≤ 7301080 by omega⟩ (fun H locs hP hD hS => ?_)
        replace hP := hP.sub (ws' := wX cI cJ x0 x1 x2 x3 x4 x5 x6 x7 x8 x9 g rm op rc ec su pe qt rs rn cs_58 cn_59 lc_60 hc_61 lg_62 hg_63 ++ [(p2, .inl (cI, 12, .inl pr)), (p3, .inl (cI, 4, .inl st))]) [2, 3, 4, 5, 6, 7, 8, 9, 10, 11, 0, 1] rfl
        replace hD := hD.sub (ws' := wX cI cJ x0 x1 x2 x3 x4 x5 x6 x7 x8 x9 g rm op rc ec su pe qt rs rn cs_58 cn_59 lc_60 hc_61 lg_62 hg_63 ++ [(p2, .inl (cI, 12, .inl pr)), (p3, .inl (cI, 4, .inl st))]) [2, 3, 4, 5, 6, 7, 8, 9, 10, 11, 0, 1] (by decide) rfl
        refine lv_imul hx hb dL_law_363 ?_
        refine lv_goto (tgt := 369) hx hb dL_law_364 (by decide) ?_
        refine lv_icmp_ne (tgt := 455) hx hb dL_law_369 (by decide) (fun c_69 => ?_) (fun c_69 => ?_)
        · replace h := (if_neg c_69).symm.trans h
          refine lv_iconst (v := 0) hx hb dL_law_455 (by decide) ?_
          cases h
        · replace h := (if_pos c_69).symm.trans h
          refine lv_aload_n hx hb dL_law_372 rfl (lv_at hl 4 rfl) ?_
          refine lv_iconst (v := (-1)) hx hb dL_law_373 (by decide) ?_
          obtain ⟨r_70, cs_71, cn_72, lc_73, hc_74, lg_75, hg_76, e_77, hE_78, h⟩ := bw6_some h
          refine gl_W1 (As := [.ref x0, .int (-1)]) (rest := []) (wc := wX cI cJ x0 x1 x2 x3 x4 x5 x6 x7 x8 x9 g rm op rc ec su pe qt rs rn cs_58 cn_59 lc_60 hc_61 lg_62 hg_63) (w1 := wX cI cJ x0 x1 x2 x3 x4 x5 x6 x7 x8 x9 g rm op rc ec su pe qt rs rn cs_71 cn_72 lc_73 hc_74 lg_75 hg_76) (wr := [(p2, .inl (cI, 12, .inl pr)), (p3, .inl (cI, 4, .inl st))]) ⟨hx, hb, hml, hown, hts⟩ (c_L_price l hst D cI cJ x0 x1 x2 x3 x4 x5 x6 x7 x8 x9 _ g rm op rc ec su pe qt rs rn cs_58 cn_59 lc_60 hc_61 lg_62 hg_63 fu (-1) r_70 cs_71 cn_72 lc_73 hc_74 lg_75 hg_76 e_77 hE_78) (vx_cwSW 2 hts gL_law_L_price rfl rfl rfl (by decide +kernel) ⟨Nat.le_of_ble_eq_true rfl, Nat.le_of_ble_eq_true rfl⟩) hK hP hD hS hA hT [0, 1, 2, 3, 4, 5, 6, 7, 8, 9] [10, 11] rfl rfl (by decide) (by decide) rfl rfl rfl hl.1 rfl (lv_room (Nat.le_of_ble_eq_true rfl)) dL_law_374 ⟨show ((cells + 1)) + 1 ≤ 600130 by omega, show ((slots + 6)) + 6 ≤ 7301080 by omega⟩ (fun H locs hP hD hS => ?_)
          replace hP := hP.sub (ws' := wX cI cJ x0 x1 x2 x3 x4 x5 x6 x7 x8 x9 g rm op rc ec su pe qt rs rn cs_71 cn_72 lc_73 hc_74 lg_75 hg_76 ++ [(p2, .inl (cI, 12, .inl pr)), (p3, .inl (cI, 4, .inl st))]) [2, 3, 4, 5, 6, 7, 8, 9, 10, 11, 0, 1] rfl
          replace hD := hD.sub (ws' := wX cI cJ x0 x1 x2 x3 x4 x5 x6 x7 x8 x9 g rm op rc ec su pe qt rs rn cs_71 cn_72 lc_73 hc_74 lg_75 hg_76 ++ [(p2, .inl (cI, 12, .inl pr)), (p3, .inl (cI, 4, .inl st))]) [2, 3, 4, 5, 6, 7, 8, 9, 10, 11, 0, 1] (by decide) rfl
          refine lv_iload hx hb dL_law_377 (lv_at hl 1 rfl) ?_
          refine lv_if_eq (tgt := 387) hx hb dL_law_379 (by decide) (fun c_79 => ?_) (fun c_79 => ?_)
          · exact absurd c_79 (by decide)
          · refine lv_bipush (v := (-3)) hx hb dL_law_382 (by decide) ?_
            refine lv_goto (tgt := 389) hx hb dL_law_384 (by decide) ?_
            refine lv_icmp_ne (tgt := 455) hx hb dL_law_389 (by decide) (fun c_80 => ?_) (fun c_80 => ?_)
            · replace h := (if_neg c_80).symm.trans h
              refine lv_iconst (v := 0) hx hb dL_law_455 (by decide) ?_
              cases h
            · replace h := (if_pos c_80).symm.trans h
              refine lv_aload_n hx hb dL_law_392 rfl (lv_at hl 4 rfl) ?_
              refine lv_iconst (v := 0) hx hb dL_law_393 (by decide) ?_
              obtain ⟨r_81, e_82, hE_83, h⟩ := bw0_some h
              refine gl_W1 (As := [.ref x0, .int 0]) (rest := []) (wc := wX cI cJ x0 x1 x2 x3 x4 x5 x6 x7 x8 x9 g rm op rc ec su pe qt rs rn cs_71 cn_72 lc_73 hc_74 lg_75 hg_76) (w1 := wX cI cJ x0 x1 x2 x3 x4 x5 x6 x7 x8 x9 g rm op rc ec su pe qt rs rn cs_71 cn_72 lc_73 hc_74 lg_75 hg_76) (wr := [(p2, .inl (cI, 12, .inl pr)), (p3, .inl (cI, 4, .inl st))]) ⟨hx, hb, hml, hown, hts⟩ (c_L_holders l hst D cI cJ x0 x1 x2 x3 x4 x5 x6 x7 x8 x9 _ g rm op rc ec su pe qt rs rn cs_71 cn_72 lc_73 hc_74 lg_75 hg_76 fu 0 r_81 e_82 hE_83) (vx_cwSW 2 hts gL_law_L_holders rfl rfl rfl (by decide +kernel) ⟨Nat.le_of_ble_eq_true rfl, Nat.le_of_ble_eq_true rfl⟩) hK hP hD hS hA hT [0, 1, 2, 3, 4, 5, 6, 7, 8, 9] [10, 11] rfl rfl (by decide) (by decide) rfl rfl rfl hl.1 rfl (lv_room (Nat.le_of_ble_eq_true rfl)) dL_law_394 ⟨show (((cells + 1) + 1)) + 1 ≤ 600130 by omega, show (((slots + 6) + 6)) + 6 ≤ 7301080 by omega⟩ (fun H locs hP hD hS => ?_)
              replace hP := hP.sub (ws' := wX cI cJ x0 x1 x2 x3 x4 x5 x6 x7 x8 x9 g rm op rc ec su pe qt rs rn cs_71 cn_72 lc_73 hc_74 lg_75 hg_76 ++ [(p2, .inl (cI, 12, .inl pr)), (p3, .inl (cI, 4, .inl st))]) [2, 3, 4, 5, 6, 7, 8, 9, 10, 11, 0, 1] rfl
              replace hD := hD.sub (ws' := wX cI cJ x0 x1 x2 x3 x4 x5 x6 x7 x8 x9 g rm op rc ec su pe qt rs rn cs_71 cn_72 lc_73 hc_74 lg_75 hg_76 ++ [(p2, .inl (cI, 12, .inl pr)), (p3, .inl (cI, 4, .inl st))]) [2, 3, 4, 5, 6, 7, 8, 9, 10, 11, 0, 1] (by decide) rfl
              refine lv_sipush (v := 255) hx hb dL_law_397 (by decide) ?_
              refine lv_icmp_ne (tgt := 455) hx hb dL_law_400 (by decide) (fun c_84 => ?_) (fun c_84 => ?_)
              · replace h := (if_neg c_84).symm.trans h
                refine lv_iconst (v := 0) hx hb dL_law_455 (by decide) ?_
                cases h
              · replace h := (if_pos c_84).symm.trans h
                refine lv_aload_n hx hb dL_law_403 rfl (lv_at hl 4 rfl) ?_
                refine lv_sipush (v := 4096) hx hb dL_law_404 (by decide) ?_
                obtain ⟨r_85, e_86, hE_87, h⟩ := bw0_some h
                refine gl_W1 (As := [.ref x0, .int 4096]) (rest := []) (wc := wX cI cJ x0 x1 x2 x3 x4 x5 x6 x7 x8 x9 g rm op rc ec su pe qt rs rn cs_71 cn_72 lc_73 hc_74 lg_75 hg_76) (w1 := wX cI cJ x0 x1 x2 x3 x4 x5 x6 x7 x8 x9 g rm op rc ec su pe qt rs rn cs_71 cn_72 lc_73 hc_74 lg_75 hg_76) (wr := [(p2, .inl (cI, 12, .inl pr)), (p3, .inl (cI, 4, .inl st))]) ⟨hx, hb, hml, hown, hts⟩ (c_L_holders l hst D cI cJ x0 x1 x2 x3 x4 x5 x6 x7 x8 x9 _ g rm op rc ec su pe qt rs rn cs_71 cn_72 lc_73 hc_74 lg_75 hg_76 fu 4096 r_85 e_86 hE_87) (vx_cwSW 2 hts gL_law_L_holders rfl rfl rfl (by decide +kernel) ⟨Nat.le_of_ble_eq_true rfl, Nat.le_of_ble_eq_true rfl⟩) hK hP hD hS hA hT [0, 1, 2, 3, 4, 5, 6, 7, 8, 9] [10, 11] rfl rfl (by decide) (by decide) rfl rfl rfl hl.1 rfl (lv_room (Nat.le_of_ble_eq_true rfl)) dL_law_407 ⟨show ((((cells + 1) + 1) + 1)) + 1 ≤ 600130 by omega, show ((((slots + 6) + 6) + 6)) + 6 ≤ 7301080 by omega⟩ (fun H locs hP hD hS => ?_)
                replace hP := hP.sub (ws' := wX cI cJ x0 x1 x2 x3 x4 x5 x6 x7 x8 x9 g rm op rc ec su pe qt rs rn cs_71 cn_72 lc_73 hc_74 lg_75 hg_76 ++ [(p2, .inl (cI, 12, .inl pr)), (p3, .inl (cI, 4, .inl st))]) [2, 3, 4, 5, 6, 7, 8, 9, 10, 11, 0, 1] rfl
                replace hD := hD.sub (ws' := wX cI cJ x0 x1 x2 x3 x4 x5 x6 x7 x8 x9 g rm op rc ec su pe qt rs rn cs_71 cn_72 lc_73 hc_74 lg_75 hg_76 ++ [(p2, .inl (cI, 12, .inl pr)), (p3, .inl (cI, 4, .inl st))]) [2, 3, 4, 5, 6, 7, 8, 9, 10, 11, 0, 1] (by decide) rfl
                refine lv_bipush (v := (-3)) hx hb dL_law_410 (by decide) ?_
                refine lv_icmp_ne (tgt := 455) hx hb dL_law_412 (by decide) (fun c_88 => ?_) (fun c_88 => ?_)
                · replace h := (if_neg c_88).symm.trans h
                  refine lv_iconst (v := 0) hx hb dL_law_455 (by decide) ?_
                  cases h
                · replace h := (if_pos c_88).symm.trans h
                  refine lv_aload_n hx hb dL_law_415 rfl (lv_at hl 4 rfl) ?_
                  refine lv_bipush (v := 8) hx hb dL_law_416 (by decide) ?_
                  refine lv_iconst (v := (-1)) hx hb dL_law_418 (by decide) ?_
                  obtain ⟨r_89, g_90, rm_91, e_92, hE_93, h⟩ := bw2_some h
                  refine gl_W1 (As := [.ref x0, .int 8, .int (-1)]) (rest := []) (wc := wX cI cJ x0 x1 x2 x3 x4 x5 x6 x7 x8 x9 g rm op rc ec su pe qt rs rn cs_71 cn_72 lc_73 hc_74 lg_75 hg_76) (w1 := wX cI cJ x0 x1 x2 x3 x4 x5 x6 x7 x8 x9 g_90 rm_91 op rc ec su pe qt rs rn cs_71 cn_72 lc_73 hc_74 lg_75 hg_76) (wr := [(p2, .inl (cI, 12, .inl pr)), (p3, .inl (cI, 4, .inl st))]) ⟨hx, hb, hml, hown, hts⟩ (c_L_all l hst D cI cJ x0 x1 x2 x3 x4 x5 x6 x7 x8 x9 _ g rm op rc ec su pe qt rs rn cs_71 cn_72 lc_73 hc_74 lg_75 hg_76 fu 8 (-1) r_89 g_90 rm_91 e_92 hE_93) (vx_cwSW 3 hts gL_law_L_all rfl rfl rfl (by decide +kernel) ⟨Nat.le_of_ble_eq_true rfl, Nat.le_of_ble_eq_true rfl⟩) hK hP hD hS hA hT [0, 1, 2, 3, 4, 5, 6, 7, 8, 9] [10, 11] rfl rfl (by decide) (by decide) rfl rfl rfl hl.1 rfl (lv_room (Nat.le_of_ble_eq_true rfl)) dL_law_419 ⟨show (((((cells + 1) + 1) + 1) + 1)) + 1 ≤ 600130 by omega, show (((((slots + 6) + 6) + 6) + 6)) + 6 ≤ 7301080 by omega⟩ (fun H locs hP hD hS => ?_)
                  replace hP := hP.sub (ws' := wX cI cJ x0 x1 x2 x3 x4 x5 x6 x7 x8 x9 g_90 rm_91 op rc ec su pe qt rs rn cs_71 cn_72 lc_73 hc_74 lg_75 hg_76 ++ [(p2, .inl (cI, 12, .inl pr)), (p3, .inl (cI, 4, .inl st))]) [2, 3, 4, 5, 6, 7, 8, 9, 10, 11, 0, 1] rfl
                  replace hD := hD.sub (ws' := wX cI cJ x0 x1 x2 x3 x4 x5 x6 x7 x8 x9 g_90 rm_91 op rc ec su pe qt rs rn cs_71 cn_72 lc_73 hc_74 lg_75 hg_76 ++ [(p2, .inl (cI, 12, .inl pr)), (p3, .inl (cI, 4, .inl st))]) [2, 3, 4, 5, 6, 7, 8, 9, 10, 11, 0, 1] (by decide) rfl
                  refine lv_bipush (v := (-2)) hx hb dL_law_422 (by decide) ?_
                  refine lv_icmp_ne (tgt := 455) hx hb dL_law_424 (by decide) (fun c_94 => ?_) (fun c_94 => ?_)
                  · replace h := (if_neg c_94).symm.trans h
                    refine lv_iconst (v := 0) hx hb dL_law_455 (by decide) ?_
                    cases h
                  · replace h := (if_pos c_94).symm.trans h
                    refine lv_aload_n hx hb dL_law_427 rfl (lv_at hl 4 rfl) ?_
                    refine lv_iconst (v := 0) hx hb dL_law_428 (by decide) ?_
                    refine lv_bipush (v := 12) hx hb dL_law_429 (by decide) ?_
                    obtain ⟨r_95, rm_96, e_97, hE_98, h⟩ := bw1_some h
                    refine gl_W1 (As := [.ref x0, .int 0, .int 12]) (rest := []) (wc := wX cI cJ x0 x1 x2 x3 x4 x5 x6 x7 x8 x9 g_90 rm_91 op rc ec su pe qt rs rn cs_71 cn_72 lc_73 hc_74 lg_75 hg_76) (w1 := wX cI cJ x0 x1 x2 x3 x4 x5 x6 x7 x8 x9 g_90 rm_96 op rc ec su pe qt rs rn cs_71 cn_72 lc_73 hc_74 lg_75 hg_76) (wr := [(p2, .inl (cI, 12, .inl pr)), (p3, .inl (cI, 4, .inl st))]) ⟨hx, hb, hml, hown, hts⟩ (c_L_review l hst D cI cJ x0 x1 x2 x3 x4 x5 x6 x7 x8 x9 _ g_90 rm_91 op rc ec su pe qt rs rn cs_71 cn_72 lc_73 hc_74 lg_75 hg_76 0 12 r_95 rm_96 e_97 hE_98) (vx_cwSW 3 hts gL_law_L_review rfl rfl rfl (by decide +kernel) ⟨Nat.le_of_ble_eq_true rfl, Nat.le_of_ble_eq_true rfl⟩) hK hP hD hS hA hT [0, 1, 2, 3, 4, 5, 6, 7, 8, 9] [10, 11] rfl rfl (by decide) (by decide) rfl rfl rfl hl.1 rfl (lv_room (Nat.le_of_ble_eq_true rfl)) dL_law_431 ⟨show ((((((cells + 1) + 1) + 1) + 1) + 1)) + 1 ≤ 600130 by omega, show ((((((slots + 6) + 6) + 6) + 6) + 6)) + 6 ≤ 7301080 by omega⟩ (fun H locs hP hD hS => ?_)
                    replace hP := hP.sub (ws' := wX cI cJ x0 x1 x2 x3 x4 x5 x6 x7 x8 x9 g_90 rm_96 op rc ec su pe qt rs rn cs_71 cn_72 lc_73 hc_74 lg_75 hg_76 ++ [(p2, .inl (cI, 12, .inl pr)), (p3, .inl (cI, 4, .inl st))]) [2, 3, 4, 5, 6, 7, 8, 9, 10, 11, 0, 1] rfl
                    replace hD := hD.sub (ws' := wX cI cJ x0 x1 x2 x3 x4 x5 x6 x7 x8 x9 g_90 rm_96 op rc ec su pe qt rs rn cs_71 cn_72 lc_73 hc_74 lg_75 hg_76 ++ [(p2, .inl (cI, 12, .inl pr)), (p3, .inl (cI, 4, .inl st))]) [2, 3, 4, 5, 6, 7, 8, 9, 10, 11, 0, 1] (by decide) rfl
                    refine lv_bipush (v := (-2)) hx hb dL_law_434 (by decide) ?_
                    refine lv_icmp_ne (tgt := 455) hx hb dL_law_436 (by decide) (fun c_99 => ?_) (fun c_99 => ?_)
                    · replace h := (if_neg c_99).symm.trans h
                      refine lv_iconst (v := 0) hx hb dL_law_455 (by decide) ?_
                      cases h
                    · replace h := (if_pos c_99).symm.trans h
                      refine lv_aload_n hx hb dL_law_439 rfl (lv_at hl 4 rfl) ?_
                      refine lv_iconst (v := 3) hx hb dL_law_440 (by decide) ?_
                      refine lv_iconst (v := 3) hx hb dL_law_441 (by decide) ?_
                      refine lv_iconst (v := 1) hx hb dL_law_442 (by decide) ?_
                      obtain ⟨r_100, op_101, e_102, hE_103, h⟩ := bw1_some h
                      refine gl_W1 (As := [.ref x0, .int 3, .int 3, .int 1]) (rest := []) (wc := wX cI cJ x0 x1 x2 x3 x4 x5 x6 x7 x8 x9 g_90 rm_96 op rc ec su pe qt rs rn cs_71 cn_72 lc_73 hc_74 lg_75 hg_76) (w1 := wX cI cJ x0 x1 x2 x3 x4 x5 x6 x7 x8 x9 g_90 rm_96 op_101 rc ec su pe qt rs rn cs_71 cn_72 lc_73 hc_74 lg_75 hg_76) (wr := [(p2, .inl (cI, 12, .inl pr)), (p3, .inl (cI, 4, .inl st))]) ⟨hx, hb, hml, hown, hts⟩ (c_L_clash l hst D cI cJ x0 x1 x2 x3 x4 x5 x6 x7 x8 x9 _ g_90 rm_96 op rc ec su pe qt rs rn cs_71 cn_72 lc_73 hc_74 lg_75 hg_76 3 3 1 r_100 op_101 e_102 hE_103) (vx_cwSW 4 hts gL_law_L_clash rfl rfl rfl (by decide +kernel) ⟨Nat.le_of_ble_eq_true rfl, Nat.le_of_ble_eq_true rfl⟩) hK hP hD hS hA hT [0, 1, 2, 3, 4, 5, 6, 7, 8, 9] [10, 11] rfl rfl (by decide) (by decide) rfl rfl rfl hl.1 rfl (lv_room (Nat.le_of_ble_eq_true rfl)) dL_law_443 ⟨show (((((((cells + 1) + 1) + 1) + 1) + 1) + 1)) + 1 ≤ 600130 by omega, show (((((((slots + 6) + 6) + 6) + 6) + 6) + 6)) + 6 ≤ 7301080 by omega⟩ (fun H locs hP hD hS => ?_)
                      replace hP := hP.sub (ws' := wX cI cJ x0 x1 x2 x3 x4 x5 x6 x7 x8 x9 g_90 rm_96 op_101 rc ec su pe qt rs rn cs_71 cn_72 lc_73 hc_74 lg_75 hg_76 ++ [(p2, .inl (cI, 12, .inl pr)), (p3, .inl (cI, 4, .inl st))]) [2, 3, 4, 5, 6, 7, 8, 9, 10, 11, 0, 1] rfl
                      replace hD := hD.sub (ws' := wX cI cJ x0 x1 x2 x3 x4 x5 x6 x7 x8 x9 g_90 rm_96 op_101 rc ec su pe qt rs rn cs_71 cn_72 lc_73 hc_74 lg_75 hg_76 ++ [(p2, .inl (cI, 12, .inl pr)), (p3, .inl (cI, 4, .inl st))]) [2, 3, 4, 5, 6, 7, 8, 9, 10, 11, 0, 1] (by decide) rfl
                      refine lv_bipush (v := (-3)) hx hb dL_law_446 (by decide) ?_
                      refine lv_icmp_ne (tgt := 455) hx hb dL_law_448 (by decide) (fun c_104 => ?_) (fun c_104 => ?_)
                      · replace h := (if_neg c_104).symm.trans h
                        refine lv_iconst (v := 0) hx hb dL_law_455 (by decide) ?_
                        cases h
                      · replace h := (if_pos c_104).symm.trans h
                        refine lv_iconst (v := 1) hx hb dL_law_451 (by decide) ?_
                        refine lv_goto (tgt := 456) hx hb dL_law_452 (by decide) ?_
                        refine va_forget hS.2.2 ?_
                        refine W.widen (k := 600130) (n := 7301080) (by omega) (by omega) ?_
                        exact lw_ret hx hb hr hlocks dL_law_456
  · replace h := (if_neg c_1).symm.trans h
    refine lv_aload_n hx hb dL_law_39 rfl (lv_at hl 4 rfl) ?_
    refine lv_iconst (v := 2) hx hb dL_law_40 (by decide) ?_
    refine lv_iload hx hb dL_law_41 (lv_at hl 0 rfl) ?_
    refine lv_imul hx hb dL_law_43 ?_
    obtain ⟨r_105, e_106, h⟩ := bnd1_some h
    refine gl_C (As := [.ref b, .int (2 * v4)]) (rest := []) ⟨hx, hb, hml, hown, hts⟩ (c_L_cell l b L xs _ (2 * v4) r_105 e_106) (va_cwS 2 hts gL_law_L_cell rfl rfl rfl (by decide +kernel) ⟨Nat.le_of_ble_eq_true rfl, Nat.le_of_ble_eq_true rfl⟩) hX hbl hbA hP hD hS hA rfl rfl hl.1 rfl (lv_room (Nat.le_of_ble_eq_true rfl)) dL_law_44 ⟨show (cells) + 0 ≤ 600130 by omega, show (slots) + 0 ≤ 7301080 by omega⟩ (fun H locs hP hD hS => ?_)
    refine lv_istore (lv' := [(5, .int r_105), (4, .int v4), (3, .ref p3), (2, .ref p2), (1, .ref x0), (0, .ref b)]) hx hb dL_law_47 hl (by decide) rfl (fun ls hl => ?_)
    refine lv_aload_n hx hb dL_law_49 rfl (lv_at hl 5 rfl) ?_
    refine lv_iconst (v := 2) hx hb dL_law_50 (by decide) ?_
    refine lv_iload hx hb dL_law_51 (lv_at hl 1 rfl) ?_
    refine lv_imul hx hb dL_law_53 ?_
    refine lv_iconst (v := 1) hx hb dL_law_54 (by decide) ?_
    refine lv_iadd hx hb dL_law_55 ?_
    obtain ⟨r_107, e_108, h⟩ := bnd1_some h
    refine gl_C (As := [.ref b, .int ((2 * v4) + 1)]) (rest := []) ⟨hx, hb, hml, hown, hts⟩ (c_L_cell l b L xs _ ((2 * v4) + 1) r_107 e_108) (va_cwS 2 hts gL_law_L_cell rfl rfl rfl (by decide +kernel) ⟨Nat.le_of_ble_eq_true rfl, Nat.le_of_ble_eq_true rfl⟩) hX hbl hbA hP hD hS hA rfl rfl hl.1 rfl (lv_room (Nat.le_of_ble_eq_true rfl)) dL_law_56 ⟨show (cells) + 0 ≤ 600130 by omega, show (slots) + 0 ≤ 7301080 by omega⟩ (fun H locs hP hD hS => ?_)
    refine lv_istore (lv' := [(6, .int r_107), (5, .int r_105), (4, .int v4), (3, .ref p3), (2, .ref p2), (1, .ref x0), (0, .ref b)]) hx hb dL_law_59 hl (by decide) rfl (fun ls hl => ?_)
    refine lv_iload hx hb dL_law_61 (lv_at hl 2 rfl) ?_
    refine lv_iconst (v := 4) hx hb dL_law_63 (by decide) ?_
    refine lv_icmp_ge (tgt := 71) hx hb dL_law_64 (by decide) (fun c_109 => ?_) (fun c_109 => ?_)
    · replace h := (if_pos c_109).symm.trans h
      refine lv_iload hx hb dL_law_71 (lv_at hl 1 rfl) ?_
      refine lv_iconst (v := 3) hx hb dL_law_73 (by decide) ?_
      refine lv_ishr hx hb dL_law_74 ?_
      refine lv_bipush (v := 13) hx hb dL_law_75 (by decide) ?_
      refine gl_Si0 (As := [.int (r_105 >>> (3 &&& 31)), .int 13]) (rest := []) ⟨hx, hb, hml, hown, hts⟩ (c_L_low l D _ (r_105 >>> (3 &&& 31)) 13 (by decide)) (va_cwS 2 hts gL_law_L_low rfl rfl rfl (by decide +kernel) ⟨Nat.le_of_ble_eq_true rfl, Nat.le_of_ble_eq_true rfl⟩) hK hP hD hS hA rfl rfl hl.1 rfl (lv_room (Nat.le_of_ble_eq_true rfl)) dL_law_77 ⟨show (cells) + 0 ≤ 600130 by omega, show (slots) + 0 ≤ 7301080 by omega⟩ (fun H locs hP hD hS => ?_)
      refine lv_istore (lv' := [(7, .int (m_L_low (r_105 >>> (3 &&& 31)) 13)), (6, .int r_107), (5, .int r_105), (4, .int v4), (3, .ref p3), (2, .ref p2), (1, .ref x0), (0, .ref b)]) hx hb dL_law_80 hl (by decide) rfl (fun ls hl => ?_)
      exact ih.2.1 v4 r_105 r_107 (m_L_low (r_105 >>> (3 &&& 31)) 13) g rm op rc ec su pe qt rs rn cs cn lc hc lg hg pr st _ _ _ _ _ (by omega) (by omega) h hP hD hS (lv_sub hl [0, 1, 2, 3, 4, 5, 6, 7] rfl)
    · replace h := (if_neg c_109).symm.trans h
      refine lv_iconst (v := 0) hx hb dL_law_67 (by decide) ?_
      refine lv_goto (tgt := 80) hx hb dL_law_68 (by decide) ?_
      refine lv_istore (lv' := [(7, .int 0), (6, .int r_107), (5, .int r_105), (4, .int v4), (3, .ref p3), (2, .ref p2), (1, .ref x0), (0, .ref b)]) hx hb dL_law_80 hl (by decide) rfl (fun ls hl => ?_)
      exact ih.2.1 v4 r_105 r_107 0 g rm op rc ec su pe qt rs rn cs cn lc hc lg hg pr st _ _ _ _ _ (by omega) (by omega) h hP hD hS (lv_sub hl [0, 1, 2, 3, 4, 5, 6, 7] rfl)
