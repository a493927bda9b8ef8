theorem lz_low (x : Int32) : ∃ j, j < 32 ∧ x &&& 31 = nI j := by
  obtain ⟨n, -, rfl⟩ := wb_of32 x
  exact ⟨n % 2 ^ 5, Nat.mod_lt _ (by decide), fa_mask n 5⟩
set_option maxHeartbeats 4000000 in
set_option maxRecDepth 100000 in
theorem lz_switch {p : Program} {l : Launch} {e : Env} {s : State} {m : MethodId} {below : List Frame} {meth : Method} {c : Code} {Q : State → Prop} {b L : Nat} {xs : Nat → Int32} {D : va_G} {cI cJ : ClassId} {x0 x1 x2 x3 x4 x5 x6 x7 x8 x9 y0 y1 y2 y3 y4 y5 y6 y7 y8 o0 : Nat} {i : Int32} {cells slots : Nat} {H : Heap} {locs : List Loc} {ls : Array Slot} (hx : p.tables.exec = Jvm.exec) (hb : c.code = cL_law) (hml : c.maxLocals = 7) (hown : s.vm.findClass RL = some m.cls) (hts : ∀ w ∈ wsL_law, w.before ([Value.ref b] : List Value).toArray s = true) (hX : va_X b L xs s s.heap) (hbl : b < s.heap.size) (hst : l.stackTraces = false) (hK : va_K D vwCl [(cI, .int), (cJ, .long)] s) (hT : xThrL (lz_A s) s) (hi1 : vp_in (i + 1) L) (hi2 : vp_in (i + 2) L) (hi3 : vp_in (i + 3) L) (hI : lz_I D cI cJ x0 x1 x2 x3 x4 x5 x6 x7 x8 x9 y0 y1 y2 y3 y4 y5 y6 y7 y8 o0 s H locs) (hl : lv_has ls 7 [(4, .int i), (3, .ref o0), (2, .ref y0), (1, .ref x0), (0, .ref b)]) (hf : cells + 1 ≤ room_1.cells ∧ slots + 6 ≤ room_1.slots) {x : Int32}
    (kk : ∀ (H1 : Heap) (locs1 : List Loc) (ls1 : Array Slot), lz_I D cI cJ x0 x1 x2 x3 x4 x5 x6 x7 x8 x9 y0 y1 y2 y3 y4 y5 y6 y7 y8 o0 s H1 locs1 → lv_has ls1 7 [(4, .int i), (3, .ref o0), (2, .ref y0), (1, .ref x0), (0, .ref b)] → W p l e room_1 s m ([Value.ref b] : List Value).toArray below meth c H1 locs1 (cells + 1) (slots + 6) Q (F0 m 1563 ls1 [])) : W p l e room_1 s m ([Value.ref b] : List Value).toArray below meth c H locs cells slots Q (F0 m 39 ls [.int (x &&& 31)]) := by
  obtain ⟨j, hj, ej⟩ := lz_low x
  rw [ej]
  have h32 : j = 0 ∨ j = 1 ∨ j = 2 ∨ j = 3 ∨ j = 4 ∨ j = 5 ∨ j = 6 ∨ j = 7 ∨ j = 8 ∨ j = 9 ∨ j = 10 ∨ j = 11 ∨ j = 12 ∨ j = 13 ∨ j = 14 ∨ j = 15 ∨ j = 16 ∨ j = 17 ∨ j = 18 ∨ j = 19 ∨ j = 20 ∨ j = 21 ∨ j = 22 ∨ j = 23 ∨ j = 24 ∨ j = 25 ∨ j = 26 ∨ j = 27 ∨ j = 28 ∨ j = 29 ∨ j = 30 ∨ j = 31 := by omega
  rcases h32 with rfl | rfl | rfl | rfl | rfl | rfl | rfl | rfl | rfl | rfl | rfl | rfl | rfl | rfl | rfl | rfl | rfl | rfl | rfl | rfl | rfl | rfl | rfl | rfl | rfl | rfl | rfl | rfl | rfl | rfl | rfl | rfl
  · refine lv_tableIn (off := 129) (tgt := 168) hx hb dL_law_39 (by decide +kernel) (by decide +kernel) (by decide +kernel) (by decide) ?_
    exact lz_grant hx hb hml hown hts hX hbl hst hK hT hi1 hi2 hi3 hI hl hf kk
  · refine lv_tableIn (off := 204) (tgt := 243) hx hb dL_law_39 (by decide +kernel) (by decide +kernel) (by decide +kernel) (by decide) ?_
    exact lz_revoke hx hb hml hown hts hX hbl hst hK hT hi1 hi2 hi3 hI hl hf kk
  · refine lv_tableIn (off := 279) (tgt := 318) hx hb dL_law_39 (by decide +kernel) (by decide +kernel) (by decide +kernel) (by decide) ?_
    exact lz_setGrants hx hb hml hown hts hX hbl hst hK hT hi1 hi2 hi3 hI hl hf kk
  · refine lv_tableIn (off := 347) (tgt := 386) hx hb dL_law_39 (by decide +kernel) (by decide +kernel) (by decide +kernel) (by decide) ?_
    by_cases h3 : (xs (Int32.toNatClampNeg (i + 3))) = 0
    · exact lz_setConflict0 hx hb hml hown hts hX hbl hst hK hT h3 hi1 hi2 hi3 hI hl hf kk
    · exact lz_setConflict1 hx hb hml hown hts hX hbl hst hK hT h3 hi1 hi2 hi3 hI hl hf kk
  · refine lv_tableIn (off := 450) (tgt := 489) hx hb dL_law_39 (by decide +kernel) (by decide +kernel) (by decide +kernel) (by decide) ?_
    exact lz_setCosts hx hb hml hown hts hX hbl hst hK hT hi1 hi2 hi3 hI hl hf kk
  · refine lv_tableIn (off := 498) (tgt := 537) hx hb dL_law_39 (by decide +kernel) (by decide +kernel) (by decide +kernel) (by decide) ?_
    exact lz_setSupport hx hb hml hown hts hX hbl hst hK hT hi1 hi2 hi3 hI hl hf kk
  · refine lv_tableIn (off := 554) (tgt := 593) hx hb dL_law_39 (by decide +kernel) (by decide +kernel) (by decide +kernel) (by decide) ?_
    exact lz_setPeriod hx hb hml hown hts hX hbl hst hK hT hi1 hi2 hi3 hI hl hf kk
  · refine lv_tableIn (off := 610) (tgt := 649) hx hb dL_law_39 (by decide +kernel) (by decide +kernel) (by decide +kernel) (by decide) ?_
    exact lz_review hx hb hml hown hts hX hbl hst hK hT hi1 hi2 hi3 hI hl hf kk
  · refine lv_tableIn (off := 678) (tgt := 717) hx hb dL_law_39 (by decide +kernel) (by decide +kernel) (by decide +kernel) (by decide) ?_
    exact lz_nextQuarter hx hb hml hown hts hX hbl hst hK hT hi1 hi2 hi3 hI hl hf kk
  · refine lv_tableIn (off := 722) (tgt := 761) hx hb dL_law_39 (by decide +kernel) (by decide +kernel) (by decide +kernel) (by decide) ?_
    exact lz_mineGreedily hx hb hml hown hts hX hbl hst hK hT hi1 hi2 hi3 hI hl hf kk
  · refine lv_tableIn (off := 735) (tgt := 774) hx hb dL_law_39 (by decide +kernel) (by decide +kernel) (by decide +kernel) (by decide) ?_
    exact lz_mineBest hx hb hml hown hts hX hbl hst hK hT hi1 hi2 hi3 hI hl hf kk
  · refine lv_tableIn (off := 779) (tgt := 818) hx hb dL_law_39 (by decide +kernel) (by decide +kernel) (by decide +kernel) (by decide) ?_
    exact lz_dropRoles hx hb hml hown hts hX hbl hst hK hT hi1 hi2 hi3 hI hl hf kk
  · refine lv_tableIn (off := 792) (tgt := 831) hx hb dL_law_39 (by decide +kernel) (by decide +kernel) (by decide +kernel) (by decide) ?_
    exact lz_permissions hx hb hml hown hts hX hbl hst hK hT hi1 hi2 hi3 hI hl hf kk
  · refine lv_tableIn (off := 848) (tgt := 887) hx hb dL_law_39 (by decide +kernel) (by decide +kernel) (by decide +kernel) (by decide) ?_
    exact lz_grants hx hb hml hown hts hX hbl hst hK hT hi1 hi2 hi3 hI hl hf kk
  · refine lv_tableIn (off := 861) (tgt := 900) hx hb dL_law_39 (by decide +kernel) (by decide +kernel) (by decide +kernel) (by decide) ?_
    exact lz_violations hx hb hml hown hts hX hbl hst hK hT hi1 hi2 hi3 hI hl hf kk
  · refine lv_tableIn (off := 917) (tgt := 956) hx hb dL_law_39 (by decide +kernel) (by decide +kernel) (by decide +kernel) (by decide) ?_
    exact lz_quarter hx hb hml hown hts hX hbl hst hK hT hi1 hi2 hi3 hI hl hf kk
  · refine lv_tableIn (off := 930) (tgt := 969) hx hb dL_law_39 (by decide +kernel) (by decide +kernel) (by decide +kernel) (by decide) ?_
    exact lz_due hx hb hml hown hts hX hbl hst hK hT hi1 hi2 hi3 hI hl hf kk
  · refine lv_tableIn (off := 986) (tgt := 1025) hx hb dL_law_39 (by decide +kernel) (by decide +kernel) (by decide +kernel) (by decide) ?_
    exact lz_candidates hx hb hml hown hts hX hbl hst hK hT hi1 hi2 hi3 hI hl hf kk
  · refine lv_tableIn (off := 999) (tgt := 1038) hx hb dL_law_39 (by decide +kernel) (by decide +kernel) (by decide +kernel) (by decide) ?_
    exact lz_candidate hx hb hml hown hts hX hbl hst hK hT hi1 hi2 hi3 hI hl hf kk
  · refine lv_tableIn (off := 1055) (tgt := 1094) hx hb dL_law_39 (by decide +kernel) (by decide +kernel) (by decide +kernel) (by decide) ?_
    exact lz_holders hx hb hml hown hts hX hbl hst hK hT hi1 hi2 hi3 hI hl hf kk
  · refine lv_tableIn (off := 1111) (tgt := 1150) hx hb dL_law_39 (by decide +kernel) (by decide +kernel) (by decide +kernel) (by decide) ?_
    exact lz_costOf hx hb hml hown hts hX hbl hst hK hT hi1 hi2 hi3 hI hl hf kk
  · refine lv_tableIn (off := 1167) (tgt := 1206) hx hb dL_law_39 (by decide +kernel) (by decide +kernel) (by decide +kernel) (by decide) ?_
    exact lz_leastCost hx hb hml hown hts hX hbl hst hK hT hi1 hi2 hi3 hI hl hf kk
  · refine lv_tableIn (off := 1211) (tgt := 1250) hx hb dL_law_39 (by decide +kernel) (by decide +kernel) (by decide +kernel) (by decide) ?_
    exact lz_roles hx hb hml hown hts hX hbl hst hK hT hi1 hi2 hi3 hI hl hf kk
  · refine lv_tableIn (off := 1224) (tgt := 1263) hx hb dL_law_39 (by decide +kernel) (by decide +kernel) (by decide +kernel) (by decide) ?_
    exact lz_role hx hb hml hown hts hX hbl hst hK hT hi1 hi2 hi3 hI hl hf kk
  · refine lv_tableIn (off := 1280) (tgt := 1319) hx hb dL_law_39 (by decide +kernel) (by decide +kernel) (by decide +kernel) (by decide) ?_
    exact lz_rolesOf hx hb hml hown hts hX hbl hst hK hT hi1 hi2 hi3 hI hl hf kk
  · refine lv_tableIn (off := 1336) (tgt := 1375) hx hb dL_law_39 (by decide +kernel) (by decide +kernel) (by decide +kernel) (by decide) ?_
    exact lz_byRoles hx hb hml hown hts hX hbl hst hK hT hi1 hi2 hi3 hI hl hf kk
  · refine lv_tableIn (off := 1392) (tgt := 1431) hx hb dL_law_39 (by decide +kernel) (by decide +kernel) (by decide +kernel) (by decide) ?_
    exact lz_exceptions hx hb hml hown hts hX hbl hst hK hT hi1 hi2 hi3 hI hl hf kk
  · refine lv_tableIn (off := 1448) (tgt := 1487) hx hb dL_law_39 (by decide +kernel) (by decide +kernel) (by decide +kernel) (by decide) ?_
    exact lz_cost hx hb hml hown hts hX hbl hst hK hT hi1 hi2 hi3 hI hl hf kk
  · refine lv_tableIn (off := 1461) (tgt := 1500) hx hb dL_law_39 (by decide +kernel) (by decide +kernel) (by decide +kernel) (by decide) ?_
    exact lz_isRisky hx hb hml hown hts hX hbl hst hK hT hi1 hi2 hi3 hI hl hf kk
  · refine lv_tableOut (tgt := 1563) hx hb dL_law_39 (by decide +kernel) (by decide) ?_
    refine W.widen (k := cells + 1) (n := slots + 6) (Nat.le_succ _) (Nat.le_add_right _ _) ?_
    exact kk _ _ _ hI hl
  · refine lv_tableOut (tgt := 1563) hx hb dL_law_39 (by decide +kernel) (by decide) ?_
    refine W.widen (k := cells + 1) (n := slots + 6) (Nat.le_succ _) (Nat.le_add_right _ _) ?_
    exact kk _ _ _ hI hl
  · refine lv_tableOut (tgt := 1563) hx hb dL_law_39 (by decide +kernel) (by decide) ?_
    refine W.widen (k := cells + 1) (n := slots + 6) (Nat.le_succ _) (Nat.le_add_right _ _) ?_
    exact kk _ _ _ hI hl
theorem lz_more {L j : Nat} (hL : L ≤ 2048) (hj : 4 * j ≤ L) : nI L - 4 < nI (4 * j) ↔ L < 4 * j + 4 := by
  have h4 : (4 : Int32).toInt = 4 := by decide +kernel
  have hl : (nI L).toInt = L := nI_toInt (by omega)
  have hk : (nI (4 * j)).toInt = (4 * j : Nat) := nI_toInt (by omega)
  rw [fa_lt, fb_subI (by rw [hl, h4]; omega) (by rw [hl, h4]; omega), hl, h4, hk]
  omega
theorem lz_ini {L k : Nat} (hL : L ≤ 2048) {a : Int32} (e : a = nI k) (h : k < L) : vp_in a L := by rw [e]; exact vp_in_nI h (by omega)
set_option maxHeartbeats 4000000 in
set_option maxRecDepth 100000 in
theorem lz_loop {p : Program} {l : Launch} {e : Env} {s : State} {m : MethodId} {below : List Frame} {meth : Method} {c : Code} {b L : Nat} {xs : Nat → Int32} {D : va_G} {cI cJ : ClassId} {x0 x1 x2 x3 x4 x5 x6 x7 x8 x9 y0 y1 y2 y3 y4 y5 y6 y7 y8 o0 : Nat} (hL : L ≤ 2048) (hr : meth.sig.returnType = ret) (hlocks : meth.locks = false) (hx : p.tables.exec = Jvm.exec) (hb : c.code = cL_law) (hml : c.maxLocals = 7) (hown : s.vm.findClass RL = some m.cls) (hts : ∀ w ∈ wsL_law, w.before ([Value.ref b] : List Value).toArray s = true) (hX : va_X b L xs s s.heap) (hbl : b < s.heap.size) (hst : l.stackTraces = false) (hK : va_K D vwCl [(cI, .int), (cJ, .long)] s) (hT : xThrL (lz_A s) s) : ∀ (d j : Nat) (H : Heap) (locs : List Loc) (ls : Array Slot), 4 * (j + d) ≤ L → L < 4 * (j + d) + 4 → lz_I D cI cJ x0 x1 x2 x3 x4 x5 x6 x7 x8 x9 y0 y1 y2 y3 y4 y5 y6 y7 y8 o0 s H locs → lv_has ls 7 [(4, .int (nI (4 * j))), (3, .ref o0), (2, .ref y0), (1, .ref x0), (0, .ref b)] → W p l e room_1 s m ([Value.ref b] : List Value).toArray below meth c H locs (20 + j) (6187 + 6 * j) (lw_Z below #[Value.ref b] s) (F0 m 23 ls []) := by
  intro d
  induction d with
  | zero =>
    intro j H locs ls h1 h2 hI hl
    have hbA : ¬ lz_A s b := fun h9 => absurd hbl (Nat.not_lt.mpr h9)
    have hS : va_S (lz_A s) s.heap H locs := by
      obtain ⟨_, _, _, _, _, _, _, _, _, _, _, _, _, _, _, _, _, _, _, _, _, _, _, _, q, R, -, -, -, -, -, -, -, -, hS⟩ := hI
      exact hS
    refine lv_iload hx hb dL_law_23 (lv_at hl 0 rfl) ?_
    refine lv_aload_n hx hb dL_law_25 rfl (lv_at hl 4 rfl) ?_
    refine va_slen hx hb hX hbl hbA hS dL_law_26 ?_
    refine lv_iconst (v := 4) hx hb dL_law_27 (by decide) ?_
    refine lv_isub hx hb dL_law_28 ?_
    refine lv_icmp_gt (tgt := 1569) hx hb dL_law_29 (by decide) (fun c8 => ?_) (fun c8 => ?_)
    · refine lv_iconst (v := 1) hx hb dL_law_1569 (by decide) ?_
      refine va_forget hS.2.2 ?_
      refine W.widen (k := 1070) (n := 14535) (by omega) (by omega) ?_
      exact lw_ret hx hb hr hlocks dL_law_1570
    · exact absurd ((lz_more hL (by omega)).mpr (by omega)) c8
  | succ d ih =>
    intro j H locs ls h1 h2 hI hl
    have hbA : ¬ lz_A s b := fun h9 => absurd hbl (Nat.not_lt.mpr h9)
    have hS : va_S (lz_A s) s.heap H locs := by
      obtain ⟨_, _, _, _, _, _, _, _, _, _, _, _, _, _, _, _, _, _, _, _, _, _, _, _, q, R, -, -, -, -, -, -, -, -, hS⟩ := hI
      exact hS
    refine lv_iload hx hb dL_law_23 (lv_at hl 0 rfl) ?_
    refine lv_aload_n hx hb dL_law_25 rfl (lv_at hl 4 rfl) ?_
    refine va_slen hx hb hX hbl hbA hS dL_law_26 ?_
    refine lv_iconst (v := 4) hx hb dL_law_27 (by decide) ?_
    refine lv_isub hx hb dL_law_28 ?_
    refine lv_icmp_gt (tgt := 1569) hx hb dL_law_29 (by decide) (fun c8 => ?_) (fun c8 => ?_)
    · exact absurd ((lz_more hL (by omega)).mp c8) (by omega)
    · refine lv_aload_n hx hb dL_law_32 rfl (lv_at hl 4 rfl) ?_
      refine lv_iload hx hb dL_law_33 (lv_at hl 0 rfl) ?_
      refine va_sld hx hb hX hbl hbA hS (lz_ini hL rfl (by omega)) dL_law_35 ?_
      refine lv_bipush (v := 31) hx hb dL_law_36 (by decide) ?_
      refine lv_iand hx hb dL_law_38 ?_
      have hf : 20 + j + 1 ≤ room_1.cells ∧ 6187 + 6 * j + 6 ≤ room_1.slots := by
        have r1 : room_1.cells = 1070 := rfl
        have r2 : room_1.slots = 14535 := rfl
        rw [r1, r2]
        omega
      refine lz_switch hx hb hml hown hts hX hbl hst hK hT (lz_ini (k := 4 * j + 1) hL (nI_1 _) (by omega)) (lz_ini (k := 4 * j + 2) hL (nI_add (4 * j) 2) (by omega)) (lz_ini (k := 4 * j + 3) hL (nI_add (4 * j) 3) (by omega)) hI hl hf (fun H1 locs1 ls1 hI1 hl1 => ?_)
      refine lv_iinc (v := nI (4 * j) + 4) (lv' := [(4, .int (nI (4 * j) + 4)), (3, .ref o0), (2, .ref y0), (1, .ref x0), (0, .ref b)]) hx hb dL_law_1563 hl1 (k := 0) rfl rfl (by decide) rfl (fun ls hl => ?_)
      refine lv_goto (tgt := 23) hx hb dL_law_1566 (by decide) ?_
      have e4 : nI (4 * j) + 4 = nI (4 * (j + 1)) := (nI_add (4 * j) 4).trans (congrArg nI (by omega))
      rw [e4] at hl
      have hn := ih (j + 1) H1 locs1 ls (by omega) (by omega) hI1 hl
      rw [show 20 + (j + 1) = 20 + j + 1 by omega, show 6187 + 6 * (j + 1) = 6187 + 6 * j + 6 by omega] at hn
      exact hn
