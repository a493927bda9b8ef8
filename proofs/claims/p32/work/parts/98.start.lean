theorem ls_str {args : Array Value} {s : State} {own tx : String} {k : Nat} (h1 : (Cond.stringRef own k tx).before args s = true) (h2 : (Cond.exactly (.string own k) "java/lang/String").before args s = true) : ∃ sa, vk_R own k tx sa s := by
  obtain ⟨a, c, cell, k9, ha, -⟩ := Cond.exactly_spec h2
  exact ⟨a, vk_R.of h1 ha⟩
set_option maxHeartbeats 4000000 in
set_option maxRecDepth 100000 in
theorem ls_throws {args : Array Value} {s : State} (hw : ∀ w ∈ tables_1, w.before args s = true) (hgv : (Jvm.Cond.and given_1 narrow_1).before args s = true) : xThrL (lz_A s) s := by
  have hs := flat_of_before _ hgv
  have hA : ∀ a : Nat, a < s.heap.size → ¬ lz_A s a := fun a h h2 => absurd h (Nat.not_lt.mpr h2)
  have tw : ∀ {w : Cond} (i : Nat), tables_1[i]? = some w → w.before args s = true := fun i h => hw _ (List.mem_of_getElem? h)
  exact ⟨⟨⟨va_Nw.of rfl (tw 146 (by decide +kernel)), va_Nw.of rfl (tw 217 (by decide +kernel)), va_Nw.of rfl (tw 257 (by decide +kernel)), va_Nw.of rfl (tw 148 (by decide +kernel)), va_Nw.of rfl (tw 150 (by decide +kernel)), va_Nw.of rfl (tw 152 (by decide +kernel))⟩, ⟨vx_Zqof (tw 171 (by decide +kernel)) (tw 2 (by decide +kernel)) (hs _ (List.mem_of_getElem? (i := 4) (by decide +kernel))) hA, vx_Zqof (tw 173 (by decide +kernel)) (tw 2 (by decide +kernel)) (hs _ (List.mem_of_getElem? (i := 5) (by decide +kernel))) hA⟩, ls_str (tw 254 (by decide +kernel)) (hs _ (List.mem_of_getElem? (i := 124) (by decide +kernel))), ls_str (tw 185 (by decide +kernel)) (hs _ (List.mem_of_getElem? (i := 15) (by decide +kernel))), ls_str (tw 224 (by decide +kernel)) (hs _ (List.mem_of_getElem? (i := 31) (by decide +kernel))), ls_str (tw 244 (by decide +kernel)) (hs _ (List.mem_of_getElem? (i := 64) (by decide +kernel))), ls_str (tw 245 (by decide +kernel)) (hs _ (List.mem_of_getElem? (i := 88) (by decide +kernel))), ls_str (tw 404 (by decide +kernel)) (hs _ (List.mem_of_getElem? (i := 330) (by decide +kernel))), ls_str (tw 412 (by decide +kernel)) (hs _ (List.mem_of_getElem? (i := 366) (by decide +kernel))), ls_str (tw 417 (by decide +kernel)) (hs _ (List.mem_of_getElem? (i := 406) (by decide +kernel))), ls_str (tw 264 (by decide +kernel)) (hs _ (List.mem_of_getElem? (i := 158) (by decide +kernel))), ls_str (tw 425 (by decide +kernel)) (hs _ (List.mem_of_getElem? (i := 446) (by decide +kernel))), ls_str (tw 278 (by decide +kernel)) (hs _ (List.mem_of_getElem? (i := 196) (by decide +kernel))), ls_str (tw 359 (by decide +kernel)) (hs _ (List.mem_of_getElem? (i := 300) (by decide +kernel))), ls_str (tw 279 (by decide +kernel)) (hs _ (List.mem_of_getElem? (i := 229) (by decide +kernel))), ls_str (tw 345 (by decide +kernel)) (hs _ (List.mem_of_getElem? (i := 276) (by decide +kernel)))⟩, va_Nc.of (hs _ (List.mem_of_getElem? (i := 7) (by decide +kernel))), va_Nc.of (hs _ (List.mem_of_getElem? (i := 8) (by decide +kernel))), va_Nc.of (hs _ (List.mem_of_getElem? (i := 14) (by decide +kernel)))⟩
set_option maxHeartbeats 4000000 in
set_option maxRecDepth 100000 in
theorem whole_start {p : Program} {e : Env} {s : State} {m : MethodId} {below : List Frame} {meth : Method} {c : Code} (l : Launch) (hflags : l.flags = flags0) {b L : Nat} {xs : Nat → Int32} (hL : L ≤ 260) (C0 : lw_At p s m meth c b L xs) : W p l e room_1 s m #[Value.ref b] below meth c s.heap [] 0 0 (lw_Z below #[Value.ref b] s) (entryFrame m ([Value.ref b] : List Value).toArray 10) := by
  obtain ⟨hx, hb, hr, hml, hown0, hts0, hX, hbl, hlocks, hgv⟩ := id C0
  have hown : s.vm.findClass RL = some m.cls := hown0
  have hts : ∀ w ∈ wsL_law, w.before #[Value.ref b] s = true := fun w h => hts0 w (wsL_law_in w h)
  have hw : ∀ w ∈ tables_1, w.before #[Value.ref b] s = true := fun w h => hts0 w (List.mem_append_right _ h)
  have tw : ∀ {w : Cond} (i : Nat), tables_1[i]? = some w → w.before #[Value.ref b] s = true := fun i h => hw _ (List.mem_of_getElem? h)
  have hst : l.stackTraces = false := by
    unfold Launch.stackTraces
    rw [hflags]
    decide +kernel
  have hT := ls_throws hw hgv
  have hA : ∀ q : Nat, s.heap.size ≤ q → lz_A s q := fun _ h => h
  obtain ⟨c0, iS0, hKn0⟩ := u_known (C := RX0) (T := TX0) (N := 16) (n := 16) hts0 inX0 (tw 12 (by decide +kernel))
  obtain ⟨D, hKc⟩ : ∃ D : va_G, ∀ (k : Nat) (q : vw_C), vwCl[k]? = some q → u_Kn s q.1 q.2.1 q.2.2 (D.1 k) (D.2 k) := by
    refine ⟨(fun _ => c0, fun _ => iS0), ?_⟩
    intro k q hq
    match k, hq with
    | 0, hq => cases hq; exact hKn0
    | k + 1, hq => simp [vwCl] at hq
  have hS : va_S (lz_A s) s.heap s.heap [] := va_S.rf
  have hK : va_K D vwCl [] s := ⟨hKc, fun k q h => by simp at h⟩
  have hP : va_P D vwCl [] s.heap := fun k q h => by simp at h
  have hD : va_D (lz_A s) [] := ⟨fun i j p q h => by simp at h, fun k q h => by simp at h⟩
  have hl := lv_entry ([.ref b]) (n := 10) (Nat.le_of_ble_eq_true rfl)
  rw [lg_entry_eq]
  generalize (lg_sl ([.ref b]) ++ List.replicate (10 - (lg_sl ([.ref b])).length) Slot.unset).toArray = ls at hl ⊢
  have hl : lv_has ls 10 [(0, .ref b)] := hl
  refine va_new (ci := 0) (fs := [.null, .null, .null, .int 0, .int 0, .int 0, .int 0, .int 0, .null, .int 0, .null, .int 0, .null, .null, .null, .null]) (C := RX0) (T := TX0) (N := 16) hx hb hts0 inX0 tyX0 tyX0_ok hown (tw 11 (by decide +kernel)) (tw 12 (by decide +kernel)) (tw 1 (by decide +kernel)) hK hP hD hS hA rfl (fun j hj => by rcases (show j = 0 ∨ j = 1 ∨ j = 2 ∨ j = 3 ∨ j = 4 ∨ j = 5 ∨ j = 6 ∨ j = 7 ∨ j = 8 ∨ j = 9 ∨ j = 10 ∨ j = 11 ∨ j = 12 ∨ j = 13 ∨ j = 14 ∨ j = 15 by omega) with rfl|rfl|rfl|rfl|rfl|rfl|rfl|rfl|rfl|rfl|rfl|rfl|rfl|rfl|rfl|rfl <;> rfl) (Nat.le_of_ble_eq_true rfl) (Nat.le_of_ble_eq_true rfl) dL_law_0 (fun x0 H hP hD hS => ?_)
  have hP : va_P D vwCl [(x0, .inr (0, [.null, .null, .null, .int 0, .int 0, .int 0, .int 0, .int 0, .null, .int 0, .null, .int 0, .null, .null, .null, .null]))] H := hP
  have hD : va_D (lz_A s) [(x0, .inr (0, [.null, .null, .null, .int 0, .int 0, .int 0, .int 0, .int 0, .null, .int 0, .null, .int 0, .null, .null, .null, .null]))] := hD
  refine W.widen (k := 1) (n := 16) (Nat.le_refl _) (Nat.le_refl _) ?_
  refine lv_dup hx hb dL_law_3 rfl ?_
  have hPc := hP.sub (ws' := [(x0, .inr (0, [.null, .null, .null, .int 0, .int 0, .int 0, .int 0, .int 0, .null, .int 0, .null, .int 0, .null, .null, .null, .null]))]) [0] rfl
  have hDc := hD.sub (ws' := [(x0, .inr (0, [.null, .null, .null, .int 0, .int 0, .int 0, .int 0, .int 0, .null, .int 0, .null, .int 0, .null, .null, .null, .null]))]) [0] (by decide) rfl
  have hKc := hK.sub (tys' := []) [] rfl
  have hFc := va_free (wc := [(x0, .inr (0, [.null, .null, .null, .int 0, .int 0, .int 0, .int 0, .int 0, .null, .int 0, .null, .int 0, .null, .null, .null, .null]))]) hD hS hA [0] rfl
  refine va_callv (va_runI (As := []) (rest := [.ref x0]) ⟨hx, hb, hml, hown, hts⟩ (c_X0_init l D x0 H.size) (cwI 0 hts gL_law_X0_init rfl rfl rfl (tw 1 (by decide +kernel)) (tw 13 (by decide +kernel)) (tw 14 (by decide +kernel)) rfl (by decide +kernel) ⟨Nat.le_of_ble_eq_true rfl, Nat.le_of_ble_eq_true rfl⟩) ⟨bx_blind, fun U hU hW => ⟨rfl, by rw [hU], by rw [hU]; exact hPc, va_K.moved hW.alike hKc, hDc.weaken (fun _ _ _ _ => trivial)⟩⟩ rfl rfl hl.1 rfl (lv_room (Nat.le_of_ble_eq_true rfl)) dL_law_4 ⟨Nat.le_of_ble_eq_true rfl, Nat.le_of_ble_eq_true rfl⟩) hS (fun q _ h => hFc q h) hFc (fun u t H1 locs ht hvm h5 hB hz1 hk1 hS => ?_)
  obtain ⟨cI, cJ, x1, x2, x3, x4, x5, x6, x7, x8, x9, hP1, hK1, hD1⟩ := hB
  rw [ht] at hP1
  have hK1 := va_K.moved hvm.symm hK1
  obtain ⟨hP, hD⟩ := va_join (wr := []) (w1 := wX cI cJ x0 x1 x2 x3 x4 x5 x6 x7 x8 x9 (fun _ => 0) (fun _ => 0) (fun _ => 0) 5 2 1 4 0 (fun _ => 0) 0 (fun _ => 0) 0 (fun _ => 0) (fun _ => 0) (fun _ => 0) (fun _ => 0)) hP hD [0] [] rfl rfl (by decide) (by decide) hk1 hFc hP1 hD1
  have hK := (hK.sub (tys' := []) [] rfl).app hK1
  have hK : va_K D vwCl [(cI, .int), (cJ, .long)] s := hK
  clear hPc hDc hKc hFc hP1 hD1 hK1 hk1
  generalize H1 = H at hP hS ⊢
  have hP : va_P D vwCl (wX cI cJ x0 x1 x2 x3 x4 x5 x6 x7 x8 x9 (fun _ => 0) (fun _ => 0) (fun _ => 0) 5 2 1 4 0 (fun _ => 0) 0 (fun _ => 0) 0 (fun _ => 0) (fun _ => 0) (fun _ => 0) (fun _ => 0)) H := hP
  have hD : va_D (lz_A s) (wX cI cJ x0 x1 x2 x3 x4 x5 x6 x7 x8 x9 (fun _ => 0) (fun _ => 0) (fun _ => 0) 5 2 1 4 0 (fun _ => 0) 0 (fun _ => 0) 0 (fun _ => 0) (fun _ => 0) (fun _ => 0) (fun _ => 0)) := hD
  refine W.widen (k := 10) (n := 1182) (Nat.le_refl _) (Nat.le_refl _) ?_
  refine lv_astore_n (lv' := [(1, .ref x0), (0, .ref b)]) hx hb dL_law_7 rfl hl (by decide) rfl (fun ls hl => ?_)
  refine lv_bipush (v := 12) hx hb dL_law_8 (by decide) ?_
  refine va_newa (atype := .int) (ty := .int) (n := 12) (N' := 12) (a0 := (12, .inl (fun _ => 0))) hx hb (tw 68 (by decide +kernel)) rfl hK hP hD hS hA (fun _ => rfl) (by decide) rfl (by decide) (Nat.le_of_ble_eq_true rfl) (Nat.le_of_ble_eq_true rfl) dL_law_10 (fun p2 c9 H hK hP hD hS => ?_)
  have hcI : cI = c9 := ck_int hK 0 2 rfl rfl
  subst hcI
  have hK := hK.sub (tys' := [(cI, .int), (cJ, .long)]) [0, 1] rfl
  have hP : va_P D vwCl (wX cI cJ x0 x1 x2 x3 x4 x5 x6 x7 x8 x9 (fun _ => 0) (fun _ => 0) (fun _ => 0) 5 2 1 4 0 (fun _ => 0) 0 (fun _ => 0) 0 (fun _ => 0) (fun _ => 0) (fun _ => 0) (fun _ => 0) ++ [(p2, .inl (cI, 12, .inl (fun _ => 0)))]) H := hP
  have hD : va_D (lz_A s) (wX cI cJ x0 x1 x2 x3 x4 x5 x6 x7 x8 x9 (fun _ => 0) (fun _ => 0) (fun _ => 0) 5 2 1 4 0 (fun _ => 0) 0 (fun _ => 0) 0 (fun _ => 0) (fun _ => 0) (fun _ => 0) (fun _ => 0) ++ [(p2, .inl (cI, 12, .inl (fun _ => 0)))]) := hD
  refine W.widen (k := 11) (n := 1194) (Nat.le_refl _) (Nat.le_refl _) ?_
  refine lv_astore_n (lv' := [(2, .ref p2), (1, .ref x0), (0, .ref b)]) hx hb dL_law_12 rfl hl (by decide) rfl (fun ls hl => ?_)
  refine lv_iconst (v := 4) hx hb dL_law_13 (by decide) ?_
  refine va_newa (atype := .int) (ty := .int) (n := 4) (N' := 4) (a0 := (4, .inl (fun _ => 0))) hx hb (tw 68 (by decide +kernel)) rfl hK hP hD hS hA (fun _ => rfl) (by decide) rfl (by decide) (Nat.le_of_ble_eq_true rfl) (Nat.le_of_ble_eq_true rfl) dL_law_14 (fun p3 c9 H hK hP hD hS => ?_)
  have hcI : cI = c9 := ck_int hK 0 2 rfl rfl
  subst hcI
  have hK := hK.sub (tys' := [(cI, .int), (cJ, .long)]) [0, 1] rfl
  have hP : va_P D vwCl (wX cI cJ x0 x1 x2 x3 x4 x5 x6 x7 x8 x9 (fun _ => 0) (fun _ => 0) (fun _ => 0) 5 2 1 4 0 (fun _ => 0) 0 (fun _ => 0) 0 (fun _ => 0) (fun _ => 0) (fun _ => 0) (fun _ => 0) ++ [(p2, .inl (cI, 12, .inl (fun _ => 0))), (p3, .inl (cI, 4, .inl (fun _ => 0)))]) H := hP
  have hD : va_D (lz_A s) (wX cI cJ x0 x1 x2 x3 x4 x5 x6 x7 x8 x9 (fun _ => 0) (fun _ => 0) (fun _ => 0) 5 2 1 4 0 (fun _ => 0) 0 (fun _ => 0) 0 (fun _ => 0) (fun _ => 0) (fun _ => 0) (fun _ => 0) ++ [(p2, .inl (cI, 12, .inl (fun _ => 0))), (p3, .inl (cI, 4, .inl (fun _ => 0)))]) := hD
  refine W.widen (k := 12) (n := 1198) (Nat.le_refl _) (Nat.le_refl _) ?_
  refine lv_astore_n (lv' := [(3, .ref p3), (2, .ref p2), (1, .ref x0), (0, .ref b)]) hx hb dL_law_16 rfl hl (by decide) rfl (fun ls hl => ?_)
  refine lv_aload_n hx hb dL_law_17 rfl (lv_at hl 0 rfl) ?_
  refine lv_iconst (v := 0) hx hb dL_law_18 (by decide) ?_
  refine lv_iconst (v := 5) hx hb dL_law_19 (by decide) ?_
  refine va_iast hx hb hK hP hD hS 11 0 rfl rfl (show ¬ ((0 : Int32) < 0 ∨ 4 ≤ Int32.toNatClampNeg 0) by decide) dL_law_20 (fun H locs hP hD hS => ?_)
  have hP : va_P D vwCl (wX cI cJ x0 x1 x2 x3 x4 x5 x6 x7 x8 x9 (fun _ => 0) (fun _ => 0) (fun _ => 0) 5 2 1 4 0 (fun _ => 0) 0 (fun _ => 0) 0 (fun _ => 0) (fun _ => 0) (fun _ => 0) (fun _ => 0) ++ [(p2, .inl (cI, 12, .inl (fun _ => 0))), (p3, .inl (cI, 4, .inl (upd (fun _ => 0) (Int32.toNatClampNeg 0) 5)))]) H := hP
  have hD : va_D (lz_A s) (wX cI cJ x0 x1 x2 x3 x4 x5 x6 x7 x8 x9 (fun _ => 0) (fun _ => 0) (fun _ => 0) 5 2 1 4 0 (fun _ => 0) 0 (fun _ => 0) 0 (fun _ => 0) (fun _ => 0) (fun _ => 0) (fun _ => 0) ++ [(p2, .inl (cI, 12, .inl (fun _ => 0))), (p3, .inl (cI, 4, .inl (upd (fun _ => 0) (Int32.toNatClampNeg 0) 5)))]) := hD
  refine lv_aload_n hx hb dL_law_21 rfl (lv_at hl 0 rfl) ?_
  refine lv_iconst (v := 1) hx hb dL_law_22 (by decide) ?_
  refine lv_iconst (v := 2) hx hb dL_law_23 (by decide) ?_
  refine va_iast hx hb hK hP hD hS 11 0 rfl rfl (show ¬ ((1 : Int32) < 0 ∨ 4 ≤ Int32.toNatClampNeg 1) by decide) dL_law_24 (fun H locs hP hD hS => ?_)
  have hP : va_P D vwCl (wX cI cJ x0 x1 x2 x3 x4 x5 x6 x7 x8 x9 (fun _ => 0) (fun _ => 0) (fun _ => 0) 5 2 1 4 0 (fun _ => 0) 0 (fun _ => 0) 0 (fun _ => 0) (fun _ => 0) (fun _ => 0) (fun _ => 0) ++ [(p2, .inl (cI, 12, .inl (fun _ => 0))), (p3, .inl (cI, 4, .inl (upd (upd (fun _ => 0) (Int32.toNatClampNeg 0) 5) (Int32.toNatClampNeg 1) 2)))]) H := hP
  have hD : va_D (lz_A s) (wX cI cJ x0 x1 x2 x3 x4 x5 x6 x7 x8 x9 (fun _ => 0) (fun _ => 0) (fun _ => 0) 5 2 1 4 0 (fun _ => 0) 0 (fun _ => 0) 0 (fun _ => 0) (fun _ => 0) (fun _ => 0) (fun _ => 0) ++ [(p2, .inl (cI, 12, .inl (fun _ => 0))), (p3, .inl (cI, 4, .inl (upd (upd (fun _ => 0) (Int32.toNatClampNeg 0) 5) (Int32.toNatClampNeg 1) 2)))]) := hD
  refine lv_aload_n hx hb dL_law_25 rfl (lv_at hl 0 rfl) ?_
  refine lv_iconst (v := 2) hx hb dL_law_26 (by decide) ?_
  refine lv_iconst (v := 1) hx hb dL_law_27 (by decide) ?_
  refine va_iast hx hb hK hP hD hS 11 0 rfl rfl (show ¬ ((2 : Int32) < 0 ∨ 4 ≤ Int32.toNatClampNeg 2) by decide) dL_law_28 (fun H locs hP hD hS => ?_)
  have hP : va_P D vwCl (wX cI cJ x0 x1 x2 x3 x4 x5 x6 x7 x8 x9 (fun _ => 0) (fun _ => 0) (fun _ => 0) 5 2 1 4 0 (fun _ => 0) 0 (fun _ => 0) 0 (fun _ => 0) (fun _ => 0) (fun _ => 0) (fun _ => 0) ++ [(p2, .inl (cI, 12, .inl (fun _ => 0))), (p3, .inl (cI, 4, .inl (upd (upd (upd (fun _ => 0) (Int32.toNatClampNeg 0) 5) (Int32.toNatClampNeg 1) 2) (Int32.toNatClampNeg 2) 1)))]) H := hP
  have hD : va_D (lz_A s) (wX cI cJ x0 x1 x2 x3 x4 x5 x6 x7 x8 x9 (fun _ => 0) (fun _ => 0) (fun _ => 0) 5 2 1 4 0 (fun _ => 0) 0 (fun _ => 0) 0 (fun _ => 0) (fun _ => 0) (fun _ => 0) (fun _ => 0) ++ [(p2, .inl (cI, 12, .inl (fun _ => 0))), (p3, .inl (cI, 4, .inl (upd (upd (upd (fun _ => 0) (Int32.toNatClampNeg 0) 5) (Int32.toNatClampNeg 1) 2) (Int32.toNatClampNeg 2) 1)))]) := hD
  refine lv_iconst (v := 0) hx hb dL_law_29 (by decide) ?_
  refine lv_istore (lv' := [(4, .int 0), (3, .ref p3), (2, .ref p2), (1, .ref x0), (0, .ref b)]) hx hb dL_law_30 hl (by decide) rfl (fun ls hl => ?_)
  have hlp : lz_St p l e s m below meth c b L xs D cI cJ x0 x1 x2 x3 x4 x5 x6 x7 x8 x9 p2 p3 100000 120 := lz_loop hx hb hr hlocks hml hown hts hX hbl hst hK hT 100000 120
  unfold lz_St at hlp
  exact hlp.1 0 (fun _ => 0) (fun _ => 0) (fun _ => 0) 5 2 1 4 0 (fun _ => 0) 0 (fun _ => 0) 0 (fun _ => 0) (fun _ => 0) (fun _ => 0) (fun _ => 0) (fun _ => 0) (upd (upd (upd (fun _ => 0) (Int32.toNatClampNeg 0) 5) (Int32.toNatClampNeg 1) 2) (Int32.toNatClampNeg 2) 1) H locs ls 12 1198 (by decide) (by decide) (law_true xs L hL) hP hD hS hl
