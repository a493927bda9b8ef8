def xThrL (A : Nat → Prop) (U : State) : Prop := xThr A U ∧ va_Nc "java/lang/IllegalArgumentException" "java/lang/IndexOutOfBoundsException" U ∧ va_Nc "java/lang/IllegalStateException" "java/lang/IndexOutOfBoundsException" U ∧ va_Nc "java/lang/IllegalArgumentException" "java/lang/IllegalStateException" U
abbrev bx_PreL (D : va_G) (tys : List (ClassId × FieldType)) (ws : va_W) (sz : Nat) (U : State) : Prop := U.heap.size = sz ∧ va_P D vwCl ws U.heap ∧ va_K D vwCl tys U ∧ va_D (fun _ => True) ws ∧ xThrL (va_A ws sz) U
def bl (r : Int32) : Int64 := if r = 0 then 0 else 1
theorem xd_warm {s U : State} {x : MethodName} (hW : s.WarmedH U.vm) (h : va_Nw (.declares x) s) : va_Nw (.declares x) U := va_tabs rfl (rfl : (s.setVm U.vm).vm = U.vm) (by rw [Cond.declares_setVm hW.alike]; exact h)
theorem xs_warm {s U : State} {k : Nat} {tx : String} (hW : s.WarmedH U.vm) (h : ∃ sa, vk_R RX0 k tx sa s) : ∃ sa, vk_R RX0 k tx sa U := by
  obtain ⟨sa, h⟩ := h
  exact ⟨sa, vk_R.warm hW h⟩
theorem xz_go {C n d : String} {A B : Nat → Prop} {s U : State} {H : Heap} {locs : List Loc} (h : vx_Zq C n d A s s.heap) (hS : va_S A s.heap H locs) (hB : ∀ q, B q → A q) (hU : U.heap = H) (hW : s.WarmedH U.vm) : vx_Zq C n d B U U.heap := by
  have h1 := (h.kept hS.2.1).moved hW.alike
  rw [← hU] at h1
  exact h1.narrow hB
theorem xThr.go {A B : Nat → Prop} {s U : State} {H : Heap} {locs : List Loc} (h : xThr A s) (hS : va_S A s.heap H locs) (hB : ∀ q, B q → A q) (hU : U.heap = H) (hW : s.WarmedH U.vm) : xThr B U := by
  obtain ⟨⟨c0, c1, c2, d0, d1, d2⟩, ⟨z0, z1⟩, t0, t1, t2, t3, t4, t5, t6, t7, t8, t9, t10, t11, t12, t13⟩ := h
  exact ⟨⟨va_Nw.warmC hW c0, va_Nw.warmC hW c1, va_Nw.warmC hW c2, xd_warm hW d0, xd_warm hW d1, xd_warm hW d2⟩, ⟨xz_go z0 hS hB hU hW, xz_go z1 hS hB hU hW⟩, xs_warm hW t0, xs_warm hW t1, xs_warm hW t2, xs_warm hW t3, xs_warm hW t4, xs_warm hW t5, xs_warm hW t6, xs_warm hW t7, xs_warm hW t8, xs_warm hW t9, xs_warm hW t10, xs_warm hW t11, xs_warm hW t12, xs_warm hW t13⟩
theorem xThrL.go {A B : Nat → Prop} {s U : State} {H : Heap} {locs : List Loc} (h : xThrL A s) (hS : va_S A s.heap H locs) (hB : ∀ q, B q → A q) (hU : U.heap = H) (hW : s.WarmedH U.vm) : xThrL B U :=
  ⟨h.1.go hS hB hU hW, va_Nc.moved hW.alike h.2.1, va_Nc.moved hW.alike h.2.2.1, va_Nc.moved hW.alike h.2.2.2⟩
theorem xThr.calling {A : Nat → Prop} {U : State} {g : JFrame} {mk : MethodId} {a : Array Value} (h : xThr A U) : xThr A (U.calling g mk a) := by
  obtain ⟨⟨c0, c1, c2, d0, d1, d2⟩, ⟨z0, z1⟩, t0, t1, t2, t3, t4, t5, t6, t7, t8, t9, t10, t11, t12, t13⟩ := h
  have hv : U.vm.Alike (U.calling g mk a).vm := Vm.Alike.refl U.vm
  have tx : ∀ {k : Nat} {t : String}, (∃ sa, vk_R RX0 k t sa U) → ∃ sa, vk_R RX0 k t sa (U.calling g mk a) := fun h => by
    obtain ⟨sa, h⟩ := h
    exact ⟨sa, vk_R.same (u := U) (U := U.calling g mk a) rfl h⟩
  have tw : ∀ {w : Cond}, w.onTables = true → va_Nw w U → va_Nw w (U.calling g mk a) := fun h1 h2 => va_tabs h1 (u := U) (U := U.calling g mk a) rfl h2
  exact ⟨⟨tw rfl c0, tw rfl c1, tw rfl c2, tw rfl d0, tw rfl d1, tw rfl d2⟩, ⟨z0.moved hv, z1.moved hv⟩, tx t0, tx t1, tx t2, tx t3, tx t4, tx t5, tx t6, tx t7, tx t8, tx t9, tx t10, tx t11, tx t12, tx t13⟩
theorem bx_blindT {av : List Value} {D : va_G} {tys : List (ClassId × FieldType)} {ws : va_W} {sz : Nat} : FrameBlind (va_Pc av (bx_PreT D tys ws sz)) := fun a U g mk q => by
  obtain ⟨q0, q1, qP, qK, qD, qT⟩ := q
  exact ⟨q0, q1, qP, va_K.moved (u := U) (U := U.calling g mk a) (Vm.Alike.refl U.vm) qK, qD, qT.calling⟩
theorem bx_blindL {av : List Value} {D : va_G} {tys : List (ClassId × FieldType)} {ws : va_W} {sz : Nat} : FrameBlind (va_Pc av (bx_PreL D tys ws sz)) := fun a U g mk q => by
  obtain ⟨q0, q1, qP, qK, qD, qT⟩ := q
  exact ⟨q0, q1, qP, va_K.moved (u := U) (U := U.calling g mk a) (Vm.Alike.refl U.vm) qK, qD, qT.1.calling, va_Nc.moved (Vm.Alike.refl U.vm) qT.2.1, va_Nc.moved (Vm.Alike.refl U.vm) qT.2.2.1, va_Nc.moved (Vm.Alike.refl U.vm) qT.2.2.2⟩
section
variable {p : Program} {l : Launch} {e : Env} {R : Room} {s : State} {m : MethodId} {args : Array Value} {below : List Frame} {meth : Method} {c : Code} {H : Heap} {locs : List Loc} {cells slots : Nat} {Q : State → Prop}
  {Ts wsY ws' : List Cond} {cc bytes : ByteArray} {nL maxL index n : Nat} {own C : String} {y : MethodName} {ret : Option FieldType} {rm : Room} {b ci : Nat} {As rest st0 : List Value} {D : va_G} {ws wc wr w1 : va_W} {tys tysc : List (ClassId × FieldType)} {A : Nat → Prop} {H0 : Heap} {pc : Nat} {ls : Array Slot} {fs : List Value} {q : vw_C}
theorem cl_Xi {r0 : String ⊕ Int32} {TC : u_T} {NC : Nat} (SF : CallFix p m c cc nL s args Ts own)
    (hM : vx_Met l y wsY rm (va_Pc (.ref b :: As) (bx_PreT D tys wc H.size)) (va_Qi (fun (r : Int32) (_ : Unit) => r0 = Sum.inr r) (fun (_ : Unit) t => bx_Post D tys w1 (va_A wc H.size) t) (va_A wc H.size)) (vx_X (fun (_ : Unit) => True) (fun E (_ : Unit) t => r0 = Sum.inl E ∧ bx_Post D tys w1 (va_A wc H.size) t) (va_A wc H.size)) 1 6 (va_A wc H.size))
    (cw : CallW R s args own C index y bytes maxL ret wsY rm 1 6 n)
    (hK : va_K D vwCl tys s) (hP : va_P D vwCl ws H) (hD : va_D A ws) (hS : va_S A s.heap H locs) (hA : ∀ q, s.heap.size ≤ q → A q) (hT : xThr A s)
    (isC isR : List Nat) (hC : isC.map (fun i => ws[i]?) = wc.map some) (hR : isR.map (fun i => ws[i]?) = wr.map some) (hnR : va_nd isR = true) (hdis : ∀ i ∈ isR, i ∉ isC) (hnC : va_nd isC = true) (hq : vwCl[ci]? = some (C, TC, NC)) (he : wc[0]? = some (b, .inr (ci, fs)))
    (hg : (F0 m pc ls st0).method = m) (hn : As.length = n) (hsize : (F0 m pc ls st0).locals.size = nL) (hst : (F0 m pc ls st0).stack = As.reverse ++ .ref b :: rest) (hW : 2 * (F0 m pc ls st0).monitorRoom + (rest.map fun v => v.category).sum ≤ 8) (hdg : decode cc pc = .ok (.invokevirtual index, 3)) (hf : cells + 1 ≤ R.cells ∧ slots + 6 ≤ R.slots)
    (kx : ∀ (E : String) (ce : Cell) (q9 : Addr) (H1 : Heap) (locs1 : List Loc), r0 = Sum.inl E → va_P D vwCl (wr ++ w1) H1 → va_D A (wr ++ w1) → va_S A s.heap H1 locs1 → H1[q9]? = some ce → ce.vm = .none → s.vm.findClass E = some ce.cls → vx_W p l e R s m args below meth c H1 locs1 (cells + 1) (slots + 6) Q (F0 m pc ls rest) q9)
    (kk : ∀ (r : Int32) (H1 : Heap) (locs1 : List Loc), r0 = Sum.inr r → va_P D vwCl (wr ++ w1) H1 → va_D A (wr ++ w1) → va_S A s.heap H1 locs1 → W p l e R s m args below meth c H1 locs1 (cells + 1) (slots + 6) Q (F0 m (pc + 3) ls (.int r :: rest))) : W p l e R s m args below meth c H locs cells slots Q (F0 m pc ls st0) := by
  have hFc := va_free (wc := wc) hD hS hA isC hC
  have hDc := hD.sub (ws' := wc) isC hnC hC
  have hPc : va_P D vwCl wc H := cl_cut hP hC
  refine vx_calli (vx_runV (As := As) (rest := rest) SF hM cw ⟨bx_blindT, va_recv hK hPc hq he, fun U hU hW => ⟨rfl, by rw [hU], by rw [hU]; exact hPc, va_K.moved hW.alike hK, hDc.weaken (fun _ _ _ _ => trivial), hT.go hS (fun q h => hFc q h) hU hW⟩⟩ hg hn hsize hst hW hdg hf) hS (fun q _ h => hFc q h) hFc (fun q _ h => hFc q h) (fun E ce q9 u t H1 locs1 ht hvm _ hB hz1 hk1 hS hce hcv hcl => ?_) (fun r u t H1 locs1 ht hvm hw hB hz1 hk1 hS => ?_)
  · obtain ⟨hr0, hP1, hK1, hD1⟩ := hB
    rw [ht] at hP1
    obtain ⟨hP2, hD2⟩ := va_join (wr := wr) (w1 := w1) hP hD isC isR hC hR hnR hdis hk1 hFc hP1 hD1
    exact kx E ce q9 H1 locs1 hr0 hP2 hD2 hS hce hcv hcl
  · obtain ⟨hP1, hK1, hD1⟩ := hB
    rw [ht] at hP1
    obtain ⟨hP2, hD2⟩ := va_join (wr := wr) (w1 := w1) hP hD isC isR hC hR hnR hdis hk1 hFc hP1 hD1
    exact kk r H1 locs1 hw hP2 hD2 hS
theorem cl_Xv {r0 : String ⊕ Int32} {TC : u_T} {NC : Nat} (SF : CallFix p m c cc nL s args Ts own)
    (hM : vx_Met l y wsY rm (va_Pc (.ref b :: As) (bx_PreT D tys wc H.size)) (va_Qv (fun (_ : Unit) => r0 = Sum.inr 0) (fun (_ : Unit) t => bx_Post D tys w1 (va_A wc H.size) t) (va_A wc H.size)) (vx_X (fun (_ : Unit) => True) (fun E (_ : Unit) t => r0 = Sum.inl E ∧ bx_Post D tys w1 (va_A wc H.size) t) (va_A wc H.size)) 1 6 (va_A wc H.size))
    (cw : CallW R s args own C index y bytes maxL ret wsY rm 1 6 n)
    (hK : va_K D vwCl tys s) (hP : va_P D vwCl ws H) (hD : va_D A ws) (hS : va_S A s.heap H locs) (hA : ∀ q, s.heap.size ≤ q → A q) (hT : xThr A s)
    (isC isR : List Nat) (hC : isC.map (fun i => ws[i]?) = wc.map some) (hR : isR.map (fun i => ws[i]?) = wr.map some) (hnR : va_nd isR = true) (hdis : ∀ i ∈ isR, i ∉ isC) (hnC : va_nd isC = true) (hq : vwCl[ci]? = some (C, TC, NC)) (he : wc[0]? = some (b, .inr (ci, fs)))
    (hg : (F0 m pc ls st0).method = m) (hn : As.length = n) (hsize : (F0 m pc ls st0).locals.size = nL) (hst : (F0 m pc ls st0).stack = As.reverse ++ .ref b :: rest) (hW : 2 * (F0 m pc ls st0).monitorRoom + (rest.map fun v => v.category).sum ≤ 8) (hdg : decode cc pc = .ok (.invokevirtual index, 3)) (hf : cells + 1 ≤ R.cells ∧ slots + 6 ≤ R.slots)
    (kx : ∀ (E : String) (ce : Cell) (q9 : Addr) (H1 : Heap) (locs1 : List Loc), r0 = Sum.inl E → va_P D vwCl (wr ++ w1) H1 → va_D A (wr ++ w1) → va_S A s.heap H1 locs1 → H1[q9]? = some ce → ce.vm = .none → s.vm.findClass E = some ce.cls → vx_W p l e R s m args below meth c H1 locs1 (cells + 1) (slots + 6) Q (F0 m pc ls rest) q9)
    (kk : ∀ (H1 : Heap) (locs1 : List Loc), r0 = Sum.inr 0 → va_P D vwCl (wr ++ w1) H1 → va_D A (wr ++ w1) → va_S A s.heap H1 locs1 → W p l e R s m args below meth c H1 locs1 (cells + 1) (slots + 6) Q (F0 m (pc + 3) ls (rest))) : W p l e R s m args below meth c H locs cells slots Q (F0 m pc ls st0) := by
  have hFc := va_free (wc := wc) hD hS hA isC hC
  have hDc := hD.sub (ws' := wc) isC hnC hC
  have hPc : va_P D vwCl wc H := cl_cut hP hC
  refine vx_callv (vx_runV (As := As) (rest := rest) SF hM cw ⟨bx_blindT, va_recv hK hPc hq he, fun U hU hW => ⟨rfl, by rw [hU], by rw [hU]; exact hPc, va_K.moved hW.alike hK, hDc.weaken (fun _ _ _ _ => trivial), hT.go hS (fun q h => hFc q h) hU hW⟩⟩ hg hn hsize hst hW hdg hf) hS (fun q _ h => hFc q h) hFc (fun q _ h => hFc q h) (fun E ce q9 u t H1 locs1 ht hvm _ hB hz1 hk1 hS hce hcv hcl => ?_) (fun u t H1 locs1 ht hvm hw hB hz1 hk1 hS => ?_)
  · obtain ⟨hr0, hP1, hK1, hD1⟩ := hB
    rw [ht] at hP1
    obtain ⟨hP2, hD2⟩ := va_join (wr := wr) (w1 := w1) hP hD isC isR hC hR hnR hdis hk1 hFc hP1 hD1
    exact kx E ce q9 H1 locs1 hr0 hP2 hD2 hS hce hcv hcl
  · obtain ⟨hP1, hK1, hD1⟩ := hB
    rw [ht] at hP1
    obtain ⟨hP2, hD2⟩ := va_join (wr := wr) (w1 := w1) hP hD isC isR hC hR hnR hdis hk1 hFc hP1 hD1
    exact kk H1 locs1 hw hP2 hD2 hS
end
-- L_grant
set_option maxHeartbeats 4000000 in
set_option maxRecDepth 100000 in
theorem c_L_grant (l : Launch) (hst : l.stackTraces = false) (D : va_G) (cI cJ : ClassId) (x0 x1 x2 x3 x4 x5 x6 x7 x8 x9 : Nat) (o0 : Nat) (sz : Nat) (g : Nat → Int32) (rm : Nat → Int32) (op : Nat → Int32) (rc : Int32) (ec : Int32) (su : Int32) (pe : Int32) (qt : Int32) (rs : Nat → Int32) (rn : Int32) (cs : Nat → Int32) (cn : Int32) (lc : Nat → Int64) (hc : Nat → Int64) (lg : Nat → Int64) (hg : Nat → Int64) (u : Nat → Int64) (a1 a2 : Int32) (r0 : String ⊕ Int32) (g' : Nat → Int32) (rm' : Nat → Int32) (h : m_X0_grant g rm qt a1 a2 = some (r0, g', rm')) (k : Int32) (u' : Nat → Int64) (hres : (∃ r, r0 = Sum.inr r ∧ k = 0 ∧ u' = vp_updL u 0 (bl r)) ∨ (r0 = Sum.inl "java/lang/IndexOutOfBoundsException" ∧ k = 1 ∧ u' = u)) : Met l yL_grant wsL_grant ({ frames := 7, cells := 1, slots := 6, locals := 112 }) (va_Pc [.ref x0, .int a1, .int a2, .ref o0] (bx_PreL D [(cI, .int), (cJ, .long)] (wX cI cJ x0 x1 x2 x3 x4 x5 x6 x7 x8 x9 g rm op rc ec su pe qt rs rn cs cn lc hc lg hg ++ [(o0, .inl (cJ, 1, .inr (.inl u)))]) sz)) (va_Qi (fun (r : Int32) (_ : Unit) => r = k) (fun (_ : Unit) t => bx_Post D [(cI, .int), (cJ, .long)] (wX cI cJ x0 x1 x2 x3 x4 x5 x6 x7 x8 x9 g' rm' op rc ec su pe qt rs rn cs cn lc hc lg hg ++ [(o0, .inl (cJ, 1, .inr (.inl u')))]) (va_A (wX cI cJ x0 x1 x2 x3 x4 x5 x6 x7 x8 x9 g rm op rc ec su pe qt rs rn cs cn lc hc lg hg ++ [(o0, .inl (cJ, 1, .inr (.inl u)))]) sz) t) (va_A (wX cI cJ x0 x1 x2 x3 x4 x5 x6 x7 x8 x9 g rm op rc ec su pe qt rs rn cs cn lc hc lg hg ++ [(o0, .inl (cJ, 1, .inr (.inl u)))]) sz)) 1 6 (va_A (wX cI cJ x0 x1 x2 x3 x4 x5 x6 x7 x8 x9 g rm op rc ec su pe qt rs rn cs cn lc hc lg hg ++ [(o0, .inl (cJ, 1, .inr (.inl u)))]) sz) := by
  refine va_MetW (cc := cL_grant) (maxL := 5) (ret := (some .int)) (hh := [(0, 17, 20, 13)]) (by decide) rfl ?_
  intro p e s m args below meth c s₁ B hml hv
  obtain ⟨rfl, hsz, hP, hK, hD0, hT⟩ := hv
  have hx := B.exec
  have hb := B.bytes
  have hr := B.returns
  have hts := atoms_spec (ws := wsL_grant) B.pre
  have hown : s.vm.findClass RL = some m.cls := findClass_of_methodNamed B.named
  have hlocks := B.notSynchronized
  have htab := vx_table (x := yL_grant) (y := yL_grant) (bytes := cL_grant) (maxL' := 5) (ret' := (some .int)) (hh := [(0, 17, 20, 13)]) B (hts _ List.mem_cons_self)
  subst hsz
  have hD := hD0.self (sz := s.heap.size)
  generalize hAe : va_A (wX cI cJ x0 x1 x2 x3 x4 x5 x6 x7 x8 x9 g rm op rc ec su pe qt rs rn cs cn lc hc lg hg ++ [(o0, .inl (cJ, 1, .inr (.inl u)))]) s.heap.size = A at hD hT ⊢
  have hA : ∀ q : Nat, s.heap.size ≤ q → A q := fun q h9 => by rw [← hAe]; exact Or.inr h9
  have hS : va_S A s.heap s.heap [] := va_S.rf
  have hk_0 := hts (.classLink RL 13 "java/lang/IndexOutOfBoundsException") (by decide +kernel)
  have hl := lv_entry ([.ref x0, .int a1, .int a2, .ref o0]) (n := 5) (Nat.le_of_ble_eq_true rfl)
  rw [lg_entry_eq]
  generalize (lg_sl ([.ref x0, .int a1, .int a2, .ref o0]) ++ List.replicate (5 - (lg_sl ([.ref x0, .int a1, .int a2, .ref o0])).length) Slot.unset).toArray = ls at hl ⊢
  have hl : lv_has ls 5 [(0, .ref x0), (1, .int a1), (2, .int a2), (3, .ref o0)] := hl
  refine lv_aload_n hx hb dL_grant_0 rfl (lv_at hl 3 rfl) ?_
  refine lv_iconst (v := 0) hx hb dL_grant_1 (by decide) ?_
  refine lv_aload_n hx hb dL_grant_2 rfl (lv_at hl 0 rfl) ?_
  refine lv_iload_n hx hb dL_grant_3 rfl (lv_at hl 1 rfl) ?_
  refine lv_iload_n hx hb dL_grant_4 rfl (lv_at hl 2 rfl) ?_
  refine cl_Xi (r0 := r0) (As := [.int a1, .int a2]) (rest := [.int 0, .ref o0]) (wc := wX cI cJ x0 x1 x2 x3 x4 x5 x6 x7 x8 x9 g rm op rc ec su pe qt rs rn cs cn lc hc lg hg) (w1 := wX cI cJ x0 x1 x2 x3 x4 x5 x6 x7 x8 x9 g' rm' op rc ec su pe qt rs rn cs cn lc hc lg hg) (wr := [(o0, .inl (cJ, 1, .inr (.inl u)))]) ⟨hx, hb, hml, hown, hts⟩ (c_X0_grant l hst D cI cJ x0 x1 x2 x3 x4 x5 x6 x7 x8 x9 _ g rm op rc ec su pe qt rs rn cs cn lc hc lg hg a1 a2 r0 g' rm' h) (cwV 2 hts gL_grant_X0_grant rfl rfl rfl (by decide +kernel) ⟨Nat.le_of_ble_eq_true rfl, Nat.le_of_ble_eq_true rfl⟩) hK hP hD hS hA hT.1 [0, 1, 2, 3, 4, 5, 6, 7, 8, 9] [10] rfl rfl (by decide) (by decide) rfl rfl rfl rfl rfl hl.1 rfl (lv_room (Nat.le_of_ble_eq_true rfl)) dL_grant_5 ⟨Nat.le_of_ble_eq_true rfl, Nat.le_of_ble_eq_true rfl⟩ (fun E ce q9 H locs hx0 hP hD hS hce hcv hcl => ?_) (fun r H locs hr0 hP hD hS => ?_)
  · rcases hres with ⟨r9, e1, -, -⟩ | ⟨e1, rfl, rfl⟩
    · cases (e1.symm.trans hx0)
    · cases (e1.symm.trans hx0)
      replace hP := hP.sub (ws' := wX cI cJ x0 x1 x2 x3 x4 x5 x6 x7 x8 x9 g' rm' op rc ec su pe qt rs rn cs cn lc hc lg hg ++ [(o0, .inl (cJ, 1, .inr (.inl u')))]) [1, 2, 3, 4, 5, 6, 7, 8, 9, 10, 0] rfl
      replace hD := hD.sub (ws' := wX cI cJ x0 x1 x2 x3 x4 x5 x6 x7 x8 x9 g' rm' op rc ec su pe qt rs rn cs cn lc hc lg hg ++ [(o0, .inl (cJ, 1, .inr (.inl u')))]) [1, 2, 3, 4, 5, 6, 7, 8, 9, 10, 0] (by decide) rfl
      refine vx_catch (own := RL) (name := "java/lang/IndexOutOfBoundsException") hown [] { startPc := 0, endPc := 17, handlerPc := 20, catchType := 13 } [] (htab.trans rfl) (fun z hz => nomatch hz) rfl (by decide) hk_0 (va_Nw.use (A := _) rfl hT.1.1.1) hce hcv hcl ?_
      refine W.eq (g2 := F0 m 20 ls [.ref q9]) rfl ?_
      refine lv_astore (lv' := [(4, .ref q9), (0, .ref x0), (1, .int a1), (2, .int a2), (3, .ref o0)]) hx hb dL_grant_20 hl (by decide) rfl (fun ls hl => ?_)
      refine lv_iconst (v := 1) hx hb dL_grant_22 (by decide) ?_
      exact W.iret hx hb hr (fun t ht hW => ⟨⟨_, (), rfl, rfl, by rw [ht]; exact hP, va_K.moved hW.alike hK, hD⟩, hS.F ht⟩) hS.2.2 dL_grant_23
  · rcases hres with ⟨r9, e1, rfl, rfl⟩ | ⟨e1, -, -⟩
    · have e2 : r9 = r := Sum.inr.inj (e1.symm.trans hr0)
      subst e2
      replace hP := hP.sub (ws' := wX cI cJ x0 x1 x2 x3 x4 x5 x6 x7 x8 x9 g' rm' op rc ec su pe qt rs rn cs cn lc hc lg hg ++ [(o0, .inl (cJ, 1, .inr (.inl u)))]) [1, 2, 3, 4, 5, 6, 7, 8, 9, 10, 0] rfl
      replace hD := hD.sub (ws' := wX cI cJ x0 x1 x2 x3 x4 x5 x6 x7 x8 x9 g' rm' op rc ec su pe qt rs rn cs cn lc hc lg hg ++ [(o0, .inl (cJ, 1, .inr (.inl u)))]) [1, 2, 3, 4, 5, 6, 7, 8, 9, 10, 0] (by decide) rfl
      refine lv_if_eq (tgt := 15) hx hb dL_grant_8 (by decide) (fun c_1 => ?_) (fun c_1 => ?_)
      · rw [show bl r9 = 0 from if_pos c_1]
        refine lv_lconst (v := 0) hx hb dL_grant_15 (by decide) ?_
        refine va_last hx hb hK hP hD hS 10 1 rfl rfl (show ¬ ((0 : Int32) < 0 ∨ 1 ≤ Int32.toNatClampNeg 0) by decide) dL_grant_16 (fun H locs hP hD hS => ?_)
        have hP : va_P D vwCl (wX cI cJ x0 x1 x2 x3 x4 x5 x6 x7 x8 x9 g' rm' op rc ec su pe qt rs rn cs cn lc hc lg hg ++ [(o0, .inl (cJ, 1, .inr (.inl (vp_updL u 0 0))))]) H := hP
        have hD : va_D A (wX cI cJ x0 x1 x2 x3 x4 x5 x6 x7 x8 x9 g' rm' op rc ec su pe qt rs rn cs cn lc hc lg hg ++ [(o0, .inl (cJ, 1, .inr (.inl (vp_updL u 0 0))))]) := hD
        refine lv_goto (tgt := 24) hx hb dL_grant_17 (by decide) ?_
        refine lv_iconst (v := 0) hx hb dL_grant_24 (by decide) ?_
        exact W.iret hx hb hr (fun t ht hW => ⟨⟨_, (), rfl, rfl, by rw [ht]; exact hP, va_K.moved hW.alike hK, hD⟩, hS.F ht⟩) hS.2.2 dL_grant_25
      · rw [show bl r9 = 1 from if_neg c_1]
        refine lv_lconst (v := 1) hx hb dL_grant_11 (by decide) ?_
        refine lv_goto (tgt := 16) hx hb dL_grant_12 (by decide) ?_
        refine va_last hx hb hK hP hD hS 10 1 rfl rfl (show ¬ ((0 : Int32) < 0 ∨ 1 ≤ Int32.toNatClampNeg 0) by decide) dL_grant_16 (fun H locs hP hD hS => ?_)
        have hP : va_P D vwCl (wX cI cJ x0 x1 x2 x3 x4 x5 x6 x7 x8 x9 g' rm' op rc ec su pe qt rs rn cs cn lc hc lg hg ++ [(o0, .inl (cJ, 1, .inr (.inl (vp_updL u 0 1))))]) H := hP
        have hD : va_D A (wX cI cJ x0 x1 x2 x3 x4 x5 x6 x7 x8 x9 g' rm' op rc ec su pe qt rs rn cs cn lc hc lg hg ++ [(o0, .inl (cJ, 1, .inr (.inl (vp_updL u 0 1))))]) := hD
        refine lv_goto (tgt := 24) hx hb dL_grant_17 (by decide) ?_
        refine lv_iconst (v := 0) hx hb dL_grant_24 (by decide) ?_
        exact W.iret hx hb hr (fun t ht hW => ⟨⟨_, (), rfl, rfl, by rw [ht]; exact hP, va_K.moved hW.alike hK, hD⟩, hS.F ht⟩) hS.2.2 dL_grant_25
    · cases (e1.symm.trans hr0)
-- L_revoke
set_option maxHeartbeats 4000000 in
set_option maxRecDepth 100000 in
theorem c_L_revoke (l : Launch) (hst : l.stackTraces = false) (D : va_G) (cI cJ : ClassId) (x0 x1 x2 x3 x4 x5 x6 x7 x8 x9 : Nat) (o0 : Nat) (sz : Nat) (g : Nat → Int32) (rm : Nat → Int32) (op : Nat → Int32) (rc : Int32) (ec : Int32) (su : Int32) (pe : Int32) (qt : Int32) (rs : Nat → Int32) (rn : Int32) (cs : Nat → Int32) (cn : Int32) (lc : Nat → Int64) (hc : Nat → Int64) (lg : Nat → Int64) (hg : Nat → Int64) (u : Nat → Int64) (a1 a2 : Int32) (r0 : String ⊕ Int32) (g' : Nat → Int32) (h : m_X0_revoke g a1 a2 = some (r0, g')) (k : Int32) (u' : Nat → Int64) (hres : (∃ r, r0 = Sum.inr r ∧ k = 0 ∧ u' = vp_updL u 0 (bl r)) ∨ (r0 = Sum.inl "java/lang/IndexOutOfBoundsException" ∧ k = 1 ∧ u' = u)) : Met l yL_revoke wsL_revoke ({ frames := 7, cells := 1, slots := 6, locals := 113 }) (va_Pc [.ref x0, .int a1, .int a2, .ref o0] (bx_PreL D [(cI, .int), (cJ, .long)] (wX cI cJ x0 x1 x2 x3 x4 x5 x6 x7 x8 x9 g rm op rc ec su pe qt rs rn cs cn lc hc lg hg ++ [(o0, .inl (cJ, 1, .inr (.inl u)))]) sz)) (va_Qi (fun (r : Int32) (_ : Unit) => r = k) (fun (_ : Unit) t => bx_Post D [(cI, .int), (cJ, .long)] (wX cI cJ x0 x1 x2 x3 x4 x5 x6 x7 x8 x9 g' rm op rc ec su pe qt rs rn cs cn lc hc lg hg ++ [(o0, .inl (cJ, 1, .inr (.inl u')))]) (va_A (wX cI cJ x0 x1 x2 x3 x4 x5 x6 x7 x8 x9 g rm op rc ec su pe qt rs rn cs cn lc hc lg hg ++ [(o0, .inl (cJ, 1, .inr (.inl u)))]) sz) t) (va_A (wX cI cJ x0 x1 x2 x3 x4 x5 x6 x7 x8 x9 g rm op rc ec su pe qt rs rn cs cn lc hc lg hg ++ [(o0, .inl (cJ, 1, .inr (.inl u)))]) sz)) 1 6 (va_A (wX cI cJ x0 x1 x2 x3 x4 x5 x6 x7 x8 x9 g rm op rc ec su pe qt rs rn cs cn lc hc lg hg ++ [(o0, .inl (cJ, 1, .inr (.inl u)))]) sz) := by
  refine va_MetW (cc := cL_revoke) (maxL := 5) (ret := (some .int)) (hh := [(0, 17, 20, 13)]) (by decide) rfl ?_
  intro p e s m args below meth c s₁ B hml hv
  obtain ⟨rfl, hsz, hP, hK, hD0, hT⟩ := hv
  have hx := B.exec
  have hb := B.bytes
  have hr := B.returns
  have hts := atoms_spec (ws := wsL_revoke) B.pre
  have hown : s.vm.findClass RL = some m.cls := findClass_of_methodNamed B.named
  have hlocks := B.notSynchronized
  have htab := vx_table (x := yL_revoke) (y := yL_revoke) (bytes := cL_revoke) (maxL' := 5) (ret' := (some .int)) (hh := [(0, 17, 20, 13)]) B (hts _ List.mem_cons_self)
  subst hsz
  have hD := hD0.self (sz := s.heap.size)
  generalize hAe : va_A (wX cI cJ x0 x1 x2 x3 x4 x5 x6 x7 x8 x9 g rm op rc ec su pe qt rs rn cs cn lc hc lg hg ++ [(o0, .inl (cJ, 1, .inr (.inl u)))]) s.heap.size = A at hD hT ⊢
  have hA : ∀ q : Nat, s.heap.size ≤ q → A q := fun q h9 => by rw [← hAe]; exact Or.inr h9
  have hS : va_S A s.heap s.heap [] := va_S.rf
  have hk_0 := hts (.classLink RL 13 "java/lang/IndexOutOfBoundsException") (by decide +kernel)
  have hl := lv_entry ([.ref x0, .int a1, .int a2, .ref o0]) (n := 5) (Nat.le_of_ble_eq_true rfl)
  rw [lg_entry_eq]
  generalize (lg_sl ([.ref x0, .int a1, .int a2, .ref o0]) ++ List.replicate (5 - (lg_sl ([.ref x0, .int a1, .int a2, .ref o0])).length) Slot.unset).toArray = ls at hl ⊢
  have hl : lv_has ls 5 [(0, .ref x0), (1, .int a1), (2, .int a2), (3, .ref o0)] := hl
  refine lv_aload_n hx hb dL_revoke_0 rfl (lv_at hl 3 rfl) ?_
  refine lv_iconst (v := 0) hx hb dL_revoke_1 (by decide) ?_
  refine lv_aload_n hx hb dL_revoke_2 rfl (lv_at hl 0 rfl) ?_
  refine lv_iload_n hx hb dL_revoke_3 rfl (lv_at hl 1 rfl) ?_
  refine lv_iload_n hx hb dL_revoke_4 rfl (lv_at hl 2 rfl) ?_
  refine cl_Xi (r0 := r0) (As := [.int a1, .int a2]) (rest := [.int 0, .ref o0]) (wc := wX cI cJ x0 x1 x2 x3 x4 x5 x6 x7 x8 x9 g rm op rc ec su pe qt rs rn cs cn lc hc lg hg) (w1 := wX cI cJ x0 x1 x2 x3 x4 x5 x6 x7 x8 x9 g' rm op rc ec su pe qt rs rn cs cn lc hc lg hg) (wr := [(o0, .inl (cJ, 1, .inr (.inl u)))]) ⟨hx, hb, hml, hown, hts⟩ (c_X0_revoke l hst D cI cJ x0 x1 x2 x3 x4 x5 x6 x7 x8 x9 _ g rm op rc ec su pe qt rs rn cs cn lc hc lg hg a1 a2 r0 g' h) (cwV 2 hts gL_revoke_X0_revoke rfl rfl rfl (by decide +kernel) ⟨Nat.le_of_ble_eq_true rfl, Nat.le_of_ble_eq_true rfl⟩) hK hP hD hS hA hT.1 [0, 1, 2, 3, 4, 5, 6, 7, 8, 9] [10] rfl rfl (by decide) (by decide) rfl rfl rfl rfl rfl hl.1 rfl (lv_room (Nat.le_of_ble_eq_true rfl)) dL_revoke_5 ⟨Nat.le_of_ble_eq_true rfl, Nat.le_of_ble_eq_true rfl⟩ (fun E ce q9 H locs hx0 hP hD hS hce hcv hcl => ?_) (fun r H locs hr0 hP hD hS => ?_)
  · rcases hres with ⟨r9, e1, -, -⟩ | ⟨e1, rfl, rfl⟩
    · cases (e1.symm.trans hx0)
    · cases (e1.symm.trans hx0)
      replace hP := hP.sub (ws' := wX cI cJ x0 x1 x2 x3 x4 x5 x6 x7 x8 x9 g' rm op rc ec su pe qt rs rn cs cn lc hc lg hg ++ [(o0, .inl (cJ, 1, .inr (.inl u')))]) [1, 2, 3, 4, 5, 6, 7, 8, 9, 10, 0] rfl
      replace hD := hD.sub (ws' := wX cI cJ x0 x1 x2 x3 x4 x5 x6 x7 x8 x9 g' rm op rc ec su pe qt rs rn cs cn lc hc lg hg ++ [(o0, .inl (cJ, 1, .inr (.inl u')))]) [1, 2, 3, 4, 5, 6, 7, 8, 9, 10, 0] (by decide) rfl
      refine vx_catch (own := RL) (name := "java/lang/IndexOutOfBoundsException") hown [] { startPc := 0, endPc := 17, handlerPc := 20, catchType := 13 } [] (htab.trans rfl) (fun z hz => nomatch hz) rfl (by decide) hk_0 (va_Nw.use (A := _) rfl hT.1.1.1) hce hcv hcl ?_
      refine W.eq (g2 := F0 m 20 ls [.ref q9]) rfl ?_
      refine lv_astore (lv' := [(4, .ref q9), (0, .ref x0), (1, .int a1), (2, .int a2), (3, .ref o0)]) hx hb dL_revoke_20 hl (by decide) rfl (fun ls hl => ?_)
      refine lv_iconst (v := 1) hx hb dL_revoke_22 (by decide) ?_
      exact W.iret hx hb hr (fun t ht hW => ⟨⟨_, (), rfl, rfl, by rw [ht]; exact hP, va_K.moved hW.alike hK, hD⟩, hS.F ht⟩) hS.2.2 dL_revoke_23
  · rcases hres with ⟨r9, e1, rfl, rfl⟩ | ⟨e1, -, -⟩
    · have e2 : r9 = r := Sum.inr.inj (e1.symm.trans hr0)
      subst e2
      replace hP := hP.sub (ws' := wX cI cJ x0 x1 x2 x3 x4 x5 x6 x7 x8 x9 g' rm op rc ec su pe qt rs rn cs cn lc hc lg hg ++ [(o0, .inl (cJ, 1, .inr (.inl u)))]) [1, 2, 3, 4, 5, 6, 7, 8, 9, 10, 0] rfl
      replace hD := hD.sub (ws' := wX cI cJ x0 x1 x2 x3 x4 x5 x6 x7 x8 x9 g' rm op rc ec su pe qt rs rn cs cn lc hc lg hg ++ [(o0, .inl (cJ, 1, .inr (.inl u)))]) [1, 2, 3, 4, 5, 6, 7, 8, 9, 10, 0] (by decide) rfl
      refine lv_if_eq (tgt := 15) hx hb dL_revoke_8 (by decide) (fun c_1 => ?_) (fun c_1 => ?_)
      · rw [show bl r9 = 0 from if_pos c_1]
        refine lv_lconst (v := 0) hx hb dL_revoke_15 (by decide) ?_
        refine va_last hx hb hK hP hD hS 10 1 rfl rfl (show ¬ ((0 : Int32) < 0 ∨ 1 ≤ Int32.toNatClampNeg 0) by decide) dL_revoke_16 (fun H locs hP hD hS => ?_)
        have hP : va_P D vwCl (wX cI cJ x0 x1 x2 x3 x4 x5 x6 x7 x8 x9 g' rm op rc ec su pe qt rs rn cs cn lc hc lg hg ++ [(o0, .inl (cJ, 1, .inr (.inl (vp_updL u 0 0))))]) H := hP
        have hD : va_D A (wX cI cJ x0 x1 x2 x3 x4 x5 x6 x7 x8 x9 g' rm op rc ec su pe qt rs rn cs cn lc hc lg hg ++ [(o0, .inl (cJ, 1, .inr (.inl (vp_updL u 0 0))))]) := hD
        refine lv_goto (tgt := 24) hx hb dL_revoke_17 (by decide) ?_
        refine lv_iconst (v := 0) hx hb dL_revoke_24 (by decide) ?_
        exact W.iret hx hb hr (fun t ht hW => ⟨⟨_, (), rfl, rfl, by rw [ht]; exact hP, va_K.moved hW.alike hK, hD⟩, hS.F ht⟩) hS.2.2 dL_revoke_25
      · rw [show bl r9 = 1 from if_neg c_1]
        refine lv_lconst (v := 1) hx hb dL_revoke_11 (by decide) ?_
        refine lv_goto (tgt := 16) hx hb dL_revoke_12 (by decide) ?_
        refine va_last hx hb hK hP hD hS 10 1 rfl rfl (show ¬ ((0 : Int32) < 0 ∨ 1 ≤ Int32.toNatClampNeg 0) by decide) dL_revoke_16 (fun H locs hP hD hS => ?_)
        have hP : va_P D vwCl (wX cI cJ x0 x1 x2 x3 x4 x5 x6 x7 x8 x9 g' rm op rc ec su pe qt rs rn cs cn lc hc lg hg ++ [(o0, .inl (cJ, 1, .inr (.inl (vp_updL u 0 1))))]) H := hP
        have hD : va_D A (wX cI cJ x0 x1 x2 x3 x4 x5 x6 x7 x8 x9 g' rm op rc ec su pe qt rs rn cs cn lc hc lg hg ++ [(o0, .inl (cJ, 1, .inr (.inl (vp_updL u 0 1))))]) := hD
        refine lv_goto (tgt := 24) hx hb dL_revoke_17 (by decide) ?_
        refine lv_iconst (v := 0) hx hb dL_revoke_24 (by decide) ?_
        exact W.iret hx hb hr (fun t ht hW => ⟨⟨_, (), rfl, rfl, by rw [ht]; exact hP, va_K.moved hW.alike hK, hD⟩, hS.F ht⟩) hS.2.2 dL_revoke_25
    · cases (e1.symm.trans hr0)
-- L_setGrants
set_option maxHeartbeats 4000000 in
set_option maxRecDepth 100000 in
theorem c_L_setGrants (l : Launch) (hst : l.stackTraces = false) (D : va_G) (cI cJ : ClassId) (x0 x1 x2 x3 x4 x5 x6 x7 x8 x9 : Nat) (o0 : Nat) (sz : Nat) (g : Nat → Int32) (rm : Nat → Int32) (op : Nat → Int32) (rc : Int32) (ec : Int32) (su : Int32) (pe : Int32) (qt : Int32) (rs : Nat → Int32) (rn : Int32) (cs : Nat → Int32) (cn : Int32) (lc : Nat → Int64) (hc : Nat → Int64) (lg : Nat → Int64) (hg : Nat → Int64) (u : Nat → Int64) (fu : Nat) (a1 a2 : Int32) (r0 : String ⊕ Int32) (g' : Nat → Int32) (rm' : Nat → Int32) (h : m_X0_setGrants fu g rm qt a1 a2 = some (r0, g', rm')) (k : Int32) (u' : Nat → Int64) (hres : (∃ r, r0 = Sum.inr r ∧ k = 0 ∧ u' = vp_updL u 0 (r.toInt64)) ∨ (r0 = Sum.inl "java/lang/IndexOutOfBoundsException" ∧ k = 1 ∧ u' = u) ∨ (r0 = Sum.inl "java/lang/IllegalArgumentException" ∧ k = 2 ∧ u' = u)) : Met l yL_setGrants wsL_setGrants ({ frames := 7, cells := 1, slots := 6, locals := 114 }) (va_Pc [.ref x0, .int a1, .int a2, .ref o0] (bx_PreL D [(cI, .int), (cJ, .long)] (wX cI cJ x0 x1 x2 x3 x4 x5 x6 x7 x8 x9 g rm op rc ec su pe qt rs rn cs cn lc hc lg hg ++ [(o0, .inl (cJ, 1, .inr (.inl u)))]) sz)) (va_Qi (fun (r : Int32) (_ : Unit) => r = k) (fun (_ : Unit) t => bx_Post D [(cI, .int), (cJ, .long)] (wX cI cJ x0 x1 x2 x3 x4 x5 x6 x7 x8 x9 g' rm' op rc ec su pe qt rs rn cs cn lc hc lg hg ++ [(o0, .inl (cJ, 1, .inr (.inl u')))]) (va_A (wX cI cJ x0 x1 x2 x3 x4 x5 x6 x7 x8 x9 g rm op rc ec su pe qt rs rn cs cn lc hc lg hg ++ [(o0, .inl (cJ, 1, .inr (.inl u)))]) sz) t) (va_A (wX cI cJ x0 x1 x2 x3 x4 x5 x6 x7 x8 x9 g rm op rc ec su pe qt rs rn cs cn lc hc lg hg ++ [(o0, .inl (cJ, 1, .inr (.inl u)))]) sz)) 1 6 (va_A (wX cI cJ x0 x1 x2 x3 x4 x5 x6 x7 x8 x9 g rm op rc ec su pe qt rs rn cs cn lc hc lg hg ++ [(o0, .inl (cJ, 1, .inr (.inl u)))]) sz) := by
  refine va_MetW (cc := cL_setGrants) (maxL := 5) (ret := (some .int)) (hh := [(0, 10, 13, 13), (0, 10, 17, 22)]) (by decide) rfl ?_
  intro p e s m args below meth c s₁ B hml hv
  obtain ⟨rfl, hsz, hP, hK, hD0, hT⟩ := hv
  have hx := B.exec
  have hb := B.bytes
  have hr := B.returns
  have hts := atoms_spec (ws := wsL_setGrants) B.pre
  have hown : s.vm.findClass RL = some m.cls := findClass_of_methodNamed B.named
  have hlocks := B.notSynchronized
  have htab := vx_table (x := yL_setGrants) (y := yL_setGrants) (bytes := cL_setGrants) (maxL' := 5) (ret' := (some .int)) (hh := [(0, 10, 13, 13), (0, 10, 17, 22)]) B (hts _ List.mem_cons_self)
  subst hsz
  have hD := hD0.self (sz := s.heap.size)
  generalize hAe : va_A (wX cI cJ x0 x1 x2 x3 x4 x5 x6 x7 x8 x9 g rm op rc ec su pe qt rs rn cs cn lc hc lg hg ++ [(o0, .inl (cJ, 1, .inr (.inl u)))]) s.heap.size = A at hD hT ⊢
  have hA : ∀ q : Nat, s.heap.size ≤ q → A q := fun q h9 => by rw [← hAe]; exact Or.inr h9
  have hS : va_S A s.heap s.heap [] := va_S.rf
  have hk_0 := hts (.classLink RL 13 "java/lang/IndexOutOfBoundsException") (by decide +kernel)
  have hk_1 := hts (.classLink RL 22 "java/lang/IllegalArgumentException") (by decide +kernel)
  have hl := lv_entry ([.ref x0, .int a1, .int a2, .ref o0]) (n := 5) (Nat.le_of_ble_eq_true rfl)
  rw [lg_entry_eq]
  generalize (lg_sl ([.ref x0, .int a1, .int a2, .ref o0]) ++ List.replicate (5 - (lg_sl ([.ref x0, .int a1, .int a2, .ref o0])).length) Slot.unset).toArray = ls at hl ⊢
  have hl : lv_has ls 5 [(0, .ref x0), (1, .int a1), (2, .int a2), (3, .ref o0)] := hl
  refine lv_aload_n hx hb dL_setGrants_0 rfl (lv_at hl 3 rfl) ?_
  refine lv_iconst (v := 0) hx hb dL_setGrants_1 (by decide) ?_
  refine lv_aload_n hx hb dL_setGrants_2 rfl (lv_at hl 0 rfl) ?_
  refine lv_iload_n hx hb dL_setGrants_3 rfl (lv_at hl 1 rfl) ?_
  refine lv_iload_n hx hb dL_setGrants_4 rfl (lv_at hl 2 rfl) ?_
  refine cl_Xi (r0 := r0) (As := [.int a1, .int a2]) (rest := [.int 0, .ref o0]) (wc := wX cI cJ x0 x1 x2 x3 x4 x5 x6 x7 x8 x9 g rm op rc ec su pe qt rs rn cs cn lc hc lg hg) (w1 := wX cI cJ x0 x1 x2 x3 x4 x5 x6 x7 x8 x9 g' rm' op rc ec su pe qt rs rn cs cn lc hc lg hg) (wr := [(o0, .inl (cJ, 1, .inr (.inl u)))]) ⟨hx, hb, hml, hown, hts⟩ (c_X0_setGrants l hst D cI cJ x0 x1 x2 x3 x4 x5 x6 x7 x8 x9 _ g rm op rc ec su pe qt rs rn cs cn lc hc lg hg fu a1 a2 r0 g' rm' h) (cwV 2 hts gL_setGrants_X0_setGrants rfl rfl rfl (by decide +kernel) ⟨Nat.le_of_ble_eq_true rfl, Nat.le_of_ble_eq_true rfl⟩) hK hP hD hS hA hT.1 [0, 1, 2, 3, 4, 5, 6, 7, 8, 9] [10] rfl rfl (by decide) (by decide) rfl rfl rfl rfl rfl hl.1 rfl (lv_room (Nat.le_of_ble_eq_true rfl)) dL_setGrants_5 ⟨Nat.le_of_ble_eq_true rfl, Nat.le_of_ble_eq_true rfl⟩ (fun E ce q9 H locs hx0 hP hD hS hce hcv hcl => ?_) (fun r H locs hr0 hP hD hS => ?_)
  · rcases hres with ⟨r9, e1, -, -⟩ | ⟨e1, rfl, rfl⟩ | ⟨e1, rfl, rfl⟩
    · cases (e1.symm.trans hx0)
    · cases (e1.symm.trans hx0)
      replace hP := hP.sub (ws' := wX cI cJ x0 x1 x2 x3 x4 x5 x6 x7 x8 x9 g' rm' op rc ec su pe qt rs rn cs cn lc hc lg hg ++ [(o0, .inl (cJ, 1, .inr (.inl u')))]) [1, 2, 3, 4, 5, 6, 7, 8, 9, 10, 0] rfl
      replace hD := hD.sub (ws' := wX cI cJ x0 x1 x2 x3 x4 x5 x6 x7 x8 x9 g' rm' op rc ec su pe qt rs rn cs cn lc hc lg hg ++ [(o0, .inl (cJ, 1, .inr (.inl u')))]) [1, 2, 3, 4, 5, 6, 7, 8, 9, 10, 0] (by decide) rfl
      refine vx_catch (own := RL) (name := "java/lang/IndexOutOfBoundsException") hown [] { startPc := 0, endPc := 10, handlerPc := 13, catchType := 13 } [{ startPc := 0, endPc := 10, handlerPc := 17, catchType := 22 }] (htab.trans rfl) (fun z hz => nomatch hz) rfl (by decide) hk_0 (va_Nw.use (A := _) rfl hT.1.1.1) hce hcv hcl ?_
      refine W.eq (g2 := F0 m 13 ls [.ref q9]) rfl ?_
      refine lv_astore (lv' := [(4, .ref q9), (0, .ref x0), (1, .int a1), (2, .int a2), (3, .ref o0)]) hx hb dL_setGrants_13 hl (by decide) rfl (fun ls hl => ?_)
      refine lv_iconst (v := 1) hx hb dL_setGrants_15 (by decide) ?_
      exact W.iret hx hb hr (fun t ht hW => ⟨⟨_, (), rfl, rfl, by rw [ht]; exact hP, va_K.moved hW.alike hK, hD⟩, hS.F ht⟩) hS.2.2 dL_setGrants_16
    · cases (e1.symm.trans hx0)
      replace hP := hP.sub (ws' := wX cI cJ x0 x1 x2 x3 x4 x5 x6 x7 x8 x9 g' rm' op rc ec su pe qt rs rn cs cn lc hc lg hg ++ [(o0, .inl (cJ, 1, .inr (.inl u')))]) [1, 2, 3, 4, 5, 6, 7, 8, 9, 10, 0] rfl
      replace hD := hD.sub (ws' := wX cI cJ x0 x1 x2 x3 x4 x5 x6 x7 x8 x9 g' rm' op rc ec su pe qt rs rn cs cn lc hc lg hg ++ [(o0, .inl (cJ, 1, .inr (.inl u')))]) [1, 2, 3, 4, 5, 6, 7, 8, 9, 10, 0] (by decide) rfl
      refine vx_catch (own := RL) (name := "java/lang/IllegalArgumentException") hown [{ startPc := 0, endPc := 10, handlerPc := 13, catchType := 13 }] { startPc := 0, endPc := 10, handlerPc := 17, catchType := 22 } [] (htab.trans rfl) (fun z hz => by rw [List.mem_singleton] at hz; subst hz; exact Or.inr ⟨by decide, _, hk_0, hT.2.1⟩) rfl (by decide) hk_1 (va_Nw.use (A := _) rfl hT.1.1.2.1) hce hcv hcl ?_
      refine W.eq (g2 := F0 m 17 ls [.ref q9]) rfl ?_
      refine lv_astore (lv' := [(4, .ref q9), (0, .ref x0), (1, .int a1), (2, .int a2), (3, .ref o0)]) hx hb dL_setGrants_17 hl (by decide) rfl (fun ls hl => ?_)
      refine lv_iconst (v := 2) hx hb dL_setGrants_19 (by decide) ?_
      exact W.iret hx hb hr (fun t ht hW => ⟨⟨_, (), rfl, rfl, by rw [ht]; exact hP, va_K.moved hW.alike hK, hD⟩, hS.F ht⟩) hS.2.2 dL_setGrants_20
  · rcases hres with ⟨r9, e1, rfl, rfl⟩ | ⟨e1, -, -⟩ | ⟨e1, -, -⟩
    · have e2 : r9 = r := Sum.inr.inj (e1.symm.trans hr0)
      subst e2
      replace hP := hP.sub (ws' := wX cI cJ x0 x1 x2 x3 x4 x5 x6 x7 x8 x9 g' rm' op rc ec su pe qt rs rn cs cn lc hc lg hg ++ [(o0, .inl (cJ, 1, .inr (.inl u)))]) [1, 2, 3, 4, 5, 6, 7, 8, 9, 10, 0] rfl
      replace hD := hD.sub (ws' := wX cI cJ x0 x1 x2 x3 x4 x5 x6 x7 x8 x9 g' rm' op rc ec su pe qt rs rn cs cn lc hc lg hg ++ [(o0, .inl (cJ, 1, .inr (.inl u)))]) [1, 2, 3, 4, 5, 6, 7, 8, 9, 10, 0] (by decide) rfl
      refine lv_i2l (v := r9.toInt64) hx hb dL_setGrants_8 rfl ?_
      refine va_last hx hb hK hP hD hS 10 1 rfl rfl (show ¬ ((0 : Int32) < 0 ∨ 1 ≤ Int32.toNatClampNeg 0) by decide) dL_setGrants_9 (fun H locs hP hD hS => ?_)
      have hP : va_P D vwCl (wX cI cJ x0 x1 x2 x3 x4 x5 x6 x7 x8 x9 g' rm' op rc ec su pe qt rs rn cs cn lc hc lg hg ++ [(o0, .inl (cJ, 1, .inr (.inl (vp_updL u 0 r9.toInt64))))]) H := hP
      have hD : va_D A (wX cI cJ x0 x1 x2 x3 x4 x5 x6 x7 x8 x9 g' rm' op rc ec su pe qt rs rn cs cn lc hc lg hg ++ [(o0, .inl (cJ, 1, .inr (.inl (vp_updL u 0 r9.toInt64))))]) := hD
      refine lv_goto (tgt := 21) hx hb dL_setGrants_10 (by decide) ?_
      refine lv_iconst (v := 0) hx hb dL_setGrants_21 (by decide) ?_
      exact W.iret hx hb hr (fun t ht hW => ⟨⟨_, (), rfl, rfl, by rw [ht]; exact hP, va_K.moved hW.alike hK, hD⟩, hS.F ht⟩) hS.2.2 dL_setGrants_22
    · cases (e1.symm.trans hr0)
    · cases (e1.symm.trans hr0)
-- L_setConflict
set_option maxHeartbeats 4000000 in
set_option maxRecDepth 100000 in
theorem c_L_setConflict (l : Launch) (hst : l.stackTraces = false) (D : va_G) (cI cJ : ClassId) (x0 x1 x2 x3 x4 x5 x6 x7 x8 x9 : Nat) (o0 : Nat) (sz : Nat) (g : Nat → Int32) (rm : Nat → Int32) (op : Nat → Int32) (rc : Int32) (ec : Int32) (su : Int32) (pe : Int32) (qt : Int32) (rs : Nat → Int32) (rn : Int32) (cs : Nat → Int32) (cn : Int32) (lc : Nat → Int64) (hc : Nat → Int64) (lg : Nat → Int64) (hg : Nat → Int64) (u : Nat → Int64) (a1 a2 a3 : Int32) (r0 : String ⊕ Int32) (op' : Nat → Int32) (h : m_X0_setConflict op a1 a2 a3 = some (r0, op')) (k : Int32) (u' : Nat → Int64) (hres : (∃ r, r0 = Sum.inr r ∧ k = 0 ∧ u' = vp_updL u 0 (bl r)) ∨ (r0 = Sum.inl "java/lang/IndexOutOfBoundsException" ∧ k = 1 ∧ u' = u) ∨ (r0 = Sum.inl "java/lang/IllegalArgumentException" ∧ k = 2 ∧ u' = u)) : Met l yL_setConflict wsL_setConflict ({ frames := 7, cells := 1, slots := 6, locals := 114 }) (va_Pc [.ref x0, .int a1, .int a2, .int a3, .ref o0] (bx_PreL D [(cI, .int), (cJ, .long)] (wX cI cJ x0 x1 x2 x3 x4 x5 x6 x7 x8 x9 g rm op rc ec su pe qt rs rn cs cn lc hc lg hg ++ [(o0, .inl (cJ, 1, .inr (.inl u)))]) sz)) (va_Qi (fun (r : Int32) (_ : Unit) => r = k) (fun (_ : Unit) t => bx_Post D [(cI, .int), (cJ, .long)] (wX cI cJ x0 x1 x2 x3 x4 x5 x6 x7 x8 x9 g rm op' rc ec su pe qt rs rn cs cn lc hc lg hg ++ [(o0, .inl (cJ, 1, .inr (.inl u')))]) (va_A (wX cI cJ x0 x1 x2 x3 x4 x5 x6 x7 x8 x9 g rm op rc ec su pe qt rs rn cs cn lc hc lg hg ++ [(o0, .inl (cJ, 1, .inr (.inl u)))]) sz) t) (va_A (wX cI cJ x0 x1 x2 x3 x4 x5 x6 x7 x8 x9 g rm op rc ec su pe qt rs rn cs cn lc hc lg hg ++ [(o0, .inl (cJ, 1, .inr (.inl u)))]) sz)) 1 6 (va_A (wX cI cJ x0 x1 x2 x3 x4 x5 x6 x7 x8 x9 g rm op rc ec su pe qt rs rn cs cn lc hc lg hg ++ [(o0, .inl (cJ, 1, .inr (.inl u)))]) sz) := by
  refine va_MetW (cc := cL_setConflict) (maxL := 6) (ret := (some .int)) (hh := [(0, 19, 22, 13), (0, 19, 26, 22)]) (by decide) rfl ?_
  intro p e s m args below meth c s₁ B hml hv
  obtain ⟨rfl, hsz, hP, hK, hD0, hT⟩ := hv
  have hx := B.exec
  have hb := B.bytes
  have hr := B.returns
  have hts := atoms_spec (ws := wsL_setConflict) B.pre
  have hown : s.vm.findClass RL = some m.cls := findClass_of_methodNamed B.named
  have hlocks := B.notSynchronized
  have htab := vx_table (x := yL_setConflict) (y := yL_setConflict) (bytes := cL_setConflict) (maxL' := 6) (ret' := (some .int)) (hh := [(0, 19, 22, 13), (0, 19, 26, 22)]) B (hts _ List.mem_cons_self)
  subst hsz
  have hD := hD0.self (sz := s.heap.size)
  generalize hAe : va_A (wX cI cJ x0 x1 x2 x3 x4 x5 x6 x7 x8 x9 g rm op rc ec su pe qt rs rn cs cn lc hc lg hg ++ [(o0, .inl (cJ, 1, .inr (.inl u)))]) s.heap.size = A at hD hT ⊢
  have hA : ∀ q : Nat, s.heap.size ≤ q → A q := fun q h9 => by rw [← hAe]; exact Or.inr h9
  have hS : va_S A s.heap s.heap [] := va_S.rf
  have hk_0 := hts (.classLink RL 13 "java/lang/IndexOutOfBoundsException") (by decide +kernel)
  have hk_1 := hts (.classLink RL 22 "java/lang/IllegalArgumentException") (by decide +kernel)
  have hl := lv_entry ([.ref x0, .int a1, .int a2, .int a3, .ref o0]) (n := 6) (Nat.le_of_ble_eq_true rfl)
  rw [lg_entry_eq]
  generalize (lg_sl ([.ref x0, .int a1, .int a2, .int a3, .ref o0]) ++ List.replicate (6 - (lg_sl ([.ref x0, .int a1, .int a2, .int a3, .ref o0])).length) Slot.unset).toArray = ls at hl ⊢
  have hl : lv_has ls 6 [(0, .ref x0), (1, .int a1), (2, .int a2), (3, .int a3), (4, .ref o0)] := hl
  refine lv_aload hx hb dL_setConflict_0 (lv_at hl 4 rfl) ?_
  refine lv_iconst (v := 0) hx hb dL_setConflict_2 (by decide) ?_
  refine lv_aload_n hx hb dL_setConflict_3 rfl (lv_at hl 0 rfl) ?_
  refine lv_iload_n hx hb dL_setConflict_4 rfl (lv_at hl 1 rfl) ?_
  refine lv_iload_n hx hb dL_setConflict_5 rfl (lv_at hl 2 rfl) ?_
  refine lv_iload_n hx hb dL_setConflict_6 rfl (lv_at hl 3 rfl) ?_
  refine cl_Xi (r0 := r0) (As := [.int a1, .int a2, .int a3]) (rest := [.int 0, .ref o0]) (wc := wX cI cJ x0 x1 x2 x3 x4 x5 x6 x7 x8 x9 g rm op rc ec su pe qt rs rn cs cn lc hc lg hg) (w1 := wX cI cJ x0 x1 x2 x3 x4 x5 x6 x7 x8 x9 g rm op' rc ec su pe qt rs rn cs cn lc hc lg hg) (wr := [(o0, .inl (cJ, 1, .inr (.inl u)))]) ⟨hx, hb, hml, hown, hts⟩ (c_X0_setConflict l hst D cI cJ x0 x1 x2 x3 x4 x5 x6 x7 x8 x9 _ g rm op rc ec su pe qt rs rn cs cn lc hc lg hg a1 a2 a3 r0 op' h) (cwV 3 hts gL_setConflict_X0_setConflict rfl rfl rfl (by decide +kernel) ⟨Nat.le_of_ble_eq_true rfl, Nat.le_of_ble_eq_true rfl⟩) hK hP hD hS hA hT.1 [0, 1, 2, 3, 4, 5, 6, 7, 8, 9] [10] rfl rfl (by decide) (by decide) rfl rfl rfl rfl rfl hl.1 rfl (lv_room (Nat.le_of_ble_eq_true rfl)) dL_setConflict_7 ⟨Nat.le_of_ble_eq_true rfl, Nat.le_of_ble_eq_true rfl⟩ (fun E ce q9 H locs hx0 hP hD hS hce hcv hcl => ?_) (fun r H locs hr0 hP hD hS => ?_)
  · rcases hres with ⟨r9, e1, -, -⟩ | ⟨e1, rfl, rfl⟩ | ⟨e1, rfl, rfl⟩
    · cases (e1.symm.trans hx0)
    · cases (e1.symm.trans hx0)
      replace hP := hP.sub (ws' := wX cI cJ x0 x1 x2 x3 x4 x5 x6 x7 x8 x9 g rm op' rc ec su pe qt rs rn cs cn lc hc lg hg ++ [(o0, .inl (cJ, 1, .inr (.inl u')))]) [1, 2, 3, 4, 5, 6, 7, 8, 9, 10, 0] rfl
      replace hD := hD.sub (ws' := wX cI cJ x0 x1 x2 x3 x4 x5 x6 x7 x8 x9 g rm op' rc ec su pe qt rs rn cs cn lc hc lg hg ++ [(o0, .inl (cJ, 1, .inr (.inl u')))]) [1, 2, 3, 4, 5, 6, 7, 8, 9, 10, 0] (by decide) rfl
      refine vx_catch (own := RL) (name := "java/lang/IndexOutOfBoundsException") hown [] { startPc := 0, endPc := 19, handlerPc := 22, catchType := 13 } [{ startPc := 0, endPc := 19, handlerPc := 26, catchType := 22 }] (htab.trans rfl) (fun z hz => nomatch hz) rfl (by decide) hk_0 (va_Nw.use (A := _) rfl hT.1.1.1) hce hcv hcl ?_
      refine W.eq (g2 := F0 m 22 ls [.ref q9]) rfl ?_
      refine lv_astore (lv' := [(5, .ref q9), (0, .ref x0), (1, .int a1), (2, .int a2), (3, .int a3), (4, .ref o0)]) hx hb dL_setConflict_22 hl (by decide) rfl (fun ls hl => ?_)
      refine lv_iconst (v := 1) hx hb dL_setConflict_24 (by decide) ?_
      exact W.iret hx hb hr (fun t ht hW => ⟨⟨_, (), rfl, rfl, by rw [ht]; exact hP, va_K.moved hW.alike hK, hD⟩, hS.F ht⟩) hS.2.2 dL_setConflict_25
    · cases (e1.symm.trans hx0)
      replace hP := hP.sub (ws' := wX cI cJ x0 x1 x2 x3 x4 x5 x6 x7 x8 x9 g rm op' rc ec su pe qt rs rn cs cn lc hc lg hg ++ [(o0, .inl (cJ, 1, .inr (.inl u')))]) [1, 2, 3, 4, 5, 6, 7, 8, 9, 10, 0] rfl
      replace hD := hD.sub (ws' := wX cI cJ x0 x1 x2 x3 x4 x5 x6 x7 x8 x9 g rm op' rc ec su pe qt rs rn cs cn lc hc lg hg ++ [(o0, .inl (cJ, 1, .inr (.inl u')))]) [1, 2, 3, 4, 5, 6, 7, 8, 9, 10, 0] (by decide) rfl
      refine vx_catch (own := RL) (name := "java/lang/IllegalArgumentException") hown [{ startPc := 0, endPc := 19, handlerPc := 22, catchType := 13 }] { startPc := 0, endPc := 19, handlerPc := 26, catchType := 22 } [] (htab.trans rfl) (fun z hz => by rw [List.mem_singleton] at hz; subst hz; exact Or.inr ⟨by decide, _, hk_0, hT.2.1⟩) rfl (by decide) hk_1 (va_Nw.use (A := _) rfl hT.1.1.2.1) hce hcv hcl ?_
      refine W.eq (g2 := F0 m 26 ls [.ref q9]) rfl ?_
      refine lv_astore (lv' := [(5, .ref q9), (0, .ref x0), (1, .int a1), (2, .int a2), (3, .int a3), (4, .ref o0)]) hx hb dL_setConflict_26 hl (by decide) rfl (fun ls hl => ?_)
      refine lv_iconst (v := 2) hx hb dL_setConflict_28 (by decide) ?_
      exact W.iret hx hb hr (fun t ht hW => ⟨⟨_, (), rfl, rfl, by rw [ht]; exact hP, va_K.moved hW.alike hK, hD⟩, hS.F ht⟩) hS.2.2 dL_setConflict_29
  · rcases hres with ⟨r9, e1, rfl, rfl⟩ | ⟨e1, -, -⟩ | ⟨e1, -, -⟩
    · have e2 : r9 = r := Sum.inr.inj (e1.symm.trans hr0)
      subst e2
      replace hP := hP.sub (ws' := wX cI cJ x0 x1 x2 x3 x4 x5 x6 x7 x8 x9 g rm op' rc ec su pe qt rs rn cs cn lc hc lg hg ++ [(o0, .inl (cJ, 1, .inr (.inl u)))]) [1, 2, 3, 4, 5, 6, 7, 8, 9, 10, 0] rfl
      replace hD := hD.sub (ws' := wX cI cJ x0 x1 x2 x3 x4 x5 x6 x7 x8 x9 g rm op' rc ec su pe qt rs rn cs cn lc hc lg hg ++ [(o0, .inl (cJ, 1, .inr (.inl u)))]) [1, 2, 3, 4, 5, 6, 7, 8, 9, 10, 0] (by decide) rfl
      refine lv_if_eq (tgt := 17) hx hb dL_setConflict_10 (by decide) (fun c_1 => ?_) (fun c_1 => ?_)
      · rw [show bl r9 = 0 from if_pos c_1]
        refine lv_lconst (v := 0) hx hb dL_setConflict_17 (by decide) ?_
        refine va_last hx hb hK hP hD hS 10 1 rfl rfl (show ¬ ((0 : Int32) < 0 ∨ 1 ≤ Int32.toNatClampNeg 0) by decide) dL_setConflict_18 (fun H locs hP hD hS => ?_)
        have hP : va_P D vwCl (wX cI cJ x0 x1 x2 x3 x4 x5 x6 x7 x8 x9 g rm op' rc ec su pe qt rs rn cs cn lc hc lg hg ++ [(o0, .inl (cJ, 1, .inr (.inl (vp_updL u 0 0))))]) H := hP
        have hD : va_D A (wX cI cJ x0 x1 x2 x3 x4 x5 x6 x7 x8 x9 g rm op' rc ec su pe qt rs rn cs cn lc hc lg hg ++ [(o0, .inl (cJ, 1, .inr (.inl (vp_updL u 0 0))))]) := hD
        refine lv_goto (tgt := 30) hx hb dL_setConflict_19 (by decide) ?_
        refine lv_iconst (v := 0) hx hb dL_setConflict_30 (by decide) ?_
        exact W.iret hx hb hr (fun t ht hW => ⟨⟨_, (), rfl, rfl, by rw [ht]; exact hP, va_K.moved hW.alike hK, hD⟩, hS.F ht⟩) hS.2.2 dL_setConflict_31
      · rw [show bl r9 = 1 from if_neg c_1]
        refine lv_lconst (v := 1) hx hb dL_setConflict_13 (by decide) ?_
        refine lv_goto (tgt := 18) hx hb dL_setConflict_14 (by decide) ?_
        refine va_last hx hb hK hP hD hS 10 1 rfl rfl (show ¬ ((0 : Int32) < 0 ∨ 1 ≤ Int32.toNatClampNeg 0) by decide) dL_setConflict_18 (fun H locs hP hD hS => ?_)
        have hP : va_P D vwCl (wX cI cJ x0 x1 x2 x3 x4 x5 x6 x7 x8 x9 g rm op' rc ec su pe qt rs rn cs cn lc hc lg hg ++ [(o0, .inl (cJ, 1, .inr (.inl (vp_updL u 0 1))))]) H := hP
        have hD : va_D A (wX cI cJ x0 x1 x2 x3 x4 x5 x6 x7 x8 x9 g rm op' rc ec su pe qt rs rn cs cn lc hc lg hg ++ [(o0, .inl (cJ, 1, .inr (.inl (vp_updL u 0 1))))]) := hD
        refine lv_goto (tgt := 30) hx hb dL_setConflict_19 (by decide) ?_
        refine lv_iconst (v := 0) hx hb dL_setConflict_30 (by decide) ?_
        exact W.iret hx hb hr (fun t ht hW => ⟨⟨_, (), rfl, rfl, by rw [ht]; exact hP, va_K.moved hW.alike hK, hD⟩, hS.F ht⟩) hS.2.2 dL_setConflict_31
    · cases (e1.symm.trans hr0)
    · cases (e1.symm.trans hr0)
-- L_setCosts
set_option maxHeartbeats 4000000 in
set_option maxRecDepth 100000 in
theorem c_L_setCosts (l : Launch) (hst : l.stackTraces = false) (D : va_G) (cI cJ : ClassId) (x0 x1 x2 x3 x4 x5 x6 x7 x8 x9 : Nat) (sz : Nat) (g : Nat → Int32) (rm : Nat → Int32) (op : Nat → Int32) (rc : Int32) (ec : Int32) (su : Int32) (pe : Int32) (qt : Int32) (rs : Nat → Int32) (rn : Int32) (cs : Nat → Int32) (cn : Int32) (lc : Nat → Int64) (hc : Nat → Int64) (lg : Nat → Int64) (hg : Nat → Int64) (a1 a2 : Int32) (r0 : String ⊕ Int32) (rc' : Int32) (ec' : Int32) (h : m_X0_setCosts rc ec a1 a2 = some (r0, rc', ec')) (k : Int32) (hres : (∃ r, r0 = Sum.inr r ∧ k = 0) ∨ (r0 = Sum.inl "java/lang/IllegalArgumentException" ∧ k = 1)) : Met l yL_setCosts wsL_setCosts ({ frames := 7, cells := 1, slots := 6, locals := 112 }) (va_Pc [.ref x0, .int a1, .int a2] (bx_PreL D [(cI, .int), (cJ, .long)] (wX cI cJ x0 x1 x2 x3 x4 x5 x6 x7 x8 x9 g rm op rc ec su pe qt rs rn cs cn lc hc lg hg) sz)) (va_Qi (fun (r : Int32) (_ : Unit) => r = k) (fun (_ : Unit) t => bx_Post D [(cI, .int), (cJ, .long)] (wX cI cJ x0 x1 x2 x3 x4 x5 x6 x7 x8 x9 g rm op rc' ec' su pe qt rs rn cs cn lc hc lg hg) (va_A (wX cI cJ x0 x1 x2 x3 x4 x5 x6 x7 x8 x9 g rm op rc ec su pe qt rs rn cs cn lc hc lg hg) sz) t) (va_A (wX cI cJ x0 x1 x2 x3 x4 x5 x6 x7 x8 x9 g rm op rc ec su pe qt rs rn cs cn lc hc lg hg) sz)) 1 6 (va_A (wX cI cJ x0 x1 x2 x3 x4 x5 x6 x7 x8 x9 g rm op rc ec su pe qt rs rn cs cn lc hc lg hg) sz) := by
  refine va_MetW (cc := cL_setCosts) (maxL := 4) (ret := (some .int)) (hh := [(0, 6, 9, 22)]) (by decide) rfl ?_
  intro p e s m args below meth c s₁ B hml hv
  obtain ⟨rfl, hsz, hP, hK, hD0, hT⟩ := hv
  have hx := B.exec
  have hb := B.bytes
  have hr := B.returns
  have hts := atoms_spec (ws := wsL_setCosts) B.pre
  have hown : s.vm.findClass RL = some m.cls := findClass_of_methodNamed B.named
  have hlocks := B.notSynchronized
  have htab := vx_table (x := yL_setCosts) (y := yL_setCosts) (bytes := cL_setCosts) (maxL' := 4) (ret' := (some .int)) (hh := [(0, 6, 9, 22)]) B (hts _ List.mem_cons_self)
  subst hsz
  have hD := hD0.self (sz := s.heap.size)
  generalize hAe : va_A (wX cI cJ x0 x1 x2 x3 x4 x5 x6 x7 x8 x9 g rm op rc ec su pe qt rs rn cs cn lc hc lg hg) s.heap.size = A at hD hT ⊢
  have hA : ∀ q : Nat, s.heap.size ≤ q → A q := fun q h9 => by rw [← hAe]; exact Or.inr h9
  have hS : va_S A s.heap s.heap [] := va_S.rf
  have hk_0 := hts (.classLink RL 22 "java/lang/IllegalArgumentException") (by decide +kernel)
  have hl := lv_entry ([.ref x0, .int a1, .int a2]) (n := 4) (Nat.le_of_ble_eq_true rfl)
  rw [lg_entry_eq]
  generalize (lg_sl ([.ref x0, .int a1, .int a2]) ++ List.replicate (4 - (lg_sl ([.ref x0, .int a1, .int a2])).length) Slot.unset).toArray = ls at hl ⊢
  have hl : lv_has ls 4 [(0, .ref x0), (1, .int a1), (2, .int a2)] := hl
  refine lv_aload_n hx hb dL_setCosts_0 rfl (lv_at hl 0 rfl) ?_
  refine lv_iload_n hx hb dL_setCosts_1 rfl (lv_at hl 1 rfl) ?_
  refine lv_iload_n hx hb dL_setCosts_2 rfl (lv_at hl 2 rfl) ?_
  refine cl_Xv (r0 := r0) (As := [.int a1, .int a2]) (rest := []) (wc := wX cI cJ x0 x1 x2 x3 x4 x5 x6 x7 x8 x9 g rm op rc ec su pe qt rs rn cs cn lc hc lg hg) (w1 := wX cI cJ x0 x1 x2 x3 x4 x5 x6 x7 x8 x9 g rm op rc' ec' su pe qt rs rn cs cn lc hc lg hg) (wr := []) ⟨hx, hb, hml, hown, hts⟩ (c_X0_setCosts l hst D cI cJ x0 x1 x2 x3 x4 x5 x6 x7 x8 x9 _ g rm op rc ec su pe qt rs rn cs cn lc hc lg hg a1 a2 r0 rc' ec' h) (cwV 2 hts gL_setCosts_X0_setCosts rfl rfl rfl (by decide +kernel) ⟨Nat.le_of_ble_eq_true rfl, Nat.le_of_ble_eq_true rfl⟩) hK hP hD hS hA hT.1 [0, 1, 2, 3, 4, 5, 6, 7, 8, 9] [] rfl rfl (by decide) (by decide) rfl rfl rfl rfl rfl hl.1 rfl (lv_room (Nat.le_of_ble_eq_true rfl)) dL_setCosts_3 ⟨Nat.le_of_ble_eq_true rfl, Nat.le_of_ble_eq_true rfl⟩ (fun E ce q9 H locs hx0 hP hD hS hce hcv hcl => ?_) (fun H locs hr0 hP hD hS => ?_)
  · rcases hres with ⟨r9, e1, -⟩ | ⟨e1, rfl⟩
    · cases (e1.symm.trans hx0)
    · cases (e1.symm.trans hx0)
      have hP : va_P D vwCl (wX cI cJ x0 x1 x2 x3 x4 x5 x6 x7 x8 x9 g rm op rc' ec' su pe qt rs rn cs cn lc hc lg hg) H := hP
      have hD : va_D A (wX cI cJ x0 x1 x2 x3 x4 x5 x6 x7 x8 x9 g rm op rc' ec' su pe qt rs rn cs cn lc hc lg hg) := hD
      refine vx_catch (own := RL) (name := "java/lang/IllegalArgumentException") hown [] { startPc := 0, endPc := 6, handlerPc := 9, catchType := 22 } [] (htab.trans rfl) (fun z hz => nomatch hz) rfl (by decide) hk_0 (va_Nw.use (A := _) rfl hT.1.1.2.1) hce hcv hcl ?_
      refine W.eq (g2 := F0 m 9 ls [.ref q9]) rfl ?_
      refine lv_astore_n (lv' := [(3, .ref q9), (0, .ref x0), (1, .int a1), (2, .int a2)]) hx hb dL_setCosts_9 rfl hl (by decide) rfl (fun ls hl => ?_)
      refine lv_iconst (v := 1) hx hb dL_setCosts_10 (by decide) ?_
      exact W.iret hx hb hr (fun t ht hW => ⟨⟨_, (), rfl, rfl, by rw [ht]; exact hP, va_K.moved hW.alike hK, hD⟩, hS.F ht⟩) hS.2.2 dL_setCosts_11
  · rcases hres with ⟨r9, e1, rfl⟩ | ⟨e1, -⟩
    · have hP : va_P D vwCl (wX cI cJ x0 x1 x2 x3 x4 x5 x6 x7 x8 x9 g rm op rc' ec' su pe qt rs rn cs cn lc hc lg hg) H := hP
      have hD : va_D A (wX cI cJ x0 x1 x2 x3 x4 x5 x6 x7 x8 x9 g rm op rc' ec' su pe qt rs rn cs cn lc hc lg hg) := hD
      refine lv_goto (tgt := 12) hx hb dL_setCosts_6 (by decide) ?_
      refine lv_iconst (v := 0) hx hb dL_setCosts_12 (by decide) ?_
      exact W.iret hx hb hr (fun t ht hW => ⟨⟨_, (), rfl, rfl, by rw [ht]; exact hP, va_K.moved hW.alike hK, hD⟩, hS.F ht⟩) hS.2.2 dL_setCosts_13
    · cases (e1.symm.trans hr0)
-- L_setSupport
set_option maxHeartbeats 4000000 in
set_option maxRecDepth 100000 in
theorem c_L_setSupport (l : Launch) (hst : l.stackTraces = false) (D : va_G) (cI cJ : ClassId) (x0 x1 x2 x3 x4 x5 x6 x7 x8 x9 : Nat) (o0 : Nat) (sz : Nat) (g : Nat → Int32) (rm : Nat → Int32) (op : Nat → Int32) (rc : Int32) (ec : Int32) (su : Int32) (pe : Int32) (qt : Int32) (rs : Nat → Int32) (rn : Int32) (cs : Nat → Int32) (cn : Int32) (lc : Nat → Int64) (hc : Nat → Int64) (lg : Nat → Int64) (hg : Nat → Int64) (u : Nat → Int64) (a1 : Int32) (r0 : String ⊕ Int32) (su' : Int32) (h : m_X0_setSupport su a1 = some (r0, su')) (k : Int32) (u' : Nat → Int64) (hres : (∃ r, r0 = Sum.inr r ∧ k = 0 ∧ u' = vp_updL u 0 (r.toInt64)) ∨ (r0 = Sum.inl "java/lang/IllegalArgumentException" ∧ k = 1 ∧ u' = u)) : Met l yL_setSupport wsL_setSupport ({ frames := 7, cells := 1, slots := 6, locals := 112 }) (va_Pc [.ref x0, .int a1, .ref o0] (bx_PreL D [(cI, .int), (cJ, .long)] (wX cI cJ x0 x1 x2 x3 x4 x5 x6 x7 x8 x9 g rm op rc ec su pe qt rs rn cs cn lc hc lg hg ++ [(o0, .inl (cJ, 1, .inr (.inl u)))]) sz)) (va_Qi (fun (r : Int32) (_ : Unit) => r = k) (fun (_ : Unit) t => bx_Post D [(cI, .int), (cJ, .long)] (wX cI cJ x0 x1 x2 x3 x4 x5 x6 x7 x8 x9 g rm op rc ec su' pe qt rs rn cs cn lc hc lg hg ++ [(o0, .inl (cJ, 1, .inr (.inl u')))]) (va_A (wX cI cJ x0 x1 x2 x3 x4 x5 x6 x7 x8 x9 g rm op rc ec su pe qt rs rn cs cn lc hc lg hg ++ [(o0, .inl (cJ, 1, .inr (.inl u)))]) sz) t) (va_A (wX cI cJ x0 x1 x2 x3 x4 x5 x6 x7 x8 x9 g rm op rc ec su pe qt rs rn cs cn lc hc lg hg ++ [(o0, .inl (cJ, 1, .inr (.inl u)))]) sz)) 1 6 (va_A (wX cI cJ x0 x1 x2 x3 x4 x5 x6 x7 x8 x9 g rm op rc ec su pe qt rs rn cs cn lc hc lg hg ++ [(o0, .inl (cJ, 1, .inr (.inl u)))]) sz) := by
  refine va_MetW (cc := cL_setSupport) (maxL := 4) (ret := (some .int)) (hh := [(0, 9, 12, 22)]) (by decide) rfl ?_
  intro p e s m args below meth c s₁ B hml hv
  obtain ⟨rfl, hsz, hP, hK, hD0, hT⟩ := hv
  have hx := B.exec
  have hb := B.bytes
  have hr := B.returns
  have hts := atoms_spec (ws := wsL_setSupport) B.pre
  have hown : s.vm.findClass RL = some m.cls := findClass_of_methodNamed B.named
  have hlocks := B.notSynchronized
  have htab := vx_table (x := yL_setSupport) (y := yL_setSupport) (bytes := cL_setSupport) (maxL' := 4) (ret' := (some .int)) (hh := [(0, 9, 12, 22)]) B (hts _ List.mem_cons_self)
  subst hsz
  have hD := hD0.self (sz := s.heap.size)
  generalize hAe : va_A (wX cI cJ x0 x1 x2 x3 x4 x5 x6 x7 x8 x9 g rm op rc ec su pe qt rs rn cs cn lc hc lg hg ++ [(o0, .inl (cJ, 1, .inr (.inl u)))]) s.heap.size = A at hD hT ⊢
  have hA : ∀ q : Nat, s.heap.size ≤ q → A q := fun q h9 => by rw [← hAe]; exact Or.inr h9
  have hS : va_S A s.heap s.heap [] := va_S.rf
  have hk_0 := hts (.classLink RL 22 "java/lang/IllegalArgumentException") (by decide +kernel)
  have hl := lv_entry ([.ref x0, .int a1, .ref o0]) (n := 4) (Nat.le_of_ble_eq_true rfl)
  rw [lg_entry_eq]
  generalize (lg_sl ([.ref x0, .int a1, .ref o0]) ++ List.replicate (4 - (lg_sl ([.ref x0, .int a1, .ref o0])).length) Slot.unset).toArray = ls at hl ⊢
  have hl : lv_has ls 4 [(0, .ref x0), (1, .int a1), (2, .ref o0)] := hl
  refine lv_aload_n hx hb dL_setSupport_0 rfl (lv_at hl 2 rfl) ?_
  refine lv_iconst (v := 0) hx hb dL_setSupport_1 (by decide) ?_
  refine lv_aload_n hx hb dL_setSupport_2 rfl (lv_at hl 0 rfl) ?_
  refine lv_iload_n hx hb dL_setSupport_3 rfl (lv_at hl 1 rfl) ?_
  refine cl_Xi (r0 := r0) (As := [.int a1]) (rest := [.int 0, .ref o0]) (wc := wX cI cJ x0 x1 x2 x3 x4 x5 x6 x7 x8 x9 g rm op rc ec su pe qt rs rn cs cn lc hc lg hg) (w1 := wX cI cJ x0 x1 x2 x3 x4 x5 x6 x7 x8 x9 g rm op rc ec su' pe qt rs rn cs cn lc hc lg hg) (wr := [(o0, .inl (cJ, 1, .inr (.inl u)))]) ⟨hx, hb, hml, hown, hts⟩ (c_X0_setSupport l hst D cI cJ x0 x1 x2 x3 x4 x5 x6 x7 x8 x9 _ g rm op rc ec su pe qt rs rn cs cn lc hc lg hg a1 r0 su' h) (cwV 1 hts gL_setSupport_X0_setSupport rfl rfl rfl (by decide +kernel) ⟨Nat.le_of_ble_eq_true rfl, Nat.le_of_ble_eq_true rfl⟩) hK hP hD hS hA hT.1 [0, 1, 2, 3, 4, 5, 6, 7, 8, 9] [10] rfl rfl (by decide) (by decide) rfl rfl rfl rfl rfl hl.1 rfl (lv_room (Nat.le_of_ble_eq_true rfl)) dL_setSupport_4 ⟨Nat.le_of_ble_eq_true rfl, Nat.le_of_ble_eq_true rfl⟩ (fun E ce q9 H locs hx0 hP hD hS hce hcv hcl => ?_) (fun r H locs hr0 hP hD hS => ?_)
  · rcases hres with ⟨r9, e1, -, -⟩ | ⟨e1, rfl, rfl⟩
    · cases (e1.symm.trans hx0)
    · cases (e1.symm.trans hx0)
      replace hP := hP.sub (ws' := wX cI cJ x0 x1 x2 x3 x4 x5 x6 x7 x8 x9 g rm op rc ec su' pe qt rs rn cs cn lc hc lg hg ++ [(o0, .inl (cJ, 1, .inr (.inl u')))]) [1, 2, 3, 4, 5, 6, 7, 8, 9, 10, 0] rfl
      replace hD := hD.sub (ws' := wX cI cJ x0 x1 x2 x3 x4 x5 x6 x7 x8 x9 g rm op rc ec su' pe qt rs rn cs cn lc hc lg hg ++ [(o0, .inl (cJ, 1, .inr (.inl u')))]) [1, 2, 3, 4, 5, 6, 7, 8, 9, 10, 0] (by decide) rfl
      refine vx_catch (own := RL) (name := "java/lang/IllegalArgumentException") hown [] { startPc := 0, endPc := 9, handlerPc := 12, catchType := 22 } [] (htab.trans rfl) (fun z hz => nomatch hz) rfl (by decide) hk_0 (va_Nw.use (A := _) rfl hT.1.1.2.1) hce hcv hcl ?_
      refine W.eq (g2 := F0 m 12 ls [.ref q9]) rfl ?_
      refine lv_astore_n (lv' := [(3, .ref q9), (0, .ref x0), (1, .int a1), (2, .ref o0)]) hx hb dL_setSupport_12 rfl hl (by decide) rfl (fun ls hl => ?_)
      refine lv_iconst (v := 1) hx hb dL_setSupport_13 (by decide) ?_
      exact W.iret hx hb hr (fun t ht hW => ⟨⟨_, (), rfl, rfl, by rw [ht]; exact hP, va_K.moved hW.alike hK, hD⟩, hS.F ht⟩) hS.2.2 dL_setSupport_14
  · rcases hres with ⟨r9, e1, rfl, rfl⟩ | ⟨e1, -, -⟩
    · have e2 : r9 = r := Sum.inr.inj (e1.symm.trans hr0)
      subst e2
      replace hP := hP.sub (ws' := wX cI cJ x0 x1 x2 x3 x4 x5 x6 x7 x8 x9 g rm op rc ec su' pe qt rs rn cs cn lc hc lg hg ++ [(o0, .inl (cJ, 1, .inr (.inl u)))]) [1, 2, 3, 4, 5, 6, 7, 8, 9, 10, 0] rfl
      replace hD := hD.sub (ws' := wX cI cJ x0 x1 x2 x3 x4 x5 x6 x7 x8 x9 g rm op rc ec su' pe qt rs rn cs cn lc hc lg hg ++ [(o0, .inl (cJ, 1, .inr (.inl u)))]) [1, 2, 3, 4, 5, 6, 7, 8, 9, 10, 0] (by decide) rfl
      refine lv_i2l (v := r9.toInt64) hx hb dL_setSupport_7 rfl ?_
      refine va_last hx hb hK hP hD hS 10 1 rfl rfl (show ¬ ((0 : Int32) < 0 ∨ 1 ≤ Int32.toNatClampNeg 0) by decide) dL_setSupport_8 (fun H locs hP hD hS => ?_)
      have hP : va_P D vwCl (wX cI cJ x0 x1 x2 x3 x4 x5 x6 x7 x8 x9 g rm op rc ec su' pe qt rs rn cs cn lc hc lg hg ++ [(o0, .inl (cJ, 1, .inr (.inl (vp_updL u 0 r9.toInt64))))]) H := hP
      have hD : va_D A (wX cI cJ x0 x1 x2 x3 x4 x5 x6 x7 x8 x9 g rm op rc ec su' pe qt rs rn cs cn lc hc lg hg ++ [(o0, .inl (cJ, 1, .inr (.inl (vp_updL u 0 r9.toInt64))))]) := hD
      refine lv_goto (tgt := 15) hx hb dL_setSupport_9 (by decide) ?_
      refine lv_iconst (v := 0) hx hb dL_setSupport_15 (by decide) ?_
      exact W.iret hx hb hr (fun t ht hW => ⟨⟨_, (), rfl, rfl, by rw [ht]; exact hP, va_K.moved hW.alike hK, hD⟩, hS.F ht⟩) hS.2.2 dL_setSupport_16
    · cases (e1.symm.trans hr0)
-- L_setPeriod
set_option maxHeartbeats 4000000 in
set_option maxRecDepth 100000 in
theorem c_L_setPeriod (l : Launch) (hst : l.stackTraces = false) (D : va_G) (cI cJ : ClassId) (x0 x1 x2 x3 x4 x5 x6 x7 x8 x9 : Nat) (o0 : Nat) (sz : Nat) (g : Nat → Int32) (rm : Nat → Int32) (op : Nat → Int32) (rc : Int32) (ec : Int32) (su : Int32) (pe : Int32) (qt : Int32) (rs : Nat → Int32) (rn : Int32) (cs : Nat → Int32) (cn : Int32) (lc : Nat → Int64) (hc : Nat → Int64) (lg : Nat → Int64) (hg : Nat → Int64) (u : Nat → Int64) (a1 : Int32) (r0 : String ⊕ Int32) (pe' : Int32) (h : m_X0_setPeriod pe a1 = some (r0, pe')) (k : Int32) (u' : Nat → Int64) (hres : (∃ r, r0 = Sum.inr r ∧ k = 0 ∧ u' = vp_updL u 0 (r.toInt64)) ∨ (r0 = Sum.inl "java/lang/IllegalArgumentException" ∧ k = 1 ∧ u' = u)) : Met l yL_setPeriod wsL_setPeriod ({ frames := 7, cells := 1, slots := 6, locals := 112 }) (va_Pc [.ref x0, .int a1, .ref o0] (bx_PreL D [(cI, .int), (cJ, .long)] (wX cI cJ x0 x1 x2 x3 x4 x5 x6 x7 x8 x9 g rm op rc ec su pe qt rs rn cs cn lc hc lg hg ++ [(o0, .inl (cJ, 1, .inr (.inl u)))]) sz)) (va_Qi (fun (r : Int32) (_ : Unit) => r = k) (fun (_ : Unit) t => bx_Post D [(cI, .int), (cJ, .long)] (wX cI cJ x0 x1 x2 x3 x4 x5 x6 x7 x8 x9 g rm op rc ec su pe' qt rs rn cs cn lc hc lg hg ++ [(o0, .inl (cJ, 1, .inr (.inl u')))]) (va_A (wX cI cJ x0 x1 x2 x3 x4 x5 x6 x7 x8 x9 g rm op rc ec su pe qt rs rn cs cn lc hc lg hg ++ [(o0, .inl (cJ, 1, .inr (.inl u)))]) sz) t) (va_A (wX cI cJ x0 x1 x2 x3 x4 x5 x6 x7 x8 x9 g rm op rc ec su pe qt rs rn cs cn lc hc lg hg ++ [(o0, .inl (cJ, 1, .inr (.inl u)))]) sz)) 1 6 (va_A (wX cI cJ x0 x1 x2 x3 x4 x5 x6 x7 x8 x9 g rm op rc ec su pe qt rs rn cs cn lc hc lg hg ++ [(o0, .inl (cJ, 1, .inr (.inl u)))]) sz) := by
  refine va_MetW (cc := cL_setPeriod) (maxL := 4) (ret := (some .int)) (hh := [(0, 9, 12, 22)]) (by decide) rfl ?_
  intro p e s m args below meth c s₁ B hml hv
  obtain ⟨rfl, hsz, hP, hK, hD0, hT⟩ := hv
  have hx := B.exec
  have hb := B.bytes
  have hr := B.returns
  have hts := atoms_spec (ws := wsL_setPeriod) B.pre
  have hown : s.vm.findClass RL = some m.cls := findClass_of_methodNamed B.named
  have hlocks := B.notSynchronized
  have htab := vx_table (x := yL_setPeriod) (y := yL_setPeriod) (bytes := cL_setPeriod) (maxL' := 4) (ret' := (some .int)) (hh := [(0, 9, 12, 22)]) B (hts _ List.mem_cons_self)
  subst hsz
  have hD := hD0.self (sz := s.heap.size)
  generalize hAe : va_A (wX cI cJ x0 x1 x2 x3 x4 x5 x6 x7 x8 x9 g rm op rc ec su pe qt rs rn cs cn lc hc lg hg ++ [(o0, .inl (cJ, 1, .inr (.inl u)))]) s.heap.size = A at hD hT ⊢
  have hA : ∀ q : Nat, s.heap.size ≤ q → A q := fun q h9 => by rw [← hAe]; exact Or.inr h9
  have hS : va_S A s.heap s.heap [] := va_S.rf
  have hk_0 := hts (.classLink RL 22 "java/lang/IllegalArgumentException") (by decide +kernel)
  have hl := lv_entry ([.ref x0, .int a1, .ref o0]) (n := 4) (Nat.le_of_ble_eq_true rfl)
  rw [lg_entry_eq]
  generalize (lg_sl ([.ref x0, .int a1, .ref o0]) ++ List.replicate (4 - (lg_sl ([.ref x0, .int a1, .ref o0])).length) Slot.unset).toArray = ls at hl ⊢
  have hl : lv_has ls 4 [(0, .ref x0), (1, .int a1), (2, .ref o0)] := hl
  refine lv_aload_n hx hb dL_setPeriod_0 rfl (lv_at hl 2 rfl) ?_
  refine lv_iconst (v := 0) hx hb dL_setPeriod_1 (by decide) ?_
  refine lv_aload_n hx hb dL_setPeriod_2 rfl (lv_at hl 0 rfl) ?_
  refine lv_iload_n hx hb dL_setPeriod_3 rfl (lv_at hl 1 rfl) ?_
  refine cl_Xi (r0 := r0) (As := [.int a1]) (rest := [.int 0, .ref o0]) (wc := wX cI cJ x0 x1 x2 x3 x4 x5 x6 x7 x8 x9 g rm op rc ec su pe qt rs rn cs cn lc hc lg hg) (w1 := wX cI cJ x0 x1 x2 x3 x4 x5 x6 x7 x8 x9 g rm op rc ec su pe' qt rs rn cs cn lc hc lg hg) (wr := [(o0, .inl (cJ, 1, .inr (.inl u)))]) ⟨hx, hb, hml, hown, hts⟩ (c_X0_setPeriod l hst D cI cJ x0 x1 x2 x3 x4 x5 x6 x7 x8 x9 _ g rm op rc ec su pe qt rs rn cs cn lc hc lg hg a1 r0 pe' h) (cwV 1 hts gL_setPeriod_X0_setPeriod rfl rfl rfl (by decide +kernel) ⟨Nat.le_of_ble_eq_true rfl, Nat.le_of_ble_eq_true rfl⟩) hK hP hD hS hA hT.1 [0, 1, 2, 3, 4, 5, 6, 7, 8, 9] [10] rfl rfl (by decide) (by decide) rfl rfl rfl rfl rfl hl.1 rfl (lv_room (Nat.le_of_ble_eq_true rfl)) dL_setPeriod_4 ⟨Nat.le_of_ble_eq_true rfl, Nat.le_of_ble_eq_true rfl⟩ (fun E ce q9 H locs hx0 hP hD hS hce hcv hcl => ?_) (fun r H locs hr0 hP hD hS => ?_)
  · rcases hres with ⟨r9, e1, -, -⟩ | ⟨e1, rfl, rfl⟩
    · cases (e1.symm.trans hx0)
    · cases (e1.symm.trans hx0)
      replace hP := hP.sub (ws' := wX cI cJ x0 x1 x2 x3 x4 x5 x6 x7 x8 x9 g rm op rc ec su pe' qt rs rn cs cn lc hc lg hg ++ [(o0, .inl (cJ, 1, .inr (.inl u')))]) [1, 2, 3, 4, 5, 6, 7, 8, 9, 10, 0] rfl
      replace hD := hD.sub (ws' := wX cI cJ x0 x1 x2 x3 x4 x5 x6 x7 x8 x9 g rm op rc ec su pe' qt rs rn cs cn lc hc lg hg ++ [(o0, .inl (cJ, 1, .inr (.inl u')))]) [1, 2, 3, 4, 5, 6, 7, 8, 9, 10, 0] (by decide) rfl
      refine vx_catch (own := RL) (name := "java/lang/IllegalArgumentException") hown [] { startPc := 0, endPc := 9, handlerPc := 12, catchType := 22 } [] (htab.trans rfl) (fun z hz => nomatch hz) rfl (by decide) hk_0 (va_Nw.use (A := _) rfl hT.1.1.2.1) hce hcv hcl ?_
      refine W.eq (g2 := F0 m 12 ls [.ref q9]) rfl ?_
      refine lv_astore_n (lv' := [(3, .ref q9), (0, .ref x0), (1, .int a1), (2, .ref o0)]) hx hb dL_setPeriod_12 rfl hl (by decide) rfl (fun ls hl => ?_)
      refine lv_iconst (v := 1) hx hb dL_setPeriod_13 (by decide) ?_
      exact W.iret hx hb hr (fun t ht hW => ⟨⟨_, (), rfl, rfl, by rw [ht]; exact hP, va_K.moved hW.alike hK, hD⟩, hS.F ht⟩) hS.2.2 dL_setPeriod_14
  · rcases hres with ⟨r9, e1, rfl, rfl⟩ | ⟨e1, -, -⟩
    · have e2 : r9 = r := Sum.inr.inj (e1.symm.trans hr0)
      subst e2
      replace hP := hP.sub (ws' := wX cI cJ x0 x1 x2 x3 x4 x5 x6 x7 x8 x9 g rm op rc ec su pe' qt rs rn cs cn lc hc lg hg ++ [(o0, .inl (cJ, 1, .inr (.inl u)))]) [1, 2, 3, 4, 5, 6, 7, 8, 9, 10, 0] rfl
      replace hD := hD.sub (ws' := wX cI cJ x0 x1 x2 x3 x4 x5 x6 x7 x8 x9 g rm op rc ec su pe' qt rs rn cs cn lc hc lg hg ++ [(o0, .inl (cJ, 1, .inr (.inl u)))]) [1, 2, 3, 4, 5, 6, 7, 8, 9, 10, 0] (by decide) rfl
      refine lv_i2l (v := r9.toInt64) hx hb dL_setPeriod_7 rfl ?_
      refine va_last hx hb hK hP hD hS 10 1 rfl rfl (show ¬ ((0 : Int32) < 0 ∨ 1 ≤ Int32.toNatClampNeg 0) by decide) dL_setPeriod_8 (fun H locs hP hD hS => ?_)
      have hP : va_P D vwCl (wX cI cJ x0 x1 x2 x3 x4 x5 x6 x7 x8 x9 g rm op rc ec su pe' qt rs rn cs cn lc hc lg hg ++ [(o0, .inl (cJ, 1, .inr (.inl (vp_updL u 0 r9.toInt64))))]) H := hP
      have hD : va_D A (wX cI cJ x0 x1 x2 x3 x4 x5 x6 x7 x8 x9 g rm op rc ec su pe' qt rs rn cs cn lc hc lg hg ++ [(o0, .inl (cJ, 1, .inr (.inl (vp_updL u 0 r9.toInt64))))]) := hD
      refine lv_goto (tgt := 15) hx hb dL_setPeriod_9 (by decide) ?_
      refine lv_iconst (v := 0) hx hb dL_setPeriod_15 (by decide) ?_
      exact W.iret hx hb hr (fun t ht hW => ⟨⟨_, (), rfl, rfl, by rw [ht]; exact hP, va_K.moved hW.alike hK, hD⟩, hS.F ht⟩) hS.2.2 dL_setPeriod_16
    · cases (e1.symm.trans hr0)
-- L_review
set_option maxHeartbeats 4000000 in
set_option maxRecDepth 100000 in
theorem c_L_review (l : Launch) (hst : l.stackTraces = false) (D : va_G) (cI cJ : ClassId) (x0 x1 x2 x3 x4 x5 x6 x7 x8 x9 : Nat) (o0 : Nat) (sz : Nat) (g : Nat → Int32) (rm : Nat → Int32) (op : Nat → Int32) (rc : Int32) (ec : Int32) (su : Int32) (pe : Int32) (qt : Int32) (rs : Nat → Int32) (rn : Int32) (cs : Nat → Int32) (cn : Int32) (lc : Nat → Int64) (hc : Nat → Int64) (lg : Nat → Int64) (hg : Nat → Int64) (u : Nat → Int64) (a1 a2 : Int32) (r0 : String ⊕ Int32) (rm' : Nat → Int32) (h : m_X0_review g rm qt a1 a2 = some (r0, rm')) (k : Int32) (u' : Nat → Int64) (hres : (∃ r, r0 = Sum.inr r ∧ k = 0 ∧ u' = vp_updL u 0 (r.toInt64)) ∨ (r0 = Sum.inl "java/lang/IndexOutOfBoundsException" ∧ k = 1 ∧ u' = u) ∨ (r0 = Sum.inl "java/lang/IllegalStateException" ∧ k = 2 ∧ u' = u)) : Met l yL_review wsL_review ({ frames := 7, cells := 1, slots := 6, locals := 114 }) (va_Pc [.ref x0, .int a1, .int a2, .ref o0] (bx_PreL D [(cI, .int), (cJ, .long)] (wX cI cJ x0 x1 x2 x3 x4 x5 x6 x7 x8 x9 g rm op rc ec su pe qt rs rn cs cn lc hc lg hg ++ [(o0, .inl (cJ, 1, .inr (.inl u)))]) sz)) (va_Qi (fun (r : Int32) (_ : Unit) => r = k) (fun (_ : Unit) t => bx_Post D [(cI, .int), (cJ, .long)] (wX cI cJ x0 x1 x2 x3 x4 x5 x6 x7 x8 x9 g rm' op rc ec su pe qt rs rn cs cn lc hc lg hg ++ [(o0, .inl (cJ, 1, .inr (.inl u')))]) (va_A (wX cI cJ x0 x1 x2 x3 x4 x5 x6 x7 x8 x9 g rm op rc ec su pe qt rs rn cs cn lc hc lg hg ++ [(o0, .inl (cJ, 1, .inr (.inl u)))]) sz) t) (va_A (wX cI cJ x0 x1 x2 x3 x4 x5 x6 x7 x8 x9 g rm op rc ec su pe qt rs rn cs cn lc hc lg hg ++ [(o0, .inl (cJ, 1, .inr (.inl u)))]) sz)) 1 6 (va_A (wX cI cJ x0 x1 x2 x3 x4 x5 x6 x7 x8 x9 g rm op rc ec su pe qt rs rn cs cn lc hc lg hg ++ [(o0, .inl (cJ, 1, .inr (.inl u)))]) sz) := by
  refine va_MetW (cc := cL_review) (maxL := 5) (ret := (some .int)) (hh := [(0, 10, 13, 13), (0, 10, 17, 42)]) (by decide) rfl ?_
  intro p e s m args below meth c s₁ B hml hv
  obtain ⟨rfl, hsz, hP, hK, hD0, hT⟩ := hv
  have hx := B.exec
  have hb := B.bytes
  have hr := B.returns
  have hts := atoms_spec (ws := wsL_review) B.pre
  have hown : s.vm.findClass RL = some m.cls := findClass_of_methodNamed B.named
  have hlocks := B.notSynchronized
  have htab := vx_table (x := yL_review) (y := yL_review) (bytes := cL_review) (maxL' := 5) (ret' := (some .int)) (hh := [(0, 10, 13, 13), (0, 10, 17, 42)]) B (hts _ List.mem_cons_self)
  subst hsz
  have hD := hD0.self (sz := s.heap.size)
  generalize hAe : va_A (wX cI cJ x0 x1 x2 x3 x4 x5 x6 x7 x8 x9 g rm op rc ec su pe qt rs rn cs cn lc hc lg hg ++ [(o0, .inl (cJ, 1, .inr (.inl u)))]) s.heap.size = A at hD hT ⊢
  have hA : ∀ q : Nat, s.heap.size ≤ q → A q := fun q h9 => by rw [← hAe]; exact Or.inr h9
  have hS : va_S A s.heap s.heap [] := va_S.rf
  have hk_0 := hts (.classLink RL 13 "java/lang/IndexOutOfBoundsException") (by decide +kernel)
  have hk_1 := hts (.classLink RL 42 "java/lang/IllegalStateException") (by decide +kernel)
  have hl := lv_entry ([.ref x0, .int a1, .int a2, .ref o0]) (n := 5) (Nat.le_of_ble_eq_true rfl)
  rw [lg_entry_eq]
  generalize (lg_sl ([.ref x0, .int a1, .int a2, .ref o0]) ++ List.replicate (5 - (lg_sl ([.ref x0, .int a1, .int a2, .ref o0])).length) Slot.unset).toArray = ls at hl ⊢
  have hl : lv_has ls 5 [(0, .ref x0), (1, .int a1), (2, .int a2), (3, .ref o0)] := hl
  refine lv_aload_n hx hb dL_review_0 rfl (lv_at hl 3 rfl) ?_
  refine lv_iconst (v := 0) hx hb dL_review_1 (by decide) ?_
  refine lv_aload_n hx hb dL_review_2 rfl (lv_at hl 0 rfl) ?_
  refine lv_iload_n hx hb dL_review_3 rfl (lv_at hl 1 rfl) ?_
  refine lv_iload_n hx hb dL_review_4 rfl (lv_at hl 2 rfl) ?_
  refine cl_Xi (r0 := r0) (As := [.int a1, .int a2]) (rest := [.int 0, .ref o0]) (wc := wX cI cJ x0 x1 x2 x3 x4 x5 x6 x7 x8 x9 g rm op rc ec su pe qt rs rn cs cn lc hc lg hg) (w1 := wX cI cJ x0 x1 x2 x3 x4 x5 x6 x7 x8 x9 g rm' op rc ec su pe qt rs rn cs cn lc hc lg hg) (wr := [(o0, .inl (cJ, 1, .inr (.inl u)))]) ⟨hx, hb, hml, hown, hts⟩ (c_X0_review l hst D cI cJ x0 x1 x2 x3 x4 x5 x6 x7 x8 x9 _ g rm op rc ec su pe qt rs rn cs cn lc hc lg hg a1 a2 r0 rm' h) (cwV 2 hts gL_review_X0_review rfl rfl rfl (by decide +kernel) ⟨Nat.le_of_ble_eq_true rfl, Nat.le_of_ble_eq_true rfl⟩) hK hP hD hS hA hT.1 [0, 1, 2, 3, 4, 5, 6, 7, 8, 9] [10] rfl rfl (by decide) (by decide) rfl rfl rfl rfl rfl hl.1 rfl (lv_room (Nat.le_of_ble_eq_true rfl)) dL_review_5 ⟨Nat.le_of_ble_eq_true rfl, Nat.le_of_ble_eq_true rfl⟩ (fun E ce q9 H locs hx0 hP hD hS hce hcv hcl => ?_) (fun r H locs hr0 hP hD hS => ?_)
  · rcases hres with ⟨r9, e1, -, -⟩ | ⟨e1, rfl, rfl⟩ | ⟨e1, rfl, rfl⟩
    · cases (e1.symm.trans hx0)
    · cases (e1.symm.trans hx0)
      replace hP := hP.sub (ws' := wX cI cJ x0 x1 x2 x3 x4 x5 x6 x7 x8 x9 g rm' op rc ec su pe qt rs rn cs cn lc hc lg hg ++ [(o0, .inl (cJ, 1, .inr (.inl u')))]) [1, 2, 3, 4, 5, 6, 7, 8, 9, 10, 0] rfl
      replace hD := hD.sub (ws' := wX cI cJ x0 x1 x2 x3 x4 x5 x6 x7 x8 x9 g rm' op rc ec su pe qt rs rn cs cn lc hc lg hg ++ [(o0, .inl (cJ, 1, .inr (.inl u')))]) [1, 2, 3, 4, 5, 6, 7, 8, 9, 10, 0] (by decide) rfl
      refine vx_catch (own := RL) (name := "java/lang/IndexOutOfBoundsException") hown [] { startPc := 0, endPc := 10, handlerPc := 13, catchType := 13 } [{ startPc := 0, endPc := 10, handlerPc := 17, catchType := 42 }] (htab.trans rfl) (fun z hz => nomatch hz) rfl (by decide) hk_0 (va_Nw.use (A := _) rfl hT.1.1.1) hce hcv hcl ?_
      refine W.eq (g2 := F0 m 13 ls [.ref q9]) rfl ?_
      refine lv_astore (lv' := [(4, .ref q9), (0, .ref x0), (1, .int a1), (2, .int a2), (3, .ref o0)]) hx hb dL_review_13 hl (by decide) rfl (fun ls hl => ?_)
      refine lv_iconst (v := 1) hx hb dL_review_15 (by decide) ?_
      exact W.iret hx hb hr (fun t ht hW => ⟨⟨_, (), rfl, rfl, by rw [ht]; exact hP, va_K.moved hW.alike hK, hD⟩, hS.F ht⟩) hS.2.2 dL_review_16
    · cases (e1.symm.trans hx0)
      replace hP := hP.sub (ws' := wX cI cJ x0 x1 x2 x3 x4 x5 x6 x7 x8 x9 g rm' op rc ec su pe qt rs rn cs cn lc hc lg hg ++ [(o0, .inl (cJ, 1, .inr (.inl u')))]) [1, 2, 3, 4, 5, 6, 7, 8, 9, 10, 0] rfl
      replace hD := hD.sub (ws' := wX cI cJ x0 x1 x2 x3 x4 x5 x6 x7 x8 x9 g rm' op rc ec su pe qt rs rn cs cn lc hc lg hg ++ [(o0, .inl (cJ, 1, .inr (.inl u')))]) [1, 2, 3, 4, 5, 6, 7, 8, 9, 10, 0] (by decide) rfl
      refine vx_catch (own := RL) (name := "java/lang/IllegalStateException") hown [{ startPc := 0, endPc := 10, handlerPc := 13, catchType := 13 }] { startPc := 0, endPc := 10, handlerPc := 17, catchType := 42 } [] (htab.trans rfl) (fun z hz => by rw [List.mem_singleton] at hz; subst hz; exact Or.inr ⟨by decide, _, hk_0, hT.2.2.1⟩) rfl (by decide) hk_1 (va_Nw.use (A := _) rfl hT.1.1.2.2.1) hce hcv hcl ?_
      refine W.eq (g2 := F0 m 17 ls [.ref q9]) rfl ?_
      refine lv_astore (lv' := [(4, .ref q9), (0, .ref x0), (1, .int a1), (2, .int a2), (3, .ref o0)]) hx hb dL_review_17 hl (by decide) rfl (fun ls hl => ?_)
      refine lv_iconst (v := 2) hx hb dL_review_19 (by decide) ?_
      exact W.iret hx hb hr (fun t ht hW => ⟨⟨_, (), rfl, rfl, by rw [ht]; exact hP, va_K.moved hW.alike hK, hD⟩, hS.F ht⟩) hS.2.2 dL_review_20
  · rcases hres with ⟨r9, e1, rfl, rfl⟩ | ⟨e1, -, -⟩ | ⟨e1, -, -⟩
    · have e2 : r9 = r := Sum.inr.inj (e1.symm.trans hr0)
      subst e2
      replace hP := hP.sub (ws' := wX cI cJ x0 x1 x2 x3 x4 x5 x6 x7 x8 x9 g rm' op rc ec su pe qt rs rn cs cn lc hc lg hg ++ [(o0, .inl (cJ, 1, .inr (.inl u)))]) [1, 2, 3, 4, 5, 6, 7, 8, 9, 10, 0] rfl
      replace hD := hD.sub (ws' := wX cI cJ x0 x1 x2 x3 x4 x5 x6 x7 x8 x9 g rm' op rc ec su pe qt rs rn cs cn lc hc lg hg ++ [(o0, .inl (cJ, 1, .inr (.inl u)))]) [1, 2, 3, 4, 5, 6, 7, 8, 9, 10, 0] (by decide) rfl
      refine lv_i2l (v := r9.toInt64) hx hb dL_review_8 rfl ?_
      refine va_last hx hb hK hP hD hS 10 1 rfl rfl (show ¬ ((0 : Int32) < 0 ∨ 1 ≤ Int32.toNatClampNeg 0) by decide) dL_review_9 (fun H locs hP hD hS => ?_)
      have hP : va_P D vwCl (wX cI cJ x0 x1 x2 x3 x4 x5 x6 x7 x8 x9 g rm' op rc ec su pe qt rs rn cs cn lc hc lg hg ++ [(o0, .inl (cJ, 1, .inr (.inl (vp_updL u 0 r9.toInt64))))]) H := hP
      have hD : va_D A (wX cI cJ x0 x1 x2 x3 x4 x5 x6 x7 x8 x9 g rm' op rc ec su pe qt rs rn cs cn lc hc lg hg ++ [(o0, .inl (cJ, 1, .inr (.inl (vp_updL u 0 r9.toInt64))))]) := hD
      refine lv_goto (tgt := 21) hx hb dL_review_10 (by decide) ?_
      refine lv_iconst (v := 0) hx hb dL_review_21 (by decide) ?_
      exact W.iret hx hb hr (fun t ht hW => ⟨⟨_, (), rfl, rfl, by rw [ht]; exact hP, va_K.moved hW.alike hK, hD⟩, hS.F ht⟩) hS.2.2 dL_review_22
    · cases (e1.symm.trans hr0)
    · cases (e1.symm.trans hr0)
-- L_nextQuarter
set_option maxHeartbeats 4000000 in
set_option maxRecDepth 100000 in
theorem c_L_nextQuarter (l : Launch) (hst : l.stackTraces = false) (D : va_G) (cI cJ : ClassId) (x0 x1 x2 x3 x4 x5 x6 x7 x8 x9 : Nat) (o0 : Nat) (sz : Nat) (g : Nat → Int32) (rm : Nat → Int32) (op : Nat → Int32) (rc : Int32) (ec : Int32) (su : Int32) (pe : Int32) (qt : Int32) (rs : Nat → Int32) (rn : Int32) (cs : Nat → Int32) (cn : Int32) (lc : Nat → Int64) (hc : Nat → Int64) (lg : Nat → Int64) (hg : Nat → Int64) (u : Nat → Int64) (fu : Nat) (r0 : String ⊕ Int32) (g' : Nat → Int32) (qt' : Int32) (h : m_X0_nextQuarter fu g rm pe qt = some (r0, g', qt')) (k : Int32) (u' : Nat → Int64) (hres : (∃ r, r0 = Sum.inr r ∧ k = 0 ∧ u' = vp_updL u 0 (r.toInt64)) ∨ (r0 = Sum.inl "java/lang/IllegalStateException" ∧ k = 1 ∧ u' = u)) : Met l yL_nextQuarter wsL_nextQuarter ({ frames := 7, cells := 1, slots := 6, locals := 113 }) (va_Pc [.ref x0, .ref o0] (bx_PreL D [(cI, .int), (cJ, .long)] (wX cI cJ x0 x1 x2 x3 x4 x5 x6 x7 x8 x9 g rm op rc ec su pe qt rs rn cs cn lc hc lg hg ++ [(o0, .inl (cJ, 1, .inr (.inl u)))]) sz)) (va_Qi (fun (r : Int32) (_ : Unit) => r = k) (fun (_ : Unit) t => bx_Post D [(cI, .int), (cJ, .long)] (wX cI cJ x0 x1 x2 x3 x4 x5 x6 x7 x8 x9 g' rm op rc ec su pe qt' rs rn cs cn lc hc lg hg ++ [(o0, .inl (cJ, 1, .inr (.inl u')))]) (va_A (wX cI cJ x0 x1 x2 x3 x4 x5 x6 x7 x8 x9 g rm op rc ec su pe qt rs rn cs cn lc hc lg hg ++ [(o0, .inl (cJ, 1, .inr (.inl u)))]) sz) t) (va_A (wX cI cJ x0 x1 x2 x3 x4 x5 x6 x7 x8 x9 g rm op rc ec su pe qt rs rn cs cn lc hc lg hg ++ [(o0, .inl (cJ, 1, .inr (.inl u)))]) sz)) 1 6 (va_A (wX cI cJ x0 x1 x2 x3 x4 x5 x6 x7 x8 x9 g rm op rc ec su pe qt rs rn cs cn lc hc lg hg ++ [(o0, .inl (cJ, 1, .inr (.inl u)))]) sz) := by
  refine va_MetW (cc := cL_nextQuarter) (maxL := 3) (ret := (some .int)) (hh := [(0, 8, 11, 42)]) (by decide) rfl ?_
  intro p e s m args below meth c s₁ B hml hv
  obtain ⟨rfl, hsz, hP, hK, hD0, hT⟩ := hv
  have hx := B.exec
  have hb := B.bytes
  have hr := B.returns
  have hts := atoms_spec (ws := wsL_nextQuarter) B.pre
  have hown : s.vm.findClass RL = some m.cls := findClass_of_methodNamed B.named
  have hlocks := B.notSynchronized
  have htab := vx_table (x := yL_nextQuarter) (y := yL_nextQuarter) (bytes := cL_nextQuarter) (maxL' := 3) (ret' := (some .int)) (hh := [(0, 8, 11, 42)]) B (hts _ List.mem_cons_self)
  subst hsz
  have hD := hD0.self (sz := s.heap.size)
  generalize hAe : va_A (wX cI cJ x0 x1 x2 x3 x4 x5 x6 x7 x8 x9 g rm op rc ec su pe qt rs rn cs cn lc hc lg hg ++ [(o0, .inl (cJ, 1, .inr (.inl u)))]) s.heap.size = A at hD hT ⊢
  have hA : ∀ q : Nat, s.heap.size ≤ q → A q := fun q h9 => by rw [← hAe]; exact Or.inr h9
  have hS : va_S A s.heap s.heap [] := va_S.rf
  have hk_0 := hts (.classLink RL 42 "java/lang/IllegalStateException") (by decide +kernel)
  have hl := lv_entry ([.ref x0, .ref o0]) (n := 3) (Nat.le_of_ble_eq_true rfl)
  rw [lg_entry_eq]
  generalize (lg_sl ([.ref x0, .ref o0]) ++ List.replicate (3 - (lg_sl ([.ref x0, .ref o0])).length) Slot.unset).toArray = ls at hl ⊢
  have hl : lv_has ls 3 [(0, .ref x0), (1, .ref o0)] := hl
  refine lv_aload_n hx hb dL_nextQuarter_0 rfl (lv_at hl 1 rfl) ?_
  refine lv_iconst (v := 0) hx hb dL_nextQuarter_1 (by decide) ?_
  refine lv_aload_n hx hb dL_nextQuarter_2 rfl (lv_at hl 0 rfl) ?_
  refine cl_Xi (r0 := r0) (As := []) (rest := [.int 0, .ref o0]) (wc := wX cI cJ x0 x1 x2 x3 x4 x5 x6 x7 x8 x9 g rm op rc ec su pe qt rs rn cs cn lc hc lg hg) (w1 := wX cI cJ x0 x1 x2 x3 x4 x5 x6 x7 x8 x9 g' rm op rc ec su pe qt' rs rn cs cn lc hc lg hg) (wr := [(o0, .inl (cJ, 1, .inr (.inl u)))]) ⟨hx, hb, hml, hown, hts⟩ (c_X0_nextQuarter l hst D cI cJ x0 x1 x2 x3 x4 x5 x6 x7 x8 x9 _ g rm op rc ec su pe qt rs rn cs cn lc hc lg hg fu  r0 g' qt' h) (cwV 0 hts gL_nextQuarter_X0_nextQuarter rfl rfl rfl (by decide +kernel) ⟨Nat.le_of_ble_eq_true rfl, Nat.le_of_ble_eq_true rfl⟩) hK hP hD hS hA hT.1 [0, 1, 2, 3, 4, 5, 6, 7, 8, 9] [10] rfl rfl (by decide) (by decide) rfl rfl rfl rfl rfl hl.1 rfl (lv_room (Nat.le_of_ble_eq_true rfl)) dL_nextQuarter_3 ⟨Nat.le_of_ble_eq_true rfl, Nat.le_of_ble_eq_true rfl⟩ (fun E ce q9 H locs hx0 hP hD hS hce hcv hcl => ?_) (fun r H locs hr0 hP hD hS => ?_)
  · rcases hres with ⟨r9, e1, -, -⟩ | ⟨e1, rfl, rfl⟩
    · cases (e1.symm.trans hx0)
    · cases (e1.symm.trans hx0)
      replace hP := hP.sub (ws' := wX cI cJ x0 x1 x2 x3 x4 x5 x6 x7 x8 x9 g' rm op rc ec su pe qt' rs rn cs cn lc hc lg hg ++ [(o0, .inl (cJ, 1, .inr (.inl u')))]) [1, 2, 3, 4, 5, 6, 7, 8, 9, 10, 0] rfl
      replace hD := hD.sub (ws' := wX cI cJ x0 x1 x2 x3 x4 x5 x6 x7 x8 x9 g' rm op rc ec su pe qt' rs rn cs cn lc hc lg hg ++ [(o0, .inl (cJ, 1, .inr (.inl u')))]) [1, 2, 3, 4, 5, 6, 7, 8, 9, 10, 0] (by decide) rfl
      refine vx_catch (own := RL) (name := "java/lang/IllegalStateException") hown [] { startPc := 0, endPc := 8, handlerPc := 11, catchType := 42 } [] (htab.trans rfl) (fun z hz => nomatch hz) rfl (by decide) hk_0 (va_Nw.use (A := _) rfl hT.1.1.2.2.1) hce hcv hcl ?_
      refine W.eq (g2 := F0 m 11 ls [.ref q9]) rfl ?_
      refine lv_astore_n (lv' := [(2, .ref q9), (0, .ref x0), (1, .ref o0)]) hx hb dL_nextQuarter_11 rfl hl (by decide) rfl (fun ls hl => ?_)
      refine lv_iconst (v := 1) hx hb dL_nextQuarter_12 (by decide) ?_
      exact W.iret hx hb hr (fun t ht hW => ⟨⟨_, (), rfl, rfl, by rw [ht]; exact hP, va_K.moved hW.alike hK, hD⟩, hS.F ht⟩) hS.2.2 dL_nextQuarter_13
  · rcases hres with ⟨r9, e1, rfl, rfl⟩ | ⟨e1, -, -⟩
    · have e2 : r9 = r := Sum.inr.inj (e1.symm.trans hr0)
      subst e2
      replace hP := hP.sub (ws' := wX cI cJ x0 x1 x2 x3 x4 x5 x6 x7 x8 x9 g' rm op rc ec su pe qt' rs rn cs cn lc hc lg hg ++ [(o0, .inl (cJ, 1, .inr (.inl u)))]) [1, 2, 3, 4, 5, 6, 7, 8, 9, 10, 0] rfl
      replace hD := hD.sub (ws' := wX cI cJ x0 x1 x2 x3 x4 x5 x6 x7 x8 x9 g' rm op rc ec su pe qt' rs rn cs cn lc hc lg hg ++ [(o0, .inl (cJ, 1, .inr (.inl u)))]) [1, 2, 3, 4, 5, 6, 7, 8, 9, 10, 0] (by decide) rfl
      refine lv_i2l (v := r9.toInt64) hx hb dL_nextQuarter_6 rfl ?_
      refine va_last hx hb hK hP hD hS 10 1 rfl rfl (show ¬ ((0 : Int32) < 0 ∨ 1 ≤ Int32.toNatClampNeg 0) by decide) dL_nextQuarter_7 (fun H locs hP hD hS => ?_)
      have hP : va_P D vwCl (wX cI cJ x0 x1 x2 x3 x4 x5 x6 x7 x8 x9 g' rm op rc ec su pe qt' rs rn cs cn lc hc lg hg ++ [(o0, .inl (cJ, 1, .inr (.inl (vp_updL u 0 r9.toInt64))))]) H := hP
      have hD : va_D A (wX cI cJ x0 x1 x2 x3 x4 x5 x6 x7 x8 x9 g' rm op rc ec su pe qt' rs rn cs cn lc hc lg hg ++ [(o0, .inl (cJ, 1, .inr (.inl (vp_updL u 0 r9.toInt64))))]) := hD
      refine lv_goto (tgt := 14) hx hb dL_nextQuarter_8 (by decide) ?_
      refine lv_iconst (v := 0) hx hb dL_nextQuarter_14 (by decide) ?_
      exact W.iret hx hb hr (fun t ht hW => ⟨⟨_, (), rfl, rfl, by rw [ht]; exact hP, va_K.moved hW.alike hK, hD⟩, hS.F ht⟩) hS.2.2 dL_nextQuarter_15
    · cases (e1.symm.trans hr0)
-- L_mineBest
set_option maxHeartbeats 4000000 in
set_option maxRecDepth 100000 in
theorem c_L_mineBest (l : Launch) (hst : l.stackTraces = false) (D : va_G) (cI cJ : ClassId) (x0 x1 x2 x3 x4 x5 x6 x7 x8 x9 : Nat) (o0 : Nat) (sz : Nat) (g : Nat → Int32) (rm : Nat → Int32) (op : Nat → Int32) (rc : Int32) (ec : Int32) (su : Int32) (pe : Int32) (qt : Int32) (rs : Nat → Int32) (rn : Int32) (cs : Nat → Int32) (cn : Int32) (lc : Nat → Int64) (hc : Nat → Int64) (lg : Nat → Int64) (hg : Nat → Int64) (u : Nat → Int64) (fu : Nat) (r0 : String ⊕ Int32) (rs' : Nat → Int32) (rn' : Int32) (cs' : Nat → Int32) (cn' : Int32) (lc' : Nat → Int64) (hc' : Nat → Int64) (lg' : Nat → Int64) (hg' : Nat → Int64) (h : m_X0_mineBest fu g op rc ec su rs rn cs cn lc hc lg hg = some (r0, rs', rn', cs', cn', lc', hc', lg', hg')) (k : Int32) (u' : Nat → Int64) (hres : (∃ r, r0 = Sum.inr r ∧ k = 0 ∧ u' = vp_updL u 0 (r.toInt64)) ∨ (r0 = Sum.inl "java/lang/IllegalStateException" ∧ k = 1 ∧ u' = u)) : Met l yL_mineBest wsL_mineBest ({ frames := 7, cells := 1, slots := 6, locals := 121 }) (va_Pc [.ref x0, .ref o0] (bx_PreL D [(cI, .int), (cJ, .long)] (wX cI cJ x0 x1 x2 x3 x4 x5 x6 x7 x8 x9 g rm op rc ec su pe qt rs rn cs cn lc hc lg hg ++ [(o0, .inl (cJ, 1, .inr (.inl u)))]) sz)) (va_Qi (fun (r : Int32) (_ : Unit) => r = k) (fun (_ : Unit) t => bx_Post D [(cI, .int), (cJ, .long)] (wX cI cJ x0 x1 x2 x3 x4 x5 x6 x7 x8 x9 g rm op rc ec su pe qt rs' rn' cs' cn' lc' hc' lg' hg' ++ [(o0, .inl (cJ, 1, .inr (.inl u')))]) (va_A (wX cI cJ x0 x1 x2 x3 x4 x5 x6 x7 x8 x9 g rm op rc ec su pe qt rs rn cs cn lc hc lg hg ++ [(o0, .inl (cJ, 1, .inr (.inl u)))]) sz) t) (va_A (wX cI cJ x0 x1 x2 x3 x4 x5 x6 x7 x8 x9 g rm op rc ec su pe qt rs rn cs cn lc hc lg hg ++ [(o0, .inl (cJ, 1, .inr (.inl u)))]) sz)) 1 6 (va_A (wX cI cJ x0 x1 x2 x3 x4 x5 x6 x7 x8 x9 g rm op rc ec su pe qt rs rn cs cn lc hc lg hg ++ [(o0, .inl (cJ, 1, .inr (.inl u)))]) sz) := by
  refine va_MetW (cc := cL_mineBest) (maxL := 3) (ret := (some .int)) (hh := [(0, 8, 11, 42)]) (by decide) rfl ?_
  intro p e s m args below meth c s₁ B hml hv
  obtain ⟨rfl, hsz, hP, hK, hD0, hT⟩ := hv
  have hx := B.exec
  have hb := B.bytes
  have hr := B.returns
  have hts := atoms_spec (ws := wsL_mineBest) B.pre
  have hown : s.vm.findClass RL = some m.cls := findClass_of_methodNamed B.named
  have hlocks := B.notSynchronized
  have htab := vx_table (x := yL_mineBest) (y := yL_mineBest) (bytes := cL_mineBest) (maxL' := 3) (ret' := (some .int)) (hh := [(0, 8, 11, 42)]) B (hts _ List.mem_cons_self)
  subst hsz
  have hD := hD0.self (sz := s.heap.size)
  generalize hAe : va_A (wX cI cJ x0 x1 x2 x3 x4 x5 x6 x7 x8 x9 g rm op rc ec su pe qt rs rn cs cn lc hc lg hg ++ [(o0, .inl (cJ, 1, .inr (.inl u)))]) s.heap.size = A at hD hT ⊢
  have hA : ∀ q : Nat, s.heap.size ≤ q → A q := fun q h9 => by rw [← hAe]; exact Or.inr h9
  have hS : va_S A s.heap s.heap [] := va_S.rf
  have hk_0 := hts (.classLink RL 42 "java/lang/IllegalStateException") (by decide +kernel)
  have hl := lv_entry ([.ref x0, .ref o0]) (n := 3) (Nat.le_of_ble_eq_true rfl)
  rw [lg_entry_eq]
  generalize (lg_sl ([.ref x0, .ref o0]) ++ List.replicate (3 - (lg_sl ([.ref x0, .ref o0])).length) Slot.unset).toArray = ls at hl ⊢
  have hl : lv_has ls 3 [(0, .ref x0), (1, .ref o0)] := hl
  refine lv_aload_n hx hb dL_mineBest_0 rfl (lv_at hl 1 rfl) ?_
  refine lv_iconst (v := 0) hx hb dL_mineBest_1 (by decide) ?_
  refine lv_aload_n hx hb dL_mineBest_2 rfl (lv_at hl 0 rfl) ?_
  refine cl_Xi (r0 := r0) (As := []) (rest := [.int 0, .ref o0]) (wc := wX cI cJ x0 x1 x2 x3 x4 x5 x6 x7 x8 x9 g rm op rc ec su pe qt rs rn cs cn lc hc lg hg) (w1 := wX cI cJ x0 x1 x2 x3 x4 x5 x6 x7 x8 x9 g rm op rc ec su pe qt rs' rn' cs' cn' lc' hc' lg' hg') (wr := [(o0, .inl (cJ, 1, .inr (.inl u)))]) ⟨hx, hb, hml, hown, hts⟩ (c_X0_mineBest l hst D cI cJ x0 x1 x2 x3 x4 x5 x6 x7 x8 x9 _ g rm op rc ec su pe qt rs rn cs cn lc hc lg hg fu  r0 rs' rn' cs' cn' lc' hc' lg' hg' h) (cwV 0 hts gL_mineBest_X0_mineBest rfl rfl rfl (by decide +kernel) ⟨Nat.le_of_ble_eq_true rfl, Nat.le_of_ble_eq_true rfl⟩) hK hP hD hS hA hT.1 [0, 1, 2, 3, 4, 5, 6, 7, 8, 9] [10] rfl rfl (by decide) (by decide) rfl rfl rfl rfl rfl hl.1 rfl (lv_room (Nat.le_of_ble_eq_true rfl)) dL_mineBest_3 ⟨Nat.le_of_ble_eq_true rfl, Nat.le_of_ble_eq_true rfl⟩ (fun E ce q9 H locs hx0 hP hD hS hce hcv hcl => ?_) (fun r H locs hr0 hP hD hS => ?_)
  · rcases hres with ⟨r9, e1, -, -⟩ | ⟨e1, rfl, rfl⟩
    · cases (e1.symm.trans hx0)
    · cases (e1.symm.trans hx0)
      replace hP := hP.sub (ws' := wX cI cJ x0 x1 x2 x3 x4 x5 x6 x7 x8 x9 g rm op rc ec su pe qt rs' rn' cs' cn' lc' hc' lg' hg' ++ [(o0, .inl (cJ, 1, .inr (.inl u')))]) [1, 2, 3, 4, 5, 6, 7, 8, 9, 10, 0] rfl
      replace hD := hD.sub (ws' := wX cI cJ x0 x1 x2 x3 x4 x5 x6 x7 x8 x9 g rm op rc ec su pe qt rs' rn' cs' cn' lc' hc' lg' hg' ++ [(o0, .inl (cJ, 1, .inr (.inl u')))]) [1, 2, 3, 4, 5, 6, 7, 8, 9, 10, 0] (by decide) rfl
      refine vx_catch (own := RL) (name := "java/lang/IllegalStateException") hown [] { startPc := 0, endPc := 8, handlerPc := 11, catchType := 42 } [] (htab.trans rfl) (fun z hz => nomatch hz) rfl (by decide) hk_0 (va_Nw.use (A := _) rfl hT.1.1.2.2.1) hce hcv hcl ?_
      refine W.eq (g2 := F0 m 11 ls [.ref q9]) rfl ?_
      refine lv_astore_n (lv' := [(2, .ref q9), (0, .ref x0), (1, .ref o0)]) hx hb dL_mineBest_11 rfl hl (by decide) rfl (fun ls hl => ?_)
      refine lv_iconst (v := 1) hx hb dL_mineBest_12 (by decide) ?_
      exact W.iret hx hb hr (fun t ht hW => ⟨⟨_, (), rfl, rfl, by rw [ht]; exact hP, va_K.moved hW.alike hK, hD⟩, hS.F ht⟩) hS.2.2 dL_mineBest_13
  · rcases hres with ⟨r9, e1, rfl, rfl⟩ | ⟨e1, -, -⟩
    · have e2 : r9 = r := Sum.inr.inj (e1.symm.trans hr0)
      subst e2
      replace hP := hP.sub (ws' := wX cI cJ x0 x1 x2 x3 x4 x5 x6 x7 x8 x9 g rm op rc ec su pe qt rs' rn' cs' cn' lc' hc' lg' hg' ++ [(o0, .inl (cJ, 1, .inr (.inl u)))]) [1, 2, 3, 4, 5, 6, 7, 8, 9, 10, 0] rfl
      replace hD := hD.sub (ws' := wX cI cJ x0 x1 x2 x3 x4 x5 x6 x7 x8 x9 g rm op rc ec su pe qt rs' rn' cs' cn' lc' hc' lg' hg' ++ [(o0, .inl (cJ, 1, .inr (.inl u)))]) [1, 2, 3, 4, 5, 6, 7, 8, 9, 10, 0] (by decide) rfl
      refine lv_i2l (v := r9.toInt64) hx hb dL_mineBest_6 rfl ?_
      refine va_last hx hb hK hP hD hS 10 1 rfl rfl (show ¬ ((0 : Int32) < 0 ∨ 1 ≤ Int32.toNatClampNeg 0) by decide) dL_mineBest_7 (fun H locs hP hD hS => ?_)
      have hP : va_P D vwCl (wX cI cJ x0 x1 x2 x3 x4 x5 x6 x7 x8 x9 g rm op rc ec su pe qt rs' rn' cs' cn' lc' hc' lg' hg' ++ [(o0, .inl (cJ, 1, .inr (.inl (vp_updL u 0 r9.toInt64))))]) H := hP
      have hD : va_D A (wX cI cJ x0 x1 x2 x3 x4 x5 x6 x7 x8 x9 g rm op rc ec su pe qt rs' rn' cs' cn' lc' hc' lg' hg' ++ [(o0, .inl (cJ, 1, .inr (.inl (vp_updL u 0 r9.toInt64))))]) := hD
      refine lv_goto (tgt := 14) hx hb dL_mineBest_8 (by decide) ?_
      refine lv_iconst (v := 0) hx hb dL_mineBest_14 (by decide) ?_
      exact W.iret hx hb hr (fun t ht hW => ⟨⟨_, (), rfl, rfl, by rw [ht]; exact hP, va_K.moved hW.alike hK, hD⟩, hS.F ht⟩) hS.2.2 dL_mineBest_15
    · cases (e1.symm.trans hr0)
-- L_permissions
set_option maxHeartbeats 4000000 in
set_option maxRecDepth 100000 in
theorem c_L_permissions (l : Launch) (hst : l.stackTraces = false) (D : va_G) (cI cJ : ClassId) (x0 x1 x2 x3 x4 x5 x6 x7 x8 x9 : Nat) (o0 : Nat) (sz : Nat) (g : Nat → Int32) (rm : Nat → Int32) (op : Nat → Int32) (rc : Int32) (ec : Int32) (su : Int32) (pe : Int32) (qt : Int32) (rs : Nat → Int32) (rn : Int32) (cs : Nat → Int32) (cn : Int32) (lc : Nat → Int64) (hc : Nat → Int64) (lg : Nat → Int64) (hg : Nat → Int64) (u : Nat → Int64) (a1 : Int32) (r0 : String ⊕ Int32) (h : m_X0_permissions g a1 = some r0) (k : Int32) (u' : Nat → Int64) (hres : (∃ r, r0 = Sum.inr r ∧ k = 0 ∧ u' = vp_updL u 0 (r.toInt64)) ∨ (r0 = Sum.inl "java/lang/IndexOutOfBoundsException" ∧ k = 1 ∧ u' = u)) : Met l yL_permissions wsL_permissions ({ frames := 7, cells := 1, slots := 6, locals := 111 }) (va_Pc [.ref x0, .int a1, .ref o0] (bx_PreL D [(cI, .int), (cJ, .long)] (wX cI cJ x0 x1 x2 x3 x4 x5 x6 x7 x8 x9 g rm op rc ec su pe qt rs rn cs cn lc hc lg hg ++ [(o0, .inl (cJ, 1, .inr (.inl u)))]) sz)) (va_Qi (fun (r : Int32) (_ : Unit) => r = k) (fun (_ : Unit) t => bx_Post D [(cI, .int), (cJ, .long)] (wX cI cJ x0 x1 x2 x3 x4 x5 x6 x7 x8 x9 g rm op rc ec su pe qt rs rn cs cn lc hc lg hg ++ [(o0, .inl (cJ, 1, .inr (.inl u')))]) (va_A (wX cI cJ x0 x1 x2 x3 x4 x5 x6 x7 x8 x9 g rm op rc ec su pe qt rs rn cs cn lc hc lg hg ++ [(o0, .inl (cJ, 1, .inr (.inl u)))]) sz) t) (va_A (wX cI cJ x0 x1 x2 x3 x4 x5 x6 x7 x8 x9 g rm op rc ec su pe qt rs rn cs cn lc hc lg hg ++ [(o0, .inl (cJ, 1, .inr (.inl u)))]) sz)) 1 6 (va_A (wX cI cJ x0 x1 x2 x3 x4 x5 x6 x7 x8 x9 g rm op rc ec su pe qt rs rn cs cn lc hc lg hg ++ [(o0, .inl (cJ, 1, .inr (.inl u)))]) sz) := by
  refine va_MetW (cc := cL_permissions) (maxL := 4) (ret := (some .int)) (hh := [(0, 9, 12, 13)]) (by decide) rfl ?_
  intro p e s m args below meth c s₁ B hml hv
  obtain ⟨rfl, hsz, hP, hK, hD0, hT⟩ := hv
  have hx := B.exec
  have hb := B.bytes
  have hr := B.returns
  have hts := atoms_spec (ws := wsL_permissions) B.pre
  have hown : s.vm.findClass RL = some m.cls := findClass_of_methodNamed B.named
  have hlocks := B.notSynchronized
  have htab := vx_table (x := yL_permissions) (y := yL_permissions) (bytes := cL_permissions) (maxL' := 4) (ret' := (some .int)) (hh := [(0, 9, 12, 13)]) B (hts _ List.mem_cons_self)
  subst hsz
  have hD := hD0.self (sz := s.heap.size)
  generalize hAe : va_A (wX cI cJ x0 x1 x2 x3 x4 x5 x6 x7 x8 x9 g rm op rc ec su pe qt rs rn cs cn lc hc lg hg ++ [(o0, .inl (cJ, 1, .inr (.inl u)))]) s.heap.size = A at hD hT ⊢
  have hA : ∀ q : Nat, s.heap.size ≤ q → A q := fun q h9 => by rw [← hAe]; exact Or.inr h9
  have hS : va_S A s.heap s.heap [] := va_S.rf
  have hk_0 := hts (.classLink RL 13 "java/lang/IndexOutOfBoundsException") (by decide +kernel)
  have hl := lv_entry ([.ref x0, .int a1, .ref o0]) (n := 4) (Nat.le_of_ble_eq_true rfl)
  rw [lg_entry_eq]
  generalize (lg_sl ([.ref x0, .int a1, .ref o0]) ++ List.replicate (4 - (lg_sl ([.ref x0, .int a1, .ref o0])).length) Slot.unset).toArray = ls at hl ⊢
  have hl : lv_has ls 4 [(0, .ref x0), (1, .int a1), (2, .ref o0)] := hl
  refine lv_aload_n hx hb dL_permissions_0 rfl (lv_at hl 2 rfl) ?_
  refine lv_iconst (v := 0) hx hb dL_permissions_1 (by decide) ?_
  refine lv_aload_n hx hb dL_permissions_2 rfl (lv_at hl 0 rfl) ?_
  refine lv_iload_n hx hb dL_permissions_3 rfl (lv_at hl 1 rfl) ?_
  refine cl_Xi (r0 := r0) (As := [.int a1]) (rest := [.int 0, .ref o0]) (wc := wX cI cJ x0 x1 x2 x3 x4 x5 x6 x7 x8 x9 g rm op rc ec su pe qt rs rn cs cn lc hc lg hg) (w1 := wX cI cJ x0 x1 x2 x3 x4 x5 x6 x7 x8 x9 g rm op rc ec su pe qt rs rn cs cn lc hc lg hg) (wr := [(o0, .inl (cJ, 1, .inr (.inl u)))]) ⟨hx, hb, hml, hown, hts⟩ (c_X0_permissions l hst D cI cJ x0 x1 x2 x3 x4 x5 x6 x7 x8 x9 _ g rm op rc ec su pe qt rs rn cs cn lc hc lg hg a1 r0 h) (cwV 1 hts gL_permissions_X0_permissions rfl rfl rfl (by decide +kernel) ⟨Nat.le_of_ble_eq_true rfl, Nat.le_of_ble_eq_true rfl⟩) hK hP hD hS hA hT.1 [0, 1, 2, 3, 4, 5, 6, 7, 8, 9] [10] rfl rfl (by decide) (by decide) rfl rfl rfl rfl rfl hl.1 rfl (lv_room (Nat.le_of_ble_eq_true rfl)) dL_permissions_4 ⟨Nat.le_of_ble_eq_true rfl, Nat.le_of_ble_eq_true rfl⟩ (fun E ce q9 H locs hx0 hP hD hS hce hcv hcl => ?_) (fun r H locs hr0 hP hD hS => ?_)
  · rcases hres with ⟨r9, e1, -, -⟩ | ⟨e1, rfl, rfl⟩
    · cases (e1.symm.trans hx0)
    · cases (e1.symm.trans hx0)
      replace hP := hP.sub (ws' := wX cI cJ x0 x1 x2 x3 x4 x5 x6 x7 x8 x9 g rm op rc ec su pe qt rs rn cs cn lc hc lg hg ++ [(o0, .inl (cJ, 1, .inr (.inl u')))]) [1, 2, 3, 4, 5, 6, 7, 8, 9, 10, 0] rfl
      replace hD := hD.sub (ws' := wX cI cJ x0 x1 x2 x3 x4 x5 x6 x7 x8 x9 g rm op rc ec su pe qt rs rn cs cn lc hc lg hg ++ [(o0, .inl (cJ, 1, .inr (.inl u')))]) [1, 2, 3, 4, 5, 6, 7, 8, 9, 10, 0] (by decide) rfl
      refine vx_catch (own := RL) (name := "java/lang/IndexOutOfBoundsException") hown [] { startPc := 0, endPc := 9, handlerPc := 12, catchType := 13 } [] (htab.trans rfl) (fun z hz => nomatch hz) rfl (by decide) hk_0 (va_Nw.use (A := _) rfl hT.1.1.1) hce hcv hcl ?_
      refine W.eq (g2 := F0 m 12 ls [.ref q9]) rfl ?_
      refine lv_astore_n (lv' := [(3, .ref q9), (0, .ref x0), (1, .int a1), (2, .ref o0)]) hx hb dL_permissions_12 rfl hl (by decide) rfl (fun ls hl => ?_)
      refine lv_iconst (v := 1) hx hb dL_permissions_13 (by decide) ?_
      exact W.iret hx hb hr (fun t ht hW => ⟨⟨_, (), rfl, rfl, by rw [ht]; exact hP, va_K.moved hW.alike hK, hD⟩, hS.F ht⟩) hS.2.2 dL_permissions_14
  · rcases hres with ⟨r9, e1, rfl, rfl⟩ | ⟨e1, -, -⟩
    · have e2 : r9 = r := Sum.inr.inj (e1.symm.trans hr0)
      subst e2
      replace hP := hP.sub (ws' := wX cI cJ x0 x1 x2 x3 x4 x5 x6 x7 x8 x9 g rm op rc ec su pe qt rs rn cs cn lc hc lg hg ++ [(o0, .inl (cJ, 1, .inr (.inl u)))]) [1, 2, 3, 4, 5, 6, 7, 8, 9, 10, 0] rfl
      replace hD := hD.sub (ws' := wX cI cJ x0 x1 x2 x3 x4 x5 x6 x7 x8 x9 g rm op rc ec su pe qt rs rn cs cn lc hc lg hg ++ [(o0, .inl (cJ, 1, .inr (.inl u)))]) [1, 2, 3, 4, 5, 6, 7, 8, 9, 10, 0] (by decide) rfl
      refine lv_i2l (v := r9.toInt64) hx hb dL_permissions_7 rfl ?_
      refine va_last hx hb hK hP hD hS 10 1 rfl rfl (show ¬ ((0 : Int32) < 0 ∨ 1 ≤ Int32.toNatClampNeg 0) by decide) dL_permissions_8 (fun H locs hP hD hS => ?_)
      have hP : va_P D vwCl (wX cI cJ x0 x1 x2 x3 x4 x5 x6 x7 x8 x9 g rm op rc ec su pe qt rs rn cs cn lc hc lg hg ++ [(o0, .inl (cJ, 1, .inr (.inl (vp_updL u 0 r9.toInt64))))]) H := hP
      have hD : va_D A (wX cI cJ x0 x1 x2 x3 x4 x5 x6 x7 x8 x9 g rm op rc ec su pe qt rs rn cs cn lc hc lg hg ++ [(o0, .inl (cJ, 1, .inr (.inl (vp_updL u 0 r9.toInt64))))]) := hD
      refine lv_goto (tgt := 15) hx hb dL_permissions_9 (by decide) ?_
      refine lv_iconst (v := 0) hx hb dL_permissions_15 (by decide) ?_
      exact W.iret hx hb hr (fun t ht hW => ⟨⟨_, (), rfl, rfl, by rw [ht]; exact hP, va_K.moved hW.alike hK, hD⟩, hS.F ht⟩) hS.2.2 dL_permissions_16
    · cases (e1.symm.trans hr0)
-- L_violations
set_option maxHeartbeats 4000000 in
set_option maxRecDepth 100000 in
theorem c_L_violations (l : Launch) (hst : l.stackTraces = false) (D : va_G) (cI cJ : ClassId) (x0 x1 x2 x3 x4 x5 x6 x7 x8 x9 : Nat) (o0 : Nat) (sz : Nat) (g : Nat → Int32) (rm : Nat → Int32) (op : Nat → Int32) (rc : Int32) (ec : Int32) (su : Int32) (pe : Int32) (qt : Int32) (rs : Nat → Int32) (rn : Int32) (cs : Nat → Int32) (cn : Int32) (lc : Nat → Int64) (hc : Nat → Int64) (lg : Nat → Int64) (hg : Nat → Int64) (u : Nat → Int64) (fu : Nat) (a1 : Int32) (r0 : String ⊕ Int32) (h : m_X0_violations fu g op a1 = some r0) (k : Int32) (u' : Nat → Int64) (hres : (∃ r, r0 = Sum.inr r ∧ k = 0 ∧ u' = vp_updL u 0 (r.toInt64)) ∨ (r0 = Sum.inl "java/lang/IndexOutOfBoundsException" ∧ k = 1 ∧ u' = u)) : Met l yL_violations wsL_violations ({ frames := 7, cells := 1, slots := 6, locals := 113 }) (va_Pc [.ref x0, .int a1, .ref o0] (bx_PreL D [(cI, .int), (cJ, .long)] (wX cI cJ x0 x1 x2 x3 x4 x5 x6 x7 x8 x9 g rm op rc ec su pe qt rs rn cs cn lc hc lg hg ++ [(o0, .inl (cJ, 1, .inr (.inl u)))]) sz)) (va_Qi (fun (r : Int32) (_ : Unit) => r = k) (fun (_ : Unit) t => bx_Post D [(cI, .int), (cJ, .long)] (wX cI cJ x0 x1 x2 x3 x4 x5 x6 x7 x8 x9 g rm op rc ec su pe qt rs rn cs cn lc hc lg hg ++ [(o0, .inl (cJ, 1, .inr (.inl u')))]) (va_A (wX cI cJ x0 x1 x2 x3 x4 x5 x6 x7 x8 x9 g rm op rc ec su pe qt rs rn cs cn lc hc lg hg ++ [(o0, .inl (cJ, 1, .inr (.inl u)))]) sz) t) (va_A (wX cI cJ x0 x1 x2 x3 x4 x5 x6 x7 x8 x9 g rm op rc ec su pe qt rs rn cs cn lc hc lg hg ++ [(o0, .inl (cJ, 1, .inr (.inl u)))]) sz)) 1 6 (va_A (wX cI cJ x0 x1 x2 x3 x4 x5 x6 x7 x8 x9 g rm op rc ec su pe qt rs rn cs cn lc hc lg hg ++ [(o0, .inl (cJ, 1, .inr (.inl u)))]) sz) := by
  refine va_MetW (cc := cL_violations) (maxL := 4) (ret := (some .int)) (hh := [(0, 9, 12, 13)]) (by decide) rfl ?_
  intro p e s m args below meth c s₁ B hml hv
  obtain ⟨rfl, hsz, hP, hK, hD0, hT⟩ := hv
  have hx := B.exec
  have hb := B.bytes
  have hr := B.returns
  have hts := atoms_spec (ws := wsL_violations) B.pre
  have hown : s.vm.findClass RL = some m.cls := findClass_of_methodNamed B.named
  have hlocks := B.notSynchronized
  have htab := vx_table (x := yL_violations) (y := yL_violations) (bytes := cL_violations) (maxL' := 4) (ret' := (some .int)) (hh := [(0, 9, 12, 13)]) B (hts _ List.mem_cons_self)
  subst hsz
  have hD := hD0.self (sz := s.heap.size)
  generalize hAe : va_A (wX cI cJ x0 x1 x2 x3 x4 x5 x6 x7 x8 x9 g rm op rc ec su pe qt rs rn cs cn lc hc lg hg ++ [(o0, .inl (cJ, 1, .inr (.inl u)))]) s.heap.size = A at hD hT ⊢
  have hA : ∀ q : Nat, s.heap.size ≤ q → A q := fun q h9 => by rw [← hAe]; exact Or.inr h9
  have hS : va_S A s.heap s.heap [] := va_S.rf
  have hk_0 := hts (.classLink RL 13 "java/lang/IndexOutOfBoundsException") (by decide +kernel)
  have hl := lv_entry ([.ref x0, .int a1, .ref o0]) (n := 4) (Nat.le_of_ble_eq_true rfl)
  rw [lg_entry_eq]
  generalize (lg_sl ([.ref x0, .int a1, .ref o0]) ++ List.replicate (4 - (lg_sl ([.ref x0, .int a1, .ref o0])).length) Slot.unset).toArray = ls at hl ⊢
  have hl : lv_has ls 4 [(0, .ref x0), (1, .int a1), (2, .ref o0)] := hl
  refine lv_aload_n hx hb dL_violations_0 rfl (lv_at hl 2 rfl) ?_
  refine lv_iconst (v := 0) hx hb dL_violations_1 (by decide) ?_
  refine lv_aload_n hx hb dL_violations_2 rfl (lv_at hl 0 rfl) ?_
  refine lv_iload_n hx hb dL_violations_3 rfl (lv_at hl 1 rfl) ?_
  refine cl_Xi (r0 := r0) (As := [.int a1]) (rest := [.int 0, .ref o0]) (wc := wX cI cJ x0 x1 x2 x3 x4 x5 x6 x7 x8 x9 g rm op rc ec su pe qt rs rn cs cn lc hc lg hg) (w1 := wX cI cJ x0 x1 x2 x3 x4 x5 x6 x7 x8 x9 g rm op rc ec su pe qt rs rn cs cn lc hc lg hg) (wr := [(o0, .inl (cJ, 1, .inr (.inl u)))]) ⟨hx, hb, hml, hown, hts⟩ (c_X0_violations l hst D cI cJ x0 x1 x2 x3 x4 x5 x6 x7 x8 x9 _ g rm op rc ec su pe qt rs rn cs cn lc hc lg hg fu a1 r0 h) (cwV 1 hts gL_violations_X0_violations rfl rfl rfl (by decide +kernel) ⟨Nat.le_of_ble_eq_true rfl, Nat.le_of_ble_eq_true rfl⟩) hK hP hD hS hA hT.1 [0, 1, 2, 3, 4, 5, 6, 7, 8, 9] [10] rfl rfl (by decide) (by decide) rfl rfl rfl rfl rfl hl.1 rfl (lv_room (Nat.le_of_ble_eq_true rfl)) dL_violations_4 ⟨Nat.le_of_ble_eq_true rfl, Nat.le_of_ble_eq_true rfl⟩ (fun E ce q9 H locs hx0 hP hD hS hce hcv hcl => ?_) (fun r H locs hr0 hP hD hS => ?_)
  · rcases hres with ⟨r9, e1, -, -⟩ | ⟨e1, rfl, rfl⟩
    · cases (e1.symm.trans hx0)
    · cases (e1.symm.trans hx0)
      replace hP := hP.sub (ws' := wX cI cJ x0 x1 x2 x3 x4 x5 x6 x7 x8 x9 g rm op rc ec su pe qt rs rn cs cn lc hc lg hg ++ [(o0, .inl (cJ, 1, .inr (.inl u')))]) [1, 2, 3, 4, 5, 6, 7, 8, 9, 10, 0] rfl
      replace hD := hD.sub (ws' := wX cI cJ x0 x1 x2 x3 x4 x5 x6 x7 x8 x9 g rm op rc ec su pe qt rs rn cs cn lc hc lg hg ++ [(o0, .inl (cJ, 1, .inr (.inl u')))]) [1, 2, 3, 4, 5, 6, 7, 8, 9, 10, 0] (by decide) rfl
      refine vx_catch (own := RL) (name := "java/lang/IndexOutOfBoundsException") hown [] { startPc := 0, endPc := 9, handlerPc := 12, catchType := 13 } [] (htab.trans rfl) (fun z hz => nomatch hz) rfl (by decide) hk_0 (va_Nw.use (A := _) rfl hT.1.1.1) hce hcv hcl ?_
      refine W.eq (g2 := F0 m 12 ls [.ref q9]) rfl ?_
      refine lv_astore_n (lv' := [(3, .ref q9), (0, .ref x0), (1, .int a1), (2, .ref o0)]) hx hb dL_violations_12 rfl hl (by decide) rfl (fun ls hl => ?_)
      refine lv_iconst (v := 1) hx hb dL_violations_13 (by decide) ?_
      exact W.iret hx hb hr (fun t ht hW => ⟨⟨_, (), rfl, rfl, by rw [ht]; exact hP, va_K.moved hW.alike hK, hD⟩, hS.F ht⟩) hS.2.2 dL_violations_14
  · rcases hres with ⟨r9, e1, rfl, rfl⟩ | ⟨e1, -, -⟩
    · have e2 : r9 = r := Sum.inr.inj (e1.symm.trans hr0)
      subst e2
      replace hP := hP.sub (ws' := wX cI cJ x0 x1 x2 x3 x4 x5 x6 x7 x8 x9 g rm op rc ec su pe qt rs rn cs cn lc hc lg hg ++ [(o0, .inl (cJ, 1, .inr (.inl u)))]) [1, 2, 3, 4, 5, 6, 7, 8, 9, 10, 0] rfl
      replace hD := hD.sub (ws' := wX cI cJ x0 x1 x2 x3 x4 x5 x6 x7 x8 x9 g rm op rc ec su pe qt rs rn cs cn lc hc lg hg ++ [(o0, .inl (cJ, 1, .inr (.inl u)))]) [1, 2, 3, 4, 5, 6, 7, 8, 9, 10, 0] (by decide) rfl
      refine lv_i2l (v := r9.toInt64) hx hb dL_violations_7 rfl ?_
      refine va_last hx hb hK hP hD hS 10 1 rfl rfl (show ¬ ((0 : Int32) < 0 ∨ 1 ≤ Int32.toNatClampNeg 0) by decide) dL_violations_8 (fun H locs hP hD hS => ?_)
      have hP : va_P D vwCl (wX cI cJ x0 x1 x2 x3 x4 x5 x6 x7 x8 x9 g rm op rc ec su pe qt rs rn cs cn lc hc lg hg ++ [(o0, .inl (cJ, 1, .inr (.inl (vp_updL u 0 r9.toInt64))))]) H := hP
      have hD : va_D A (wX cI cJ x0 x1 x2 x3 x4 x5 x6 x7 x8 x9 g rm op rc ec su pe qt rs rn cs cn lc hc lg hg ++ [(o0, .inl (cJ, 1, .inr (.inl (vp_updL u 0 r9.toInt64))))]) := hD
      refine lv_goto (tgt := 15) hx hb dL_violations_9 (by decide) ?_
      refine lv_iconst (v := 0) hx hb dL_violations_15 (by decide) ?_
      exact W.iret hx hb hr (fun t ht hW => ⟨⟨_, (), rfl, rfl, by rw [ht]; exact hP, va_K.moved hW.alike hK, hD⟩, hS.F ht⟩) hS.2.2 dL_violations_16
    · cases (e1.symm.trans hr0)
-- L_due
set_option maxHeartbeats 4000000 in
set_option maxRecDepth 100000 in
theorem c_L_due (l : Launch) (hst : l.stackTraces = false) (D : va_G) (cI cJ : ClassId) (x0 x1 x2 x3 x4 x5 x6 x7 x8 x9 : Nat) (o0 : Nat) (sz : Nat) (g : Nat → Int32) (rm : Nat → Int32) (op : Nat → Int32) (rc : Int32) (ec : Int32) (su : Int32) (pe : Int32) (qt : Int32) (rs : Nat → Int32) (rn : Int32) (cs : Nat → Int32) (cn : Int32) (lc : Nat → Int64) (hc : Nat → Int64) (lg : Nat → Int64) (hg : Nat → Int64) (u : Nat → Int64) (fu : Nat) (a1 : Int32) (r0 : String ⊕ Int32) (h : m_X0_due fu g rm pe qt a1 = some r0) (k : Int32) (u' : Nat → Int64) (hres : (∃ r, r0 = Sum.inr r ∧ k = 0 ∧ u' = vp_updL u 0 (r.toInt64)) ∨ (r0 = Sum.inl "java/lang/IndexOutOfBoundsException" ∧ k = 1 ∧ u' = u)) : Met l yL_due wsL_due ({ frames := 7, cells := 1, slots := 6, locals := 111 }) (va_Pc [.ref x0, .int a1, .ref o0] (bx_PreL D [(cI, .int), (cJ, .long)] (wX cI cJ x0 x1 x2 x3 x4 x5 x6 x7 x8 x9 g rm op rc ec su pe qt rs rn cs cn lc hc lg hg ++ [(o0, .inl (cJ, 1, .inr (.inl u)))]) sz)) (va_Qi (fun (r : Int32) (_ : Unit) => r = k) (fun (_ : Unit) t => bx_Post D [(cI, .int), (cJ, .long)] (wX cI cJ x0 x1 x2 x3 x4 x5 x6 x7 x8 x9 g rm op rc ec su pe qt rs rn cs cn lc hc lg hg ++ [(o0, .inl (cJ, 1, .inr (.inl u')))]) (va_A (wX cI cJ x0 x1 x2 x3 x4 x5 x6 x7 x8 x9 g rm op rc ec su pe qt rs rn cs cn lc hc lg hg ++ [(o0, .inl (cJ, 1, .inr (.inl u)))]) sz) t) (va_A (wX cI cJ x0 x1 x2 x3 x4 x5 x6 x7 x8 x9 g rm op rc ec su pe qt rs rn cs cn lc hc lg hg ++ [(o0, .inl (cJ, 1, .inr (.inl u)))]) sz)) 1 6 (va_A (wX cI cJ x0 x1 x2 x3 x4 x5 x6 x7 x8 x9 g rm op rc ec su pe qt rs rn cs cn lc hc lg hg ++ [(o0, .inl (cJ, 1, .inr (.inl u)))]) sz) := by
  refine va_MetW (cc := cL_due) (maxL := 4) (ret := (some .int)) (hh := [(0, 9, 12, 13)]) (by decide) rfl ?_
  intro p e s m args below meth c s₁ B hml hv
  obtain ⟨rfl, hsz, hP, hK, hD0, hT⟩ := hv
  have hx := B.exec
  have hb := B.bytes
  have hr := B.returns
  have hts := atoms_spec (ws := wsL_due) B.pre
  have hown : s.vm.findClass RL = some m.cls := findClass_of_methodNamed B.named
  have hlocks := B.notSynchronized
  have htab := vx_table (x := yL_due) (y := yL_due) (bytes := cL_due) (maxL' := 4) (ret' := (some .int)) (hh := [(0, 9, 12, 13)]) B (hts _ List.mem_cons_self)
  subst hsz
  have hD := hD0.self (sz := s.heap.size)
  generalize hAe : va_A (wX cI cJ x0 x1 x2 x3 x4 x5 x6 x7 x8 x9 g rm op rc ec su pe qt rs rn cs cn lc hc lg hg ++ [(o0, .inl (cJ, 1, .inr (.inl u)))]) s.heap.size = A at hD hT ⊢
  have hA : ∀ q : Nat, s.heap.size ≤ q → A q := fun q h9 => by rw [← hAe]; exact Or.inr h9
  have hS : va_S A s.heap s.heap [] := va_S.rf
  have hk_0 := hts (.classLink RL 13 "java/lang/IndexOutOfBoundsException") (by decide +kernel)
  have hl := lv_entry ([.ref x0, .int a1, .ref o0]) (n := 4) (Nat.le_of_ble_eq_true rfl)
  rw [lg_entry_eq]
  generalize (lg_sl ([.ref x0, .int a1, .ref o0]) ++ List.replicate (4 - (lg_sl ([.ref x0, .int a1, .ref o0])).length) Slot.unset).toArray = ls at hl ⊢
  have hl : lv_has ls 4 [(0, .ref x0), (1, .int a1), (2, .ref o0)] := hl
  refine lv_aload_n hx hb dL_due_0 rfl (lv_at hl 2 rfl) ?_
  refine lv_iconst (v := 0) hx hb dL_due_1 (by decide) ?_
  refine lv_aload_n hx hb dL_due_2 rfl (lv_at hl 0 rfl) ?_
  refine lv_iload_n hx hb dL_due_3 rfl (lv_at hl 1 rfl) ?_
  refine cl_Xi (r0 := r0) (As := [.int a1]) (rest := [.int 0, .ref o0]) (wc := wX cI cJ x0 x1 x2 x3 x4 x5 x6 x7 x8 x9 g rm op rc ec su pe qt rs rn cs cn lc hc lg hg) (w1 := wX cI cJ x0 x1 x2 x3 x4 x5 x6 x7 x8 x9 g rm op rc ec su pe qt rs rn cs cn lc hc lg hg) (wr := [(o0, .inl (cJ, 1, .inr (.inl u)))]) ⟨hx, hb, hml, hown, hts⟩ (c_X0_due l hst D cI cJ x0 x1 x2 x3 x4 x5 x6 x7 x8 x9 _ g rm op rc ec su pe qt rs rn cs cn lc hc lg hg fu a1 r0 h) (cwV 1 hts gL_due_X0_due rfl rfl rfl (by decide +kernel) ⟨Nat.le_of_ble_eq_true rfl, Nat.le_of_ble_eq_true rfl⟩) hK hP hD hS hA hT.1 [0, 1, 2, 3, 4, 5, 6, 7, 8, 9] [10] rfl rfl (by decide) (by decide) rfl rfl rfl rfl rfl hl.1 rfl (lv_room (Nat.le_of_ble_eq_true rfl)) dL_due_4 ⟨Nat.le_of_ble_eq_true rfl, Nat.le_of_ble_eq_true rfl⟩ (fun E ce q9 H locs hx0 hP hD hS hce hcv hcl => ?_) (fun r H locs hr0 hP hD hS => ?_)
  · rcases hres with ⟨r9, e1, -, -⟩ | ⟨e1, rfl, rfl⟩
    · cases (e1.symm.trans hx0)
    · cases (e1.symm.trans hx0)
      replace hP := hP.sub (ws' := wX cI cJ x0 x1 x2 x3 x4 x5 x6 x7 x8 x9 g rm op rc ec su pe qt rs rn cs cn lc hc lg hg ++ [(o0, .inl (cJ, 1, .inr (.inl u')))]) [1, 2, 3, 4, 5, 6, 7, 8, 9, 10, 0] rfl
      replace hD := hD.sub (ws' := wX cI cJ x0 x1 x2 x3 x4 x5 x6 x7 x8 x9 g rm op rc ec su pe qt rs rn cs cn lc hc lg hg ++ [(o0, .inl (cJ, 1, .inr (.inl u')))]) [1, 2, 3, 4, 5, 6, 7, 8, 9, 10, 0] (by decide) rfl
      refine vx_catch (own := RL) (name := "java/lang/IndexOutOfBoundsException") hown [] { startPc := 0, endPc := 9, handlerPc := 12, catchType := 13 } [] (htab.trans rfl) (fun z hz => nomatch hz) rfl (by decide) hk_0 (va_Nw.use (A := _) rfl hT.1.1.1) hce hcv hcl ?_
      refine W.eq (g2 := F0 m 12 ls [.ref q9]) rfl ?_
      refine lv_astore_n (lv' := [(3, .ref q9), (0, .ref x0), (1, .int a1), (2, .ref o0)]) hx hb dL_due_12 rfl hl (by decide) rfl (fun ls hl => ?_)
      refine lv_iconst (v := 1) hx hb dL_due_13 (by decide) ?_
      exact W.iret hx hb hr (fun t ht hW => ⟨⟨_, (), rfl, rfl, by rw [ht]; exact hP, va_K.moved hW.alike hK, hD⟩, hS.F ht⟩) hS.2.2 dL_due_14
  · rcases hres with ⟨r9, e1, rfl, rfl⟩ | ⟨e1, -, -⟩
    · have e2 : r9 = r := Sum.inr.inj (e1.symm.trans hr0)
      subst e2
      replace hP := hP.sub (ws' := wX cI cJ x0 x1 x2 x3 x4 x5 x6 x7 x8 x9 g rm op rc ec su pe qt rs rn cs cn lc hc lg hg ++ [(o0, .inl (cJ, 1, .inr (.inl u)))]) [1, 2, 3, 4, 5, 6, 7, 8, 9, 10, 0] rfl
      replace hD := hD.sub (ws' := wX cI cJ x0 x1 x2 x3 x4 x5 x6 x7 x8 x9 g rm op rc ec su pe qt rs rn cs cn lc hc lg hg ++ [(o0, .inl (cJ, 1, .inr (.inl u)))]) [1, 2, 3, 4, 5, 6, 7, 8, 9, 10, 0] (by decide) rfl
      refine lv_i2l (v := r9.toInt64) hx hb dL_due_7 rfl ?_
      refine va_last hx hb hK hP hD hS 10 1 rfl rfl (show ¬ ((0 : Int32) < 0 ∨ 1 ≤ Int32.toNatClampNeg 0) by decide) dL_due_8 (fun H locs hP hD hS => ?_)
      have hP : va_P D vwCl (wX cI cJ x0 x1 x2 x3 x4 x5 x6 x7 x8 x9 g rm op rc ec su pe qt rs rn cs cn lc hc lg hg ++ [(o0, .inl (cJ, 1, .inr (.inl (vp_updL u 0 r9.toInt64))))]) H := hP
      have hD : va_D A (wX cI cJ x0 x1 x2 x3 x4 x5 x6 x7 x8 x9 g rm op rc ec su pe qt rs rn cs cn lc hc lg hg ++ [(o0, .inl (cJ, 1, .inr (.inl (vp_updL u 0 r9.toInt64))))]) := hD
      refine lv_goto (tgt := 15) hx hb dL_due_9 (by decide) ?_
      refine lv_iconst (v := 0) hx hb dL_due_15 (by decide) ?_
      exact W.iret hx hb hr (fun t ht hW => ⟨⟨_, (), rfl, rfl, by rw [ht]; exact hP, va_K.moved hW.alike hK, hD⟩, hS.F ht⟩) hS.2.2 dL_due_16
    · cases (e1.symm.trans hr0)
-- L_candidate
set_option maxHeartbeats 4000000 in
set_option maxRecDepth 100000 in
theorem c_L_candidate (l : Launch) (hst : l.stackTraces = false) (D : va_G) (cI cJ : ClassId) (x0 x1 x2 x3 x4 x5 x6 x7 x8 x9 : Nat) (o0 : Nat) (sz : Nat) (g : Nat → Int32) (rm : Nat → Int32) (op : Nat → Int32) (rc : Int32) (ec : Int32) (su : Int32) (pe : Int32) (qt : Int32) (rs : Nat → Int32) (rn : Int32) (cs : Nat → Int32) (cn : Int32) (lc : Nat → Int64) (hc : Nat → Int64) (lg : Nat → Int64) (hg : Nat → Int64) (u : Nat → Int64) (fu : Nat) (a1 : Int32) (r0 : String ⊕ Int32) (cs' : Nat → Int32) (cn' : Int32) (lc' : Nat → Int64) (hc' : Nat → Int64) (lg' : Nat → Int64) (hg' : Nat → Int64) (h : m_X0_candidate fu g op su cs cn lc hc lg hg a1 = some (r0, cs', cn', lc', hc', lg', hg')) (k : Int32) (u' : Nat → Int64) (hres : (∃ r, r0 = Sum.inr r ∧ k = 0 ∧ u' = vp_updL u 0 (r.toInt64)) ∨ (r0 = Sum.inl "java/lang/IndexOutOfBoundsException" ∧ k = 1 ∧ u' = u)) : Met l yL_candidate wsL_candidate ({ frames := 7, cells := 1, slots := 6, locals := 111 }) (va_Pc [.ref x0, .int a1, .ref o0] (bx_PreL D [(cI, .int), (cJ, .long)] (wX cI cJ x0 x1 x2 x3 x4 x5 x6 x7 x8 x9 g rm op rc ec su pe qt rs rn cs cn lc hc lg hg ++ [(o0, .inl (cJ, 1, .inr (.inl u)))]) sz)) (va_Qi (fun (r : Int32) (_ : Unit) => r = k) (fun (_ : Unit) t => bx_Post D [(cI, .int), (cJ, .long)] (wX cI cJ x0 x1 x2 x3 x4 x5 x6 x7 x8 x9 g rm op rc ec su pe qt rs rn cs' cn' lc' hc' lg' hg' ++ [(o0, .inl (cJ, 1, .inr (.inl u')))]) (va_A (wX cI cJ x0 x1 x2 x3 x4 x5 x6 x7 x8 x9 g rm op rc ec su pe qt rs rn cs cn lc hc lg hg ++ [(o0, .inl (cJ, 1, .inr (.inl u)))]) sz) t) (va_A (wX cI cJ x0 x1 x2 x3 x4 x5 x6 x7 x8 x9 g rm op rc ec su pe qt rs rn cs cn lc hc lg hg ++ [(o0, .inl (cJ, 1, .inr (.inl u)))]) sz)) 1 6 (va_A (wX cI cJ x0 x1 x2 x3 x4 x5 x6 x7 x8 x9 g rm op rc ec su pe qt rs rn cs cn lc hc lg hg ++ [(o0, .inl (cJ, 1, .inr (.inl u)))]) sz) := by
  refine va_MetW (cc := cL_candidate) (maxL := 4) (ret := (some .int)) (hh := [(0, 9, 12, 13)]) (by decide) rfl ?_
  intro p e s m args below meth c s₁ B hml hv
  obtain ⟨rfl, hsz, hP, hK, hD0, hT⟩ := hv
  have hx := B.exec
  have hb := B.bytes
  have hr := B.returns
  have hts := atoms_spec (ws := wsL_candidate) B.pre
  have hown : s.vm.findClass RL = some m.cls := findClass_of_methodNamed B.named
  have hlocks := B.notSynchronized
  have htab := vx_table (x := yL_candidate) (y := yL_candidate) (bytes := cL_candidate) (maxL' := 4) (ret' := (some .int)) (hh := [(0, 9, 12, 13)]) B (hts _ List.mem_cons_self)
  subst hsz
  have hD := hD0.self (sz := s.heap.size)
  generalize hAe : va_A (wX cI cJ x0 x1 x2 x3 x4 x5 x6 x7 x8 x9 g rm op rc ec su pe qt rs rn cs cn lc hc lg hg ++ [(o0, .inl (cJ, 1, .inr (.inl u)))]) s.heap.size = A at hD hT ⊢
  have hA : ∀ q : Nat, s.heap.size ≤ q → A q := fun q h9 => by rw [← hAe]; exact Or.inr h9
  have hS : va_S A s.heap s.heap [] := va_S.rf
  have hk_0 := hts (.classLink RL 13 "java/lang/IndexOutOfBoundsException") (by decide +kernel)
  have hl := lv_entry ([.ref x0, .int a1, .ref o0]) (n := 4) (Nat.le_of_ble_eq_true rfl)
  rw [lg_entry_eq]
  generalize (lg_sl ([.ref x0, .int a1, .ref o0]) ++ List.replicate (4 - (lg_sl ([.ref x0, .int a1, .ref o0])).length) Slot.unset).toArray = ls at hl ⊢
  have hl : lv_has ls 4 [(0, .ref x0), (1, .int a1), (2, .ref o0)] := hl
  refine lv_aload_n hx hb dL_candidate_0 rfl (lv_at hl 2 rfl) ?_
  refine lv_iconst (v := 0) hx hb dL_candidate_1 (by decide) ?_
  refine lv_aload_n hx hb dL_candidate_2 rfl (lv_at hl 0 rfl) ?_
  refine lv_iload_n hx hb dL_candidate_3 rfl (lv_at hl 1 rfl) ?_
  refine cl_Xi (r0 := r0) (As := [.int a1]) (rest := [.int 0, .ref o0]) (wc := wX cI cJ x0 x1 x2 x3 x4 x5 x6 x7 x8 x9 g rm op rc ec su pe qt rs rn cs cn lc hc lg hg) (w1 := wX cI cJ x0 x1 x2 x3 x4 x5 x6 x7 x8 x9 g rm op rc ec su pe qt rs rn cs' cn' lc' hc' lg' hg') (wr := [(o0, .inl (cJ, 1, .inr (.inl u)))]) ⟨hx, hb, hml, hown, hts⟩ (c_X0_candidate l hst D cI cJ x0 x1 x2 x3 x4 x5 x6 x7 x8 x9 _ g rm op rc ec su pe qt rs rn cs cn lc hc lg hg fu a1 r0 cs' cn' lc' hc' lg' hg' h) (cwV 1 hts gL_candidate_X0_candidate rfl rfl rfl (by decide +kernel) ⟨Nat.le_of_ble_eq_true rfl, Nat.le_of_ble_eq_true rfl⟩) hK hP hD hS hA hT.1 [0, 1, 2, 3, 4, 5, 6, 7, 8, 9] [10] rfl rfl (by decide) (by decide) rfl rfl rfl rfl rfl hl.1 rfl (lv_room (Nat.le_of_ble_eq_true rfl)) dL_candidate_4 ⟨Nat.le_of_ble_eq_true rfl, Nat.le_of_ble_eq_true rfl⟩ (fun E ce q9 H locs hx0 hP hD hS hce hcv hcl => ?_) (fun r H locs hr0 hP hD hS => ?_)
  · rcases hres with ⟨r9, e1, -, -⟩ | ⟨e1, rfl, rfl⟩
    · cases (e1.symm.trans hx0)
    · cases (e1.symm.trans hx0)
      replace hP := hP.sub (ws' := wX cI cJ x0 x1 x2 x3 x4 x5 x6 x7 x8 x9 g rm op rc ec su pe qt rs rn cs' cn' lc' hc' lg' hg' ++ [(o0, .inl (cJ, 1, .inr (.inl u')))]) [1, 2, 3, 4, 5, 6, 7, 8, 9, 10, 0] rfl
      replace hD := hD.sub (ws' := wX cI cJ x0 x1 x2 x3 x4 x5 x6 x7 x8 x9 g rm op rc ec su pe qt rs rn cs' cn' lc' hc' lg' hg' ++ [(o0, .inl (cJ, 1, .inr (.inl u')))]) [1, 2, 3, 4, 5, 6, 7, 8, 9, 10, 0] (by decide) rfl
      refine vx_catch (own := RL) (name := "java/lang/IndexOutOfBoundsException") hown [] { startPc := 0, endPc := 9, handlerPc := 12, catchType := 13 } [] (htab.trans rfl) (fun z hz => nomatch hz) rfl (by decide) hk_0 (va_Nw.use (A := _) rfl hT.1.1.1) hce hcv hcl ?_
      refine W.eq (g2 := F0 m 12 ls [.ref q9]) rfl ?_
      refine lv_astore_n (lv' := [(3, .ref q9), (0, .ref x0), (1, .int a1), (2, .ref o0)]) hx hb dL_candidate_12 rfl hl (by decide) rfl (fun ls hl => ?_)
      refine lv_iconst (v := 1) hx hb dL_candidate_13 (by decide) ?_
      exact W.iret hx hb hr (fun t ht hW => ⟨⟨_, (), rfl, rfl, by rw [ht]; exact hP, va_K.moved hW.alike hK, hD⟩, hS.F ht⟩) hS.2.2 dL_candidate_14
  · rcases hres with ⟨r9, e1, rfl, rfl⟩ | ⟨e1, -, -⟩
    · have e2 : r9 = r := Sum.inr.inj (e1.symm.trans hr0)
      subst e2
      replace hP := hP.sub (ws' := wX cI cJ x0 x1 x2 x3 x4 x5 x6 x7 x8 x9 g rm op rc ec su pe qt rs rn cs' cn' lc' hc' lg' hg' ++ [(o0, .inl (cJ, 1, .inr (.inl u)))]) [1, 2, 3, 4, 5, 6, 7, 8, 9, 10, 0] rfl
      replace hD := hD.sub (ws' := wX cI cJ x0 x1 x2 x3 x4 x5 x6 x7 x8 x9 g rm op rc ec su pe qt rs rn cs' cn' lc' hc' lg' hg' ++ [(o0, .inl (cJ, 1, .inr (.inl u)))]) [1, 2, 3, 4, 5, 6, 7, 8, 9, 10, 0] (by decide) rfl
      refine lv_i2l (v := r9.toInt64) hx hb dL_candidate_7 rfl ?_
      refine va_last hx hb hK hP hD hS 10 1 rfl rfl (show ¬ ((0 : Int32) < 0 ∨ 1 ≤ Int32.toNatClampNeg 0) by decide) dL_candidate_8 (fun H locs hP hD hS => ?_)
      have hP : va_P D vwCl (wX cI cJ x0 x1 x2 x3 x4 x5 x6 x7 x8 x9 g rm op rc ec su pe qt rs rn cs' cn' lc' hc' lg' hg' ++ [(o0, .inl (cJ, 1, .inr (.inl (vp_updL u 0 r9.toInt64))))]) H := hP
      have hD : va_D A (wX cI cJ x0 x1 x2 x3 x4 x5 x6 x7 x8 x9 g rm op rc ec su pe qt rs rn cs' cn' lc' hc' lg' hg' ++ [(o0, .inl (cJ, 1, .inr (.inl (vp_updL u 0 r9.toInt64))))]) := hD
      refine lv_goto (tgt := 15) hx hb dL_candidate_9 (by decide) ?_
      refine lv_iconst (v := 0) hx hb dL_candidate_15 (by decide) ?_
      exact W.iret hx hb hr (fun t ht hW => ⟨⟨_, (), rfl, rfl, by rw [ht]; exact hP, va_K.moved hW.alike hK, hD⟩, hS.F ht⟩) hS.2.2 dL_candidate_16
    · cases (e1.symm.trans hr0)
-- L_holders
set_option maxHeartbeats 4000000 in
set_option maxRecDepth 100000 in
theorem c_L_holders (l : Launch) (hst : l.stackTraces = false) (D : va_G) (cI cJ : ClassId) (x0 x1 x2 x3 x4 x5 x6 x7 x8 x9 : Nat) (o0 : Nat) (sz : Nat) (g : Nat → Int32) (rm : Nat → Int32) (op : Nat → Int32) (rc : Int32) (ec : Int32) (su : Int32) (pe : Int32) (qt : Int32) (rs : Nat → Int32) (rn : Int32) (cs : Nat → Int32) (cn : Int32) (lc : Nat → Int64) (hc : Nat → Int64) (lg : Nat → Int64) (hg : Nat → Int64) (u : Nat → Int64) (fu : Nat) (a1 : Int32) (r0 : String ⊕ Int32) (h : m_X0_holders fu g a1 = some r0) (k : Int32) (u' : Nat → Int64) (hres : (∃ r, r0 = Sum.inr r ∧ k = 0 ∧ u' = vp_updL u 0 (r.toInt64)) ∨ (r0 = Sum.inl "java/lang/IllegalArgumentException" ∧ k = 1 ∧ u' = u)) : Met l yL_holders wsL_holders ({ frames := 7, cells := 1, slots := 6, locals := 111 }) (va_Pc [.ref x0, .int a1, .ref o0] (bx_PreL D [(cI, .int), (cJ, .long)] (wX cI cJ x0 x1 x2 x3 x4 x5 x6 x7 x8 x9 g rm op rc ec su pe qt rs rn cs cn lc hc lg hg ++ [(o0, .inl (cJ, 1, .inr (.inl u)))]) sz)) (va_Qi (fun (r : Int32) (_ : Unit) => r = k) (fun (_ : Unit) t => bx_Post D [(cI, .int), (cJ, .long)] (wX cI cJ x0 x1 x2 x3 x4 x5 x6 x7 x8 x9 g rm op rc ec su pe qt rs rn cs cn lc hc lg hg ++ [(o0, .inl (cJ, 1, .inr (.inl u')))]) (va_A (wX cI cJ x0 x1 x2 x3 x4 x5 x6 x7 x8 x9 g rm op rc ec su pe qt rs rn cs cn lc hc lg hg ++ [(o0, .inl (cJ, 1, .inr (.inl u)))]) sz) t) (va_A (wX cI cJ x0 x1 x2 x3 x4 x5 x6 x7 x8 x9 g rm op rc ec su pe qt rs rn cs cn lc hc lg hg ++ [(o0, .inl (cJ, 1, .inr (.inl u)))]) sz)) 1 6 (va_A (wX cI cJ x0 x1 x2 x3 x4 x5 x6 x7 x8 x9 g rm op rc ec su pe qt rs rn cs cn lc hc lg hg ++ [(o0, .inl (cJ, 1, .inr (.inl u)))]) sz) := by
  refine va_MetW (cc := cL_holders) (maxL := 4) (ret := (some .int)) (hh := [(0, 9, 12, 22)]) (by decide) rfl ?_
  intro p e s m args below meth c s₁ B hml hv
  obtain ⟨rfl, hsz, hP, hK, hD0, hT⟩ := hv
  have hx := B.exec
  have hb := B.bytes
  have hr := B.returns
  have hts := atoms_spec (ws := wsL_holders) B.pre
  have hown : s.vm.findClass RL = some m.cls := findClass_of_methodNamed B.named
  have hlocks := B.notSynchronized
  have htab := vx_table (x := yL_holders) (y := yL_holders) (bytes := cL_holders) (maxL' := 4) (ret' := (some .int)) (hh := [(0, 9, 12, 22)]) B (hts _ List.mem_cons_self)
  subst hsz
  have hD := hD0.self (sz := s.heap.size)
  generalize hAe : va_A (wX cI cJ x0 x1 x2 x3 x4 x5 x6 x7 x8 x9 g rm op rc ec su pe qt rs rn cs cn lc hc lg hg ++ [(o0, .inl (cJ, 1, .inr (.inl u)))]) s.heap.size = A at hD hT ⊢
  have hA : ∀ q : Nat, s.heap.size ≤ q → A q := fun q h9 => by rw [← hAe]; exact Or.inr h9
  have hS : va_S A s.heap s.heap [] := va_S.rf
  have hk_0 := hts (.classLink RL 22 "java/lang/IllegalArgumentException") (by decide +kernel)
  have hl := lv_entry ([.ref x0, .int a1, .ref o0]) (n := 4) (Nat.le_of_ble_eq_true rfl)
  rw [lg_entry_eq]
  generalize (lg_sl ([.ref x0, .int a1, .ref o0]) ++ List.replicate (4 - (lg_sl ([.ref x0, .int a1, .ref o0])).length) Slot.unset).toArray = ls at hl ⊢
  have hl : lv_has ls 4 [(0, .ref x0), (1, .int a1), (2, .ref o0)] := hl
  refine lv_aload_n hx hb dL_holders_0 rfl (lv_at hl 2 rfl) ?_
  refine lv_iconst (v := 0) hx hb dL_holders_1 (by decide) ?_
  refine lv_aload_n hx hb dL_holders_2 rfl (lv_at hl 0 rfl) ?_
  refine lv_iload_n hx hb dL_holders_3 rfl (lv_at hl 1 rfl) ?_
  refine cl_Xi (r0 := r0) (As := [.int a1]) (rest := [.int 0, .ref o0]) (wc := wX cI cJ x0 x1 x2 x3 x4 x5 x6 x7 x8 x9 g rm op rc ec su pe qt rs rn cs cn lc hc lg hg) (w1 := wX cI cJ x0 x1 x2 x3 x4 x5 x6 x7 x8 x9 g rm op rc ec su pe qt rs rn cs cn lc hc lg hg) (wr := [(o0, .inl (cJ, 1, .inr (.inl u)))]) ⟨hx, hb, hml, hown, hts⟩ (c_X0_holders l hst D cI cJ x0 x1 x2 x3 x4 x5 x6 x7 x8 x9 _ g rm op rc ec su pe qt rs rn cs cn lc hc lg hg fu a1 r0 h) (cwV 1 hts gL_holders_X0_holders rfl rfl rfl (by decide +kernel) ⟨Nat.le_of_ble_eq_true rfl, Nat.le_of_ble_eq_true rfl⟩) hK hP hD hS hA hT.1 [0, 1, 2, 3, 4, 5, 6, 7, 8, 9] [10] rfl rfl (by decide) (by decide) rfl rfl rfl rfl rfl hl.1 rfl (lv_room (Nat.le_of_ble_eq_true rfl)) dL_holders_4 ⟨Nat.le_of_ble_eq_true rfl, Nat.le_of_ble_eq_true rfl⟩ (fun E ce q9 H locs hx0 hP hD hS hce hcv hcl => ?_) (fun r H locs hr0 hP hD hS => ?_)
  · rcases hres with ⟨r9, e1, -, -⟩ | ⟨e1, rfl, rfl⟩
    · cases (e1.symm.trans hx0)
    · cases (e1.symm.trans hx0)
      replace hP := hP.sub (ws' := wX cI cJ x0 x1 x2 x3 x4 x5 x6 x7 x8 x9 g rm op rc ec su pe qt rs rn cs cn lc hc lg hg ++ [(o0, .inl (cJ, 1, .inr (.inl u')))]) [1, 2, 3, 4, 5, 6, 7, 8, 9, 10, 0] rfl
      replace hD := hD.sub (ws' := wX cI cJ x0 x1 x2 x3 x4 x5 x6 x7 x8 x9 g rm op rc ec su pe qt rs rn cs cn lc hc lg hg ++ [(o0, .inl (cJ, 1, .inr (.inl u')))]) [1, 2, 3, 4, 5, 6, 7, 8, 9, 10, 0] (by decide) rfl
      refine vx_catch (own := RL) (name := "java/lang/IllegalArgumentException") hown [] { startPc := 0, endPc := 9, handlerPc := 12, catchType := 22 } [] (htab.trans rfl) (fun z hz => nomatch hz) rfl (by decide) hk_0 (va_Nw.use (A := _) rfl hT.1.1.2.1) hce hcv hcl ?_
      refine W.eq (g2 := F0 m 12 ls [.ref q9]) rfl ?_
      refine lv_astore_n (lv' := [(3, .ref q9), (0, .ref x0), (1, .int a1), (2, .ref o0)]) hx hb dL_holders_12 rfl hl (by decide) rfl (fun ls hl => ?_)
      refine lv_iconst (v := 1) hx hb dL_holders_13 (by decide) ?_
      exact W.iret hx hb hr (fun t ht hW => ⟨⟨_, (), rfl, rfl, by rw [ht]; exact hP, va_K.moved hW.alike hK, hD⟩, hS.F ht⟩) hS.2.2 dL_holders_14
  · rcases hres with ⟨r9, e1, rfl, rfl⟩ | ⟨e1, -, -⟩
    · have e2 : r9 = r := Sum.inr.inj (e1.symm.trans hr0)
      subst e2
      replace hP := hP.sub (ws' := wX cI cJ x0 x1 x2 x3 x4 x5 x6 x7 x8 x9 g rm op rc ec su pe qt rs rn cs cn lc hc lg hg ++ [(o0, .inl (cJ, 1, .inr (.inl u)))]) [1, 2, 3, 4, 5, 6, 7, 8, 9, 10, 0] rfl
      replace hD := hD.sub (ws' := wX cI cJ x0 x1 x2 x3 x4 x5 x6 x7 x8 x9 g rm op rc ec su pe qt rs rn cs cn lc hc lg hg ++ [(o0, .inl (cJ, 1, .inr (.inl u)))]) [1, 2, 3, 4, 5, 6, 7, 8, 9, 10, 0] (by decide) rfl
      refine lv_i2l (v := r9.toInt64) hx hb dL_holders_7 rfl ?_
      refine va_last hx hb hK hP hD hS 10 1 rfl rfl (show ¬ ((0 : Int32) < 0 ∨ 1 ≤ Int32.toNatClampNeg 0) by decide) dL_holders_8 (fun H locs hP hD hS => ?_)
      have hP : va_P D vwCl (wX cI cJ x0 x1 x2 x3 x4 x5 x6 x7 x8 x9 g rm op rc ec su pe qt rs rn cs cn lc hc lg hg ++ [(o0, .inl (cJ, 1, .inr (.inl (vp_updL u 0 r9.toInt64))))]) H := hP
      have hD : va_D A (wX cI cJ x0 x1 x2 x3 x4 x5 x6 x7 x8 x9 g rm op rc ec su pe qt rs rn cs cn lc hc lg hg ++ [(o0, .inl (cJ, 1, .inr (.inl (vp_updL u 0 r9.toInt64))))]) := hD
      refine lv_goto (tgt := 15) hx hb dL_holders_9 (by decide) ?_
      refine lv_iconst (v := 0) hx hb dL_holders_15 (by decide) ?_
      exact W.iret hx hb hr (fun t ht hW => ⟨⟨_, (), rfl, rfl, by rw [ht]; exact hP, va_K.moved hW.alike hK, hD⟩, hS.F ht⟩) hS.2.2 dL_holders_16
    · cases (e1.symm.trans hr0)
-- L_costOf
set_option maxHeartbeats 4000000 in
set_option maxRecDepth 100000 in
theorem c_L_costOf (l : Launch) (hst : l.stackTraces = false) (D : va_G) (cI cJ : ClassId) (x0 x1 x2 x3 x4 x5 x6 x7 x8 x9 : Nat) (o0 : Nat) (sz : Nat) (g : Nat → Int32) (rm : Nat → Int32) (op : Nat → Int32) (rc : Int32) (ec : Int32) (su : Int32) (pe : Int32) (qt : Int32) (rs : Nat → Int32) (rn : Int32) (cs : Nat → Int32) (cn : Int32) (lc : Nat → Int64) (hc : Nat → Int64) (lg : Nat → Int64) (hg : Nat → Int64) (u : Nat → Int64) (fu : Nat) (a1 : Int32) (r0 : String ⊕ Int32) (cs' : Nat → Int32) (cn' : Int32) (lc' : Nat → Int64) (hc' : Nat → Int64) (lg' : Nat → Int64) (hg' : Nat → Int64) (h : m_X0_costOf fu g op rc ec su cs cn lc hc lg hg a1 = some (r0, cs', cn', lc', hc', lg', hg')) (k : Int32) (u' : Nat → Int64) (hres : (∃ r, r0 = Sum.inr r ∧ k = 0 ∧ u' = vp_updL u 0 (r.toInt64)) ∨ (r0 = Sum.inl "java/lang/IllegalStateException" ∧ k = 1 ∧ u' = u) ∨ (r0 = Sum.inl "java/lang/IllegalArgumentException" ∧ k = 2 ∧ u' = u)) : Met l yL_costOf wsL_costOf ({ frames := 7, cells := 1, slots := 6, locals := 111 }) (va_Pc [.ref x0, .int a1, .ref o0] (bx_PreL D [(cI, .int), (cJ, .long)] (wX cI cJ x0 x1 x2 x3 x4 x5 x6 x7 x8 x9 g rm op rc ec su pe qt rs rn cs cn lc hc lg hg ++ [(o0, .inl (cJ, 1, .inr (.inl u)))]) sz)) (va_Qi (fun (r : Int32) (_ : Unit) => r = k) (fun (_ : Unit) t => bx_Post D [(cI, .int), (cJ, .long)] (wX cI cJ x0 x1 x2 x3 x4 x5 x6 x7 x8 x9 g rm op rc ec su pe qt rs rn cs' cn' lc' hc' lg' hg' ++ [(o0, .inl (cJ, 1, .inr (.inl u')))]) (va_A (wX cI cJ x0 x1 x2 x3 x4 x5 x6 x7 x8 x9 g rm op rc ec su pe qt rs rn cs cn lc hc lg hg ++ [(o0, .inl (cJ, 1, .inr (.inl u)))]) sz) t) (va_A (wX cI cJ x0 x1 x2 x3 x4 x5 x6 x7 x8 x9 g rm op rc ec su pe qt rs rn cs cn lc hc lg hg ++ [(o0, .inl (cJ, 1, .inr (.inl u)))]) sz)) 1 6 (va_A (wX cI cJ x0 x1 x2 x3 x4 x5 x6 x7 x8 x9 g rm op rc ec su pe qt rs rn cs cn lc hc lg hg ++ [(o0, .inl (cJ, 1, .inr (.inl u)))]) sz) := by
  refine va_MetW (cc := cL_costOf) (maxL := 4) (ret := (some .int)) (hh := [(0, 9, 12, 42), (0, 9, 15, 22)]) (by decide) rfl ?_
  intro p e s m args below meth c s₁ B hml hv
  obtain ⟨rfl, hsz, hP, hK, hD0, hT⟩ := hv
  have hx := B.exec
  have hb := B.bytes
  have hr := B.returns
  have hts := atoms_spec (ws := wsL_costOf) B.pre
  have hown : s.vm.findClass RL = some m.cls := findClass_of_methodNamed B.named
  have hlocks := B.notSynchronized
  have htab := vx_table (x := yL_costOf) (y := yL_costOf) (bytes := cL_costOf) (maxL' := 4) (ret' := (some .int)) (hh := [(0, 9, 12, 42), (0, 9, 15, 22)]) B (hts _ List.mem_cons_self)
  subst hsz
  have hD := hD0.self (sz := s.heap.size)
  generalize hAe : va_A (wX cI cJ x0 x1 x2 x3 x4 x5 x6 x7 x8 x9 g rm op rc ec su pe qt rs rn cs cn lc hc lg hg ++ [(o0, .inl (cJ, 1, .inr (.inl u)))]) s.heap.size = A at hD hT ⊢
  have hA : ∀ q : Nat, s.heap.size ≤ q → A q := fun q h9 => by rw [← hAe]; exact Or.inr h9
  have hS : va_S A s.heap s.heap [] := va_S.rf
  have hk_0 := hts (.classLink RL 42 "java/lang/IllegalStateException") (by decide +kernel)
  have hk_1 := hts (.classLink RL 22 "java/lang/IllegalArgumentException") (by decide +kernel)
  have hl := lv_entry ([.ref x0, .int a1, .ref o0]) (n := 4) (Nat.le_of_ble_eq_true rfl)
  rw [lg_entry_eq]
  generalize (lg_sl ([.ref x0, .int a1, .ref o0]) ++ List.replicate (4 - (lg_sl ([.ref x0, .int a1, .ref o0])).length) Slot.unset).toArray = ls at hl ⊢
  have hl : lv_has ls 4 [(0, .ref x0), (1, .int a1), (2, .ref o0)] := hl
  refine lv_aload_n hx hb dL_costOf_0 rfl (lv_at hl 2 rfl) ?_
  refine lv_iconst (v := 0) hx hb dL_costOf_1 (by decide) ?_
  refine lv_aload_n hx hb dL_costOf_2 rfl (lv_at hl 0 rfl) ?_
  refine lv_iload_n hx hb dL_costOf_3 rfl (lv_at hl 1 rfl) ?_
  refine cl_Xi (r0 := r0) (As := [.int a1]) (rest := [.int 0, .ref o0]) (wc := wX cI cJ x0 x1 x2 x3 x4 x5 x6 x7 x8 x9 g rm op rc ec su pe qt rs rn cs cn lc hc lg hg) (w1 := wX cI cJ x0 x1 x2 x3 x4 x5 x6 x7 x8 x9 g rm op rc ec su pe qt rs rn cs' cn' lc' hc' lg' hg') (wr := [(o0, .inl (cJ, 1, .inr (.inl u)))]) ⟨hx, hb, hml, hown, hts⟩ (c_X0_costOf l hst D cI cJ x0 x1 x2 x3 x4 x5 x6 x7 x8 x9 _ g rm op rc ec su pe qt rs rn cs cn lc hc lg hg fu a1 r0 cs' cn' lc' hc' lg' hg' h) (cwV 1 hts gL_costOf_X0_costOf rfl rfl rfl (by decide +kernel) ⟨Nat.le_of_ble_eq_true rfl, Nat.le_of_ble_eq_true rfl⟩) hK hP hD hS hA hT.1 [0, 1, 2, 3, 4, 5, 6, 7, 8, 9] [10] rfl rfl (by decide) (by decide) rfl rfl rfl rfl rfl hl.1 rfl (lv_room (Nat.le_of_ble_eq_true rfl)) dL_costOf_4 ⟨Nat.le_of_ble_eq_true rfl, Nat.le_of_ble_eq_true rfl⟩ (fun E ce q9 H locs hx0 hP hD hS hce hcv hcl => ?_) (fun r H locs hr0 hP hD hS => ?_)
  · rcases hres with ⟨r9, e1, -, -⟩ | ⟨e1, rfl, rfl⟩ | ⟨e1, rfl, rfl⟩
    · cases (e1.symm.trans hx0)
    · cases (e1.symm.trans hx0)
      replace hP := hP.sub (ws' := wX cI cJ x0 x1 x2 x3 x4 x5 x6 x7 x8 x9 g rm op rc ec su pe qt rs rn cs' cn' lc' hc' lg' hg' ++ [(o0, .inl (cJ, 1, .inr (.inl u')))]) [1, 2, 3, 4, 5, 6, 7, 8, 9, 10, 0] rfl
      replace hD := hD.sub (ws' := wX cI cJ x0 x1 x2 x3 x4 x5 x6 x7 x8 x9 g rm op rc ec su pe qt rs rn cs' cn' lc' hc' lg' hg' ++ [(o0, .inl (cJ, 1, .inr (.inl u')))]) [1, 2, 3, 4, 5, 6, 7, 8, 9, 10, 0] (by decide) rfl
      refine vx_catch (own := RL) (name := "java/lang/IllegalStateException") hown [] { startPc := 0, endPc := 9, handlerPc := 12, catchType := 42 } [{ startPc := 0, endPc := 9, handlerPc := 15, catchType := 22 }] (htab.trans rfl) (fun z hz => nomatch hz) rfl (by decide) hk_0 (va_Nw.use (A := _) rfl hT.1.1.2.2.1) hce hcv hcl ?_
      refine W.eq (g2 := F0 m 12 ls [.ref q9]) rfl ?_
      refine lv_astore_n (lv' := [(3, .ref q9), (0, .ref x0), (1, .int a1), (2, .ref o0)]) hx hb dL_costOf_12 rfl hl (by decide) rfl (fun ls hl => ?_)
      refine lv_iconst (v := 1) hx hb dL_costOf_13 (by decide) ?_
      exact W.iret hx hb hr (fun t ht hW => ⟨⟨_, (), rfl, rfl, by rw [ht]; exact hP, va_K.moved hW.alike hK, hD⟩, hS.F ht⟩) hS.2.2 dL_costOf_14
    · cases (e1.symm.trans hx0)
      replace hP := hP.sub (ws' := wX cI cJ x0 x1 x2 x3 x4 x5 x6 x7 x8 x9 g rm op rc ec su pe qt rs rn cs' cn' lc' hc' lg' hg' ++ [(o0, .inl (cJ, 1, .inr (.inl u')))]) [1, 2, 3, 4, 5, 6, 7, 8, 9, 10, 0] rfl
      replace hD := hD.sub (ws' := wX cI cJ x0 x1 x2 x3 x4 x5 x6 x7 x8 x9 g rm op rc ec su pe qt rs rn cs' cn' lc' hc' lg' hg' ++ [(o0, .inl (cJ, 1, .inr (.inl u')))]) [1, 2, 3, 4, 5, 6, 7, 8, 9, 10, 0] (by decide) rfl
      refine vx_catch (own := RL) (name := "java/lang/IllegalArgumentException") hown [{ startPc := 0, endPc := 9, handlerPc := 12, catchType := 42 }] { startPc := 0, endPc := 9, handlerPc := 15, catchType := 22 } [] (htab.trans rfl) (fun z hz => by rw [List.mem_singleton] at hz; subst hz; exact Or.inr ⟨by decide, _, hk_0, hT.2.2.2⟩) rfl (by decide) hk_1 (va_Nw.use (A := _) rfl hT.1.1.2.1) hce hcv hcl ?_
      refine W.eq (g2 := F0 m 15 ls [.ref q9]) rfl ?_
      refine lv_astore_n (lv' := [(3, .ref q9), (0, .ref x0), (1, .int a1), (2, .ref o0)]) hx hb dL_costOf_15 rfl hl (by decide) rfl (fun ls hl => ?_)
      refine lv_iconst (v := 2) hx hb dL_costOf_16 (by decide) ?_
      exact W.iret hx hb hr (fun t ht hW => ⟨⟨_, (), rfl, rfl, by rw [ht]; exact hP, va_K.moved hW.alike hK, hD⟩, hS.F ht⟩) hS.2.2 dL_costOf_17
  · rcases hres with ⟨r9, e1, rfl, rfl⟩ | ⟨e1, -, -⟩ | ⟨e1, -, -⟩
    · have e2 : r9 = r := Sum.inr.inj (e1.symm.trans hr0)
      subst e2
      replace hP := hP.sub (ws' := wX cI cJ x0 x1 x2 x3 x4 x5 x6 x7 x8 x9 g rm op rc ec su pe qt rs rn cs' cn' lc' hc' lg' hg' ++ [(o0, .inl (cJ, 1, .inr (.inl u)))]) [1, 2, 3, 4, 5, 6, 7, 8, 9, 10, 0] rfl
      replace hD := hD.sub (ws' := wX cI cJ x0 x1 x2 x3 x4 x5 x6 x7 x8 x9 g rm op rc ec su pe qt rs rn cs' cn' lc' hc' lg' hg' ++ [(o0, .inl (cJ, 1, .inr (.inl u)))]) [1, 2, 3, 4, 5, 6, 7, 8, 9, 10, 0] (by decide) rfl
      refine lv_i2l (v := r9.toInt64) hx hb dL_costOf_7 rfl ?_
      refine va_last hx hb hK hP hD hS 10 1 rfl rfl (show ¬ ((0 : Int32) < 0 ∨ 1 ≤ Int32.toNatClampNeg 0) by decide) dL_costOf_8 (fun H locs hP hD hS => ?_)
      have hP : va_P D vwCl (wX cI cJ x0 x1 x2 x3 x4 x5 x6 x7 x8 x9 g rm op rc ec su pe qt rs rn cs' cn' lc' hc' lg' hg' ++ [(o0, .inl (cJ, 1, .inr (.inl (vp_updL u 0 r9.toInt64))))]) H := hP
      have hD : va_D A (wX cI cJ x0 x1 x2 x3 x4 x5 x6 x7 x8 x9 g rm op rc ec su pe qt rs rn cs' cn' lc' hc' lg' hg' ++ [(o0, .inl (cJ, 1, .inr (.inl (vp_updL u 0 r9.toInt64))))]) := hD
      refine lv_goto (tgt := 18) hx hb dL_costOf_9 (by decide) ?_
      refine lv_iconst (v := 0) hx hb dL_costOf_18 (by decide) ?_
      exact W.iret hx hb hr (fun t ht hW => ⟨⟨_, (), rfl, rfl, by rw [ht]; exact hP, va_K.moved hW.alike hK, hD⟩, hS.F ht⟩) hS.2.2 dL_costOf_19
    · cases (e1.symm.trans hr0)
    · cases (e1.symm.trans hr0)
-- L_leastCost
set_option maxHeartbeats 4000000 in
set_option maxRecDepth 100000 in
theorem c_L_leastCost (l : Launch) (hst : l.stackTraces = false) (D : va_G) (cI cJ : ClassId) (x0 x1 x2 x3 x4 x5 x6 x7 x8 x9 : Nat) (o0 : Nat) (sz : Nat) (g : Nat → Int32) (rm : Nat → Int32) (op : Nat → Int32) (rc : Int32) (ec : Int32) (su : Int32) (pe : Int32) (qt : Int32) (rs : Nat → Int32) (rn : Int32) (cs : Nat → Int32) (cn : Int32) (lc : Nat → Int64) (hc : Nat → Int64) (lg : Nat → Int64) (hg : Nat → Int64) (u : Nat → Int64) (fu : Nat) (r0 : String ⊕ Int32) (cs' : Nat → Int32) (cn' : Int32) (lc' : Nat → Int64) (hc' : Nat → Int64) (lg' : Nat → Int64) (hg' : Nat → Int64) (h : m_X0_leastCost fu g op rc ec su cs cn lc hc lg hg = some (r0, cs', cn', lc', hc', lg', hg')) (k : Int32) (u' : Nat → Int64) (hres : (∃ r, r0 = Sum.inr r ∧ k = 0 ∧ u' = vp_updL u 0 (r.toInt64)) ∨ (r0 = Sum.inl "java/lang/IllegalStateException" ∧ k = 1 ∧ u' = u)) : Met l yL_leastCost wsL_leastCost ({ frames := 7, cells := 1, slots := 6, locals := 119 }) (va_Pc [.ref x0, .ref o0] (bx_PreL D [(cI, .int), (cJ, .long)] (wX cI cJ x0 x1 x2 x3 x4 x5 x6 x7 x8 x9 g rm op rc ec su pe qt rs rn cs cn lc hc lg hg ++ [(o0, .inl (cJ, 1, .inr (.inl u)))]) sz)) (va_Qi (fun (r : Int32) (_ : Unit) => r = k) (fun (_ : Unit) t => bx_Post D [(cI, .int), (cJ, .long)] (wX cI cJ x0 x1 x2 x3 x4 x5 x6 x7 x8 x9 g rm op rc ec su pe qt rs rn cs' cn' lc' hc' lg' hg' ++ [(o0, .inl (cJ, 1, .inr (.inl u')))]) (va_A (wX cI cJ x0 x1 x2 x3 x4 x5 x6 x7 x8 x9 g rm op rc ec su pe qt rs rn cs cn lc hc lg hg ++ [(o0, .inl (cJ, 1, .inr (.inl u)))]) sz) t) (va_A (wX cI cJ x0 x1 x2 x3 x4 x5 x6 x7 x8 x9 g rm op rc ec su pe qt rs rn cs cn lc hc lg hg ++ [(o0, .inl (cJ, 1, .inr (.inl u)))]) sz)) 1 6 (va_A (wX cI cJ x0 x1 x2 x3 x4 x5 x6 x7 x8 x9 g rm op rc ec su pe qt rs rn cs cn lc hc lg hg ++ [(o0, .inl (cJ, 1, .inr (.inl u)))]) sz) := by
  refine va_MetW (cc := cL_leastCost) (maxL := 3) (ret := (some .int)) (hh := [(0, 8, 11, 42)]) (by decide) rfl ?_
  intro p e s m args below meth c s₁ B hml hv
  obtain ⟨rfl, hsz, hP, hK, hD0, hT⟩ := hv
  have hx := B.exec
  have hb := B.bytes
  have hr := B.returns
  have hts := atoms_spec (ws := wsL_leastCost) B.pre
  have hown : s.vm.findClass RL = some m.cls := findClass_of_methodNamed B.named
  have hlocks := B.notSynchronized
  have htab := vx_table (x := yL_leastCost) (y := yL_leastCost) (bytes := cL_leastCost) (maxL' := 3) (ret' := (some .int)) (hh := [(0, 8, 11, 42)]) B (hts _ List.mem_cons_self)
  subst hsz
  have hD := hD0.self (sz := s.heap.size)
  generalize hAe : va_A (wX cI cJ x0 x1 x2 x3 x4 x5 x6 x7 x8 x9 g rm op rc ec su pe qt rs rn cs cn lc hc lg hg ++ [(o0, .inl (cJ, 1, .inr (.inl u)))]) s.heap.size = A at hD hT ⊢
  have hA : ∀ q : Nat, s.heap.size ≤ q → A q := fun q h9 => by rw [← hAe]; exact Or.inr h9
  have hS : va_S A s.heap s.heap [] := va_S.rf
  have hk_0 := hts (.classLink RL 42 "java/lang/IllegalStateException") (by decide +kernel)
  have hl := lv_entry ([.ref x0, .ref o0]) (n := 3) (Nat.le_of_ble_eq_true rfl)
  rw [lg_entry_eq]
  generalize (lg_sl ([.ref x0, .ref o0]) ++ List.replicate (3 - (lg_sl ([.ref x0, .ref o0])).length) Slot.unset).toArray = ls at hl ⊢
  have hl : lv_has ls 3 [(0, .ref x0), (1, .ref o0)] := hl
  refine lv_aload_n hx hb dL_leastCost_0 rfl (lv_at hl 1 rfl) ?_
  refine lv_iconst (v := 0) hx hb dL_leastCost_1 (by decide) ?_
  refine lv_aload_n hx hb dL_leastCost_2 rfl (lv_at hl 0 rfl) ?_
  refine cl_Xi (r0 := r0) (As := []) (rest := [.int 0, .ref o0]) (wc := wX cI cJ x0 x1 x2 x3 x4 x5 x6 x7 x8 x9 g rm op rc ec su pe qt rs rn cs cn lc hc lg hg) (w1 := wX cI cJ x0 x1 x2 x3 x4 x5 x6 x7 x8 x9 g rm op rc ec su pe qt rs rn cs' cn' lc' hc' lg' hg') (wr := [(o0, .inl (cJ, 1, .inr (.inl u)))]) ⟨hx, hb, hml, hown, hts⟩ (c_X0_leastCost l hst D cI cJ x0 x1 x2 x3 x4 x5 x6 x7 x8 x9 _ g rm op rc ec su pe qt rs rn cs cn lc hc lg hg fu  r0 cs' cn' lc' hc' lg' hg' h) (cwV 0 hts gL_leastCost_X0_leastCost rfl rfl rfl (by decide +kernel) ⟨Nat.le_of_ble_eq_true rfl, Nat.le_of_ble_eq_true rfl⟩) hK hP hD hS hA hT.1 [0, 1, 2, 3, 4, 5, 6, 7, 8, 9] [10] rfl rfl (by decide) (by decide) rfl rfl rfl rfl rfl hl.1 rfl (lv_room (Nat.le_of_ble_eq_true rfl)) dL_leastCost_3 ⟨Nat.le_of_ble_eq_true rfl, Nat.le_of_ble_eq_true rfl⟩ (fun E ce q9 H locs hx0 hP hD hS hce hcv hcl => ?_) (fun r H locs hr0 hP hD hS => ?_)
  · rcases hres with ⟨r9, e1, -, -⟩ | ⟨e1, rfl, rfl⟩
    · cases (e1.symm.trans hx0)
    · cases (e1.symm.trans hx0)
      replace hP := hP.sub (ws' := wX cI cJ x0 x1 x2 x3 x4 x5 x6 x7 x8 x9 g rm op rc ec su pe qt rs rn cs' cn' lc' hc' lg' hg' ++ [(o0, .inl (cJ, 1, .inr (.inl u')))]) [1, 2, 3, 4, 5, 6, 7, 8, 9, 10, 0] rfl
      replace hD := hD.sub (ws' := wX cI cJ x0 x1 x2 x3 x4 x5 x6 x7 x8 x9 g rm op rc ec su pe qt rs rn cs' cn' lc' hc' lg' hg' ++ [(o0, .inl (cJ, 1, .inr (.inl u')))]) [1, 2, 3, 4, 5, 6, 7, 8, 9, 10, 0] (by decide) rfl
      refine vx_catch (own := RL) (name := "java/lang/IllegalStateException") hown [] { startPc := 0, endPc := 8, handlerPc := 11, catchType := 42 } [] (htab.trans rfl) (fun z hz => nomatch hz) rfl (by decide) hk_0 (va_Nw.use (A := _) rfl hT.1.1.2.2.1) hce hcv hcl ?_
      refine W.eq (g2 := F0 m 11 ls [.ref q9]) rfl ?_
      refine lv_astore_n (lv' := [(2, .ref q9), (0, .ref x0), (1, .ref o0)]) hx hb dL_leastCost_11 rfl hl (by decide) rfl (fun ls hl => ?_)
      refine lv_iconst (v := 1) hx hb dL_leastCost_12 (by decide) ?_
      exact W.iret hx hb hr (fun t ht hW => ⟨⟨_, (), rfl, rfl, by rw [ht]; exact hP, va_K.moved hW.alike hK, hD⟩, hS.F ht⟩) hS.2.2 dL_leastCost_13
  · rcases hres with ⟨r9, e1, rfl, rfl⟩ | ⟨e1, -, -⟩
    · have e2 : r9 = r := Sum.inr.inj (e1.symm.trans hr0)
      subst e2
      replace hP := hP.sub (ws' := wX cI cJ x0 x1 x2 x3 x4 x5 x6 x7 x8 x9 g rm op rc ec su pe qt rs rn cs' cn' lc' hc' lg' hg' ++ [(o0, .inl (cJ, 1, .inr (.inl u)))]) [1, 2, 3, 4, 5, 6, 7, 8, 9, 10, 0] rfl
      replace hD := hD.sub (ws' := wX cI cJ x0 x1 x2 x3 x4 x5 x6 x7 x8 x9 g rm op rc ec su pe qt rs rn cs' cn' lc' hc' lg' hg' ++ [(o0, .inl (cJ, 1, .inr (.inl u)))]) [1, 2, 3, 4, 5, 6, 7, 8, 9, 10, 0] (by decide) rfl
      refine lv_i2l (v := r9.toInt64) hx hb dL_leastCost_6 rfl ?_
      refine va_last hx hb hK hP hD hS 10 1 rfl rfl (show ¬ ((0 : Int32) < 0 ∨ 1 ≤ Int32.toNatClampNeg 0) by decide) dL_leastCost_7 (fun H locs hP hD hS => ?_)
      have hP : va_P D vwCl (wX cI cJ x0 x1 x2 x3 x4 x5 x6 x7 x8 x9 g rm op rc ec su pe qt rs rn cs' cn' lc' hc' lg' hg' ++ [(o0, .inl (cJ, 1, .inr (.inl (vp_updL u 0 r9.toInt64))))]) H := hP
      have hD : va_D A (wX cI cJ x0 x1 x2 x3 x4 x5 x6 x7 x8 x9 g rm op rc ec su pe qt rs rn cs' cn' lc' hc' lg' hg' ++ [(o0, .inl (cJ, 1, .inr (.inl (vp_updL u 0 r9.toInt64))))]) := hD
      refine lv_goto (tgt := 14) hx hb dL_leastCost_8 (by decide) ?_
      refine lv_iconst (v := 0) hx hb dL_leastCost_14 (by decide) ?_
      exact W.iret hx hb hr (fun t ht hW => ⟨⟨_, (), rfl, rfl, by rw [ht]; exact hP, va_K.moved hW.alike hK, hD⟩, hS.F ht⟩) hS.2.2 dL_leastCost_15
    · cases (e1.symm.trans hr0)
-- L_role
set_option maxHeartbeats 4000000 in
set_option maxRecDepth 100000 in
theorem c_L_role (l : Launch) (hst : l.stackTraces = false) (D : va_G) (cI cJ : ClassId) (x0 x1 x2 x3 x4 x5 x6 x7 x8 x9 : Nat) (o0 : Nat) (sz : Nat) (g : Nat → Int32) (rm : Nat → Int32) (op : Nat → Int32) (rc : Int32) (ec : Int32) (su : Int32) (pe : Int32) (qt : Int32) (rs : Nat → Int32) (rn : Int32) (cs : Nat → Int32) (cn : Int32) (lc : Nat → Int64) (hc : Nat → Int64) (lg : Nat → Int64) (hg : Nat → Int64) (u : Nat → Int64) (a1 : Int32) (r0 : String ⊕ Int32) (h : m_X0_role rs rn a1 = some r0) (k : Int32) (u' : Nat → Int64) (hres : (∃ r, r0 = Sum.inr r ∧ k = 0 ∧ u' = vp_updL u 0 (r.toInt64)) ∨ (r0 = Sum.inl "java/lang/IndexOutOfBoundsException" ∧ k = 1 ∧ u' = u)) : Met l yL_role wsL_role ({ frames := 7, cells := 1, slots := 6, locals := 111 }) (va_Pc [.ref x0, .int a1, .ref o0] (bx_PreL D [(cI, .int), (cJ, .long)] (wX cI cJ x0 x1 x2 x3 x4 x5 x6 x7 x8 x9 g rm op rc ec su pe qt rs rn cs cn lc hc lg hg ++ [(o0, .inl (cJ, 1, .inr (.inl u)))]) sz)) (va_Qi (fun (r : Int32) (_ : Unit) => r = k) (fun (_ : Unit) t => bx_Post D [(cI, .int), (cJ, .long)] (wX cI cJ x0 x1 x2 x3 x4 x5 x6 x7 x8 x9 g rm op rc ec su pe qt rs rn cs cn lc hc lg hg ++ [(o0, .inl (cJ, 1, .inr (.inl u')))]) (va_A (wX cI cJ x0 x1 x2 x3 x4 x5 x6 x7 x8 x9 g rm op rc ec su pe qt rs rn cs cn lc hc lg hg ++ [(o0, .inl (cJ, 1, .inr (.inl u)))]) sz) t) (va_A (wX cI cJ x0 x1 x2 x3 x4 x5 x6 x7 x8 x9 g rm op rc ec su pe qt rs rn cs cn lc hc lg hg ++ [(o0, .inl (cJ, 1, .inr (.inl u)))]) sz)) 1 6 (va_A (wX cI cJ x0 x1 x2 x3 x4 x5 x6 x7 x8 x9 g rm op rc ec su pe qt rs rn cs cn lc hc lg hg ++ [(o0, .inl (cJ, 1, .inr (.inl u)))]) sz) := by
  refine va_MetW (cc := cL_role) (maxL := 4) (ret := (some .int)) (hh := [(0, 9, 12, 13)]) (by decide) rfl ?_
  intro p e s m args below meth c s₁ B hml hv
  obtain ⟨rfl, hsz, hP, hK, hD0, hT⟩ := hv
  have hx := B.exec
  have hb := B.bytes
  have hr := B.returns
  have hts := atoms_spec (ws := wsL_role) B.pre
  have hown : s.vm.findClass RL = some m.cls := findClass_of_methodNamed B.named
  have hlocks := B.notSynchronized
  have htab := vx_table (x := yL_role) (y := yL_role) (bytes := cL_role) (maxL' := 4) (ret' := (some .int)) (hh := [(0, 9, 12, 13)]) B (hts _ List.mem_cons_self)
  subst hsz
  have hD := hD0.self (sz := s.heap.size)
  generalize hAe : va_A (wX cI cJ x0 x1 x2 x3 x4 x5 x6 x7 x8 x9 g rm op rc ec su pe qt rs rn cs cn lc hc lg hg ++ [(o0, .inl (cJ, 1, .inr (.inl u)))]) s.heap.size = A at hD hT ⊢
  have hA : ∀ q : Nat, s.heap.size ≤ q → A q := fun q h9 => by rw [← hAe]; exact Or.inr h9
  have hS : va_S A s.heap s.heap [] := va_S.rf
  have hk_0 := hts (.classLink RL 13 "java/lang/IndexOutOfBoundsException") (by decide +kernel)
  have hl := lv_entry ([.ref x0, .int a1, .ref o0]) (n := 4) (Nat.le_of_ble_eq_true rfl)
  rw [lg_entry_eq]
  generalize (lg_sl ([.ref x0, .int a1, .ref o0]) ++ List.replicate (4 - (lg_sl ([.ref x0, .int a1, .ref o0])).length) Slot.unset).toArray = ls at hl ⊢
  have hl : lv_has ls 4 [(0, .ref x0), (1, .int a1), (2, .ref o0)] := hl
  refine lv_aload_n hx hb dL_role_0 rfl (lv_at hl 2 rfl) ?_
  refine lv_iconst (v := 0) hx hb dL_role_1 (by decide) ?_
  refine lv_aload_n hx hb dL_role_2 rfl (lv_at hl 0 rfl) ?_
  refine lv_iload_n hx hb dL_role_3 rfl (lv_at hl 1 rfl) ?_
  refine cl_Xi (r0 := r0) (As := [.int a1]) (rest := [.int 0, .ref o0]) (wc := wX cI cJ x0 x1 x2 x3 x4 x5 x6 x7 x8 x9 g rm op rc ec su pe qt rs rn cs cn lc hc lg hg) (w1 := wX cI cJ x0 x1 x2 x3 x4 x5 x6 x7 x8 x9 g rm op rc ec su pe qt rs rn cs cn lc hc lg hg) (wr := [(o0, .inl (cJ, 1, .inr (.inl u)))]) ⟨hx, hb, hml, hown, hts⟩ (c_X0_role l hst D cI cJ x0 x1 x2 x3 x4 x5 x6 x7 x8 x9 _ g rm op rc ec su pe qt rs rn cs cn lc hc lg hg a1 r0 h) (cwV 1 hts gL_role_X0_role rfl rfl rfl (by decide +kernel) ⟨Nat.le_of_ble_eq_true rfl, Nat.le_of_ble_eq_true rfl⟩) hK hP hD hS hA hT.1 [0, 1, 2, 3, 4, 5, 6, 7, 8, 9] [10] rfl rfl (by decide) (by decide) rfl rfl rfl rfl rfl hl.1 rfl (lv_room (Nat.le_of_ble_eq_true rfl)) dL_role_4 ⟨Nat.le_of_ble_eq_true rfl, Nat.le_of_ble_eq_true rfl⟩ (fun E ce q9 H locs hx0 hP hD hS hce hcv hcl => ?_) (fun r H locs hr0 hP hD hS => ?_)
  · rcases hres with ⟨r9, e1, -, -⟩ | ⟨e1, rfl, rfl⟩
    · cases (e1.symm.trans hx0)
    · cases (e1.symm.trans hx0)
      replace hP := hP.sub (ws' := wX cI cJ x0 x1 x2 x3 x4 x5 x6 x7 x8 x9 g rm op rc ec su pe qt rs rn cs cn lc hc lg hg ++ [(o0, .inl (cJ, 1, .inr (.inl u')))]) [1, 2, 3, 4, 5, 6, 7, 8, 9, 10, 0] rfl
      replace hD := hD.sub (ws' := wX cI cJ x0 x1 x2 x3 x4 x5 x6 x7 x8 x9 g rm op rc ec su pe qt rs rn cs cn lc hc lg hg ++ [(o0, .inl (cJ, 1, .inr (.inl u')))]) [1, 2, 3, 4, 5, 6, 7, 8, 9, 10, 0] (by decide) rfl
      refine vx_catch (own := RL) (name := "java/lang/IndexOutOfBoundsException") hown [] { startPc := 0, endPc := 9, handlerPc := 12, catchType := 13 } [] (htab.trans rfl) (fun z hz => nomatch hz) rfl (by decide) hk_0 (va_Nw.use (A := _) rfl hT.1.1.1) hce hcv hcl ?_
      refine W.eq (g2 := F0 m 12 ls [.ref q9]) rfl ?_
      refine lv_astore_n (lv' := [(3, .ref q9), (0, .ref x0), (1, .int a1), (2, .ref o0)]) hx hb dL_role_12 rfl hl (by decide) rfl (fun ls hl => ?_)
      refine lv_iconst (v := 1) hx hb dL_role_13 (by decide) ?_
      exact W.iret hx hb hr (fun t ht hW => ⟨⟨_, (), rfl, rfl, by rw [ht]; exact hP, va_K.moved hW.alike hK, hD⟩, hS.F ht⟩) hS.2.2 dL_role_14
  · rcases hres with ⟨r9, e1, rfl, rfl⟩ | ⟨e1, -, -⟩
    · have e2 : r9 = r := Sum.inr.inj (e1.symm.trans hr0)
      subst e2
      replace hP := hP.sub (ws' := wX cI cJ x0 x1 x2 x3 x4 x5 x6 x7 x8 x9 g rm op rc ec su pe qt rs rn cs cn lc hc lg hg ++ [(o0, .inl (cJ, 1, .inr (.inl u)))]) [1, 2, 3, 4, 5, 6, 7, 8, 9, 10, 0] rfl
      replace hD := hD.sub (ws' := wX cI cJ x0 x1 x2 x3 x4 x5 x6 x7 x8 x9 g rm op rc ec su pe qt rs rn cs cn lc hc lg hg ++ [(o0, .inl (cJ, 1, .inr (.inl u)))]) [1, 2, 3, 4, 5, 6, 7, 8, 9, 10, 0] (by decide) rfl
      refine lv_i2l (v := r9.toInt64) hx hb dL_role_7 rfl ?_
      refine va_last hx hb hK hP hD hS 10 1 rfl rfl (show ¬ ((0 : Int32) < 0 ∨ 1 ≤ Int32.toNatClampNeg 0) by decide) dL_role_8 (fun H locs hP hD hS => ?_)
      have hP : va_P D vwCl (wX cI cJ x0 x1 x2 x3 x4 x5 x6 x7 x8 x9 g rm op rc ec su pe qt rs rn cs cn lc hc lg hg ++ [(o0, .inl (cJ, 1, .inr (.inl (vp_updL u 0 r9.toInt64))))]) H := hP
      have hD : va_D A (wX cI cJ x0 x1 x2 x3 x4 x5 x6 x7 x8 x9 g rm op rc ec su pe qt rs rn cs cn lc hc lg hg ++ [(o0, .inl (cJ, 1, .inr (.inl (vp_updL u 0 r9.toInt64))))]) := hD
      refine lv_goto (tgt := 15) hx hb dL_role_9 (by decide) ?_
      refine lv_iconst (v := 0) hx hb dL_role_15 (by decide) ?_
      exact W.iret hx hb hr (fun t ht hW => ⟨⟨_, (), rfl, rfl, by rw [ht]; exact hP, va_K.moved hW.alike hK, hD⟩, hS.F ht⟩) hS.2.2 dL_role_16
    · cases (e1.symm.trans hr0)
-- L_rolesOf
set_option maxHeartbeats 4000000 in
set_option maxRecDepth 100000 in
theorem c_L_rolesOf (l : Launch) (hst : l.stackTraces = false) (D : va_G) (cI cJ : ClassId) (x0 x1 x2 x3 x4 x5 x6 x7 x8 x9 : Nat) (o0 : Nat) (sz : Nat) (g : Nat → Int32) (rm : Nat → Int32) (op : Nat → Int32) (rc : Int32) (ec : Int32) (su : Int32) (pe : Int32) (qt : Int32) (rs : Nat → Int32) (rn : Int32) (cs : Nat → Int32) (cn : Int32) (lc : Nat → Int64) (hc : Nat → Int64) (lg : Nat → Int64) (hg : Nat → Int64) (u : Nat → Int64) (fu : Nat) (a1 : Int32) (r0 : String ⊕ Int32) (h : m_X0_rolesOf fu g rs rn a1 = some r0) (k : Int32) (u' : Nat → Int64) (hres : (∃ r, r0 = Sum.inr r ∧ k = 0 ∧ u' = vp_updL u 0 (r.toInt64)) ∨ (r0 = Sum.inl "java/lang/IndexOutOfBoundsException" ∧ k = 1 ∧ u' = u)) : Met l yL_rolesOf wsL_rolesOf ({ frames := 7, cells := 1, slots := 6, locals := 113 }) (va_Pc [.ref x0, .int a1, .ref o0] (bx_PreL D [(cI, .int), (cJ, .long)] (wX cI cJ x0 x1 x2 x3 x4 x5 x6 x7 x8 x9 g rm op rc ec su pe qt rs rn cs cn lc hc lg hg ++ [(o0, .inl (cJ, 1, .inr (.inl u)))]) sz)) (va_Qi (fun (r : Int32) (_ : Unit) => r = k) (fun (_ : Unit) t => bx_Post D [(cI, .int), (cJ, .long)] (wX cI cJ x0 x1 x2 x3 x4 x5 x6 x7 x8 x9 g rm op rc ec su pe qt rs rn cs cn lc hc lg hg ++ [(o0, .inl (cJ, 1, .inr (.inl u')))]) (va_A (wX cI cJ x0 x1 x2 x3 x4 x5 x6 x7 x8 x9 g rm op rc ec su pe qt rs rn cs cn lc hc lg hg ++ [(o0, .inl (cJ, 1, .inr (.inl u)))]) sz) t) (va_A (wX cI cJ x0 x1 x2 x3 x4 x5 x6 x7 x8 x9 g rm op rc ec su pe qt rs rn cs cn lc hc lg hg ++ [(o0, .inl (cJ, 1, .inr (.inl u)))]) sz)) 1 6 (va_A (wX cI cJ x0 x1 x2 x3 x4 x5 x6 x7 x8 x9 g rm op rc ec su pe qt rs rn cs cn lc hc lg hg ++ [(o0, .inl (cJ, 1, .inr (.inl u)))]) sz) := by
  refine va_MetW (cc := cL_rolesOf) (maxL := 4) (ret := (some .int)) (hh := [(0, 9, 12, 13)]) (by decide) rfl ?_
  intro p e s m args below meth c s₁ B hml hv
  obtain ⟨rfl, hsz, hP, hK, hD0, hT⟩ := hv
  have hx := B.exec
  have hb := B.bytes
  have hr := B.returns
  have hts := atoms_spec (ws := wsL_rolesOf) B.pre
  have hown : s.vm.findClass RL = some m.cls := findClass_of_methodNamed B.named
  have hlocks := B.notSynchronized
  have htab := vx_table (x := yL_rolesOf) (y := yL_rolesOf) (bytes := cL_rolesOf) (maxL' := 4) (ret' := (some .int)) (hh := [(0, 9, 12, 13)]) B (hts _ List.mem_cons_self)
  subst hsz
  have hD := hD0.self (sz := s.heap.size)
  generalize hAe : va_A (wX cI cJ x0 x1 x2 x3 x4 x5 x6 x7 x8 x9 g rm op rc ec su pe qt rs rn cs cn lc hc lg hg ++ [(o0, .inl (cJ, 1, .inr (.inl u)))]) s.heap.size = A at hD hT ⊢
  have hA : ∀ q : Nat, s.heap.size ≤ q → A q := fun q h9 => by rw [← hAe]; exact Or.inr h9
  have hS : va_S A s.heap s.heap [] := va_S.rf
  have hk_0 := hts (.classLink RL 13 "java/lang/IndexOutOfBoundsException") (by decide +kernel)
  have hl := lv_entry ([.ref x0, .int a1, .ref o0]) (n := 4) (Nat.le_of_ble_eq_true rfl)
  rw [lg_entry_eq]
  generalize (lg_sl ([.ref x0, .int a1, .ref o0]) ++ List.replicate (4 - (lg_sl ([.ref x0, .int a1, .ref o0])).length) Slot.unset).toArray = ls at hl ⊢
  have hl : lv_has ls 4 [(0, .ref x0), (1, .int a1), (2, .ref o0)] := hl
  refine lv_aload_n hx hb dL_rolesOf_0 rfl (lv_at hl 2 rfl) ?_
  refine lv_iconst (v := 0) hx hb dL_rolesOf_1 (by decide) ?_
  refine lv_aload_n hx hb dL_rolesOf_2 rfl (lv_at hl 0 rfl) ?_
  refine lv_iload_n hx hb dL_rolesOf_3 rfl (lv_at hl 1 rfl) ?_
  refine cl_Xi (r0 := r0) (As := [.int a1]) (rest := [.int 0, .ref o0]) (wc := wX cI cJ x0 x1 x2 x3 x4 x5 x6 x7 x8 x9 g rm op rc ec su pe qt rs rn cs cn lc hc lg hg) (w1 := wX cI cJ x0 x1 x2 x3 x4 x5 x6 x7 x8 x9 g rm op rc ec su pe qt rs rn cs cn lc hc lg hg) (wr := [(o0, .inl (cJ, 1, .inr (.inl u)))]) ⟨hx, hb, hml, hown, hts⟩ (c_X0_rolesOf l hst D cI cJ x0 x1 x2 x3 x4 x5 x6 x7 x8 x9 _ g rm op rc ec su pe qt rs rn cs cn lc hc lg hg fu a1 r0 h) (cwV 1 hts gL_rolesOf_X0_rolesOf rfl rfl rfl (by decide +kernel) ⟨Nat.le_of_ble_eq_true rfl, Nat.le_of_ble_eq_true rfl⟩) hK hP hD hS hA hT.1 [0, 1, 2, 3, 4, 5, 6, 7, 8, 9] [10] rfl rfl (by decide) (by decide) rfl rfl rfl rfl rfl hl.1 rfl (lv_room (Nat.le_of_ble_eq_true rfl)) dL_rolesOf_4 ⟨Nat.le_of_ble_eq_true rfl, Nat.le_of_ble_eq_true rfl⟩ (fun E ce q9 H locs hx0 hP hD hS hce hcv hcl => ?_) (fun r H locs hr0 hP hD hS => ?_)
  · rcases hres with ⟨r9, e1, -, -⟩ | ⟨e1, rfl, rfl⟩
    · cases (e1.symm.trans hx0)
    · cases (e1.symm.trans hx0)
      replace hP := hP.sub (ws' := wX cI cJ x0 x1 x2 x3 x4 x5 x6 x7 x8 x9 g rm op rc ec su pe qt rs rn cs cn lc hc lg hg ++ [(o0, .inl (cJ, 1, .inr (.inl u')))]) [1, 2, 3, 4, 5, 6, 7, 8, 9, 10, 0] rfl
      replace hD := hD.sub (ws' := wX cI cJ x0 x1 x2 x3 x4 x5 x6 x7 x8 x9 g rm op rc ec su pe qt rs rn cs cn lc hc lg hg ++ [(o0, .inl (cJ, 1, .inr (.inl u')))]) [1, 2, 3, 4, 5, 6, 7, 8, 9, 10, 0] (by decide) rfl
      refine vx_catch (own := RL) (name := "java/lang/IndexOutOfBoundsException") hown [] { startPc := 0, endPc := 9, handlerPc := 12, catchType := 13 } [] (htab.trans rfl) (fun z hz => nomatch hz) rfl (by decide) hk_0 (va_Nw.use (A := _) rfl hT.1.1.1) hce hcv hcl ?_
      refine W.eq (g2 := F0 m 12 ls [.ref q9]) rfl ?_
      refine lv_astore_n (lv' := [(3, .ref q9), (0, .ref x0), (1, .int a1), (2, .ref o0)]) hx hb dL_rolesOf_12 rfl hl (by decide) rfl (fun ls hl => ?_)
      refine lv_iconst (v := 1) hx hb dL_rolesOf_13 (by decide) ?_
      exact W.iret hx hb hr (fun t ht hW => ⟨⟨_, (), rfl, rfl, by rw [ht]; exact hP, va_K.moved hW.alike hK, hD⟩, hS.F ht⟩) hS.2.2 dL_rolesOf_14
  · rcases hres with ⟨r9, e1, rfl, rfl⟩ | ⟨e1, -, -⟩
    · have e2 : r9 = r := Sum.inr.inj (e1.symm.trans hr0)
      subst e2
      replace hP := hP.sub (ws' := wX cI cJ x0 x1 x2 x3 x4 x5 x6 x7 x8 x9 g rm op rc ec su pe qt rs rn cs cn lc hc lg hg ++ [(o0, .inl (cJ, 1, .inr (.inl u)))]) [1, 2, 3, 4, 5, 6, 7, 8, 9, 10, 0] rfl
      replace hD := hD.sub (ws' := wX cI cJ x0 x1 x2 x3 x4 x5 x6 x7 x8 x9 g rm op rc ec su pe qt rs rn cs cn lc hc lg hg ++ [(o0, .inl (cJ, 1, .inr (.inl u)))]) [1, 2, 3, 4, 5, 6, 7, 8, 9, 10, 0] (by decide) rfl
      refine lv_i2l (v := r9.toInt64) hx hb dL_rolesOf_7 rfl ?_
      refine va_last hx hb hK hP hD hS 10 1 rfl rfl (show ¬ ((0 : Int32) < 0 ∨ 1 ≤ Int32.toNatClampNeg 0) by decide) dL_rolesOf_8 (fun H locs hP hD hS => ?_)
      have hP : va_P D vwCl (wX cI cJ x0 x1 x2 x3 x4 x5 x6 x7 x8 x9 g rm op rc ec su pe qt rs rn cs cn lc hc lg hg ++ [(o0, .inl (cJ, 1, .inr (.inl (vp_updL u 0 r9.toInt64))))]) H := hP
      have hD : va_D A (wX cI cJ x0 x1 x2 x3 x4 x5 x6 x7 x8 x9 g rm op rc ec su pe qt rs rn cs cn lc hc lg hg ++ [(o0, .inl (cJ, 1, .inr (.inl (vp_updL u 0 r9.toInt64))))]) := hD
      refine lv_goto (tgt := 15) hx hb dL_rolesOf_9 (by decide) ?_
      refine lv_iconst (v := 0) hx hb dL_rolesOf_15 (by decide) ?_
      exact W.iret hx hb hr (fun t ht hW => ⟨⟨_, (), rfl, rfl, by rw [ht]; exact hP, va_K.moved hW.alike hK, hD⟩, hS.F ht⟩) hS.2.2 dL_rolesOf_16
    · cases (e1.symm.trans hr0)
-- L_byRoles
set_option maxHeartbeats 4000000 in
set_option maxRecDepth 100000 in
theorem c_L_byRoles (l : Launch) (hst : l.stackTraces = false) (D : va_G) (cI cJ : ClassId) (x0 x1 x2 x3 x4 x5 x6 x7 x8 x9 : Nat) (o0 : Nat) (sz : Nat) (g : Nat → Int32) (rm : Nat → Int32) (op : Nat → Int32) (rc : Int32) (ec : Int32) (su : Int32) (pe : Int32) (qt : Int32) (rs : Nat → Int32) (rn : Int32) (cs : Nat → Int32) (cn : Int32) (lc : Nat → Int64) (hc : Nat → Int64) (lg : Nat → Int64) (hg : Nat → Int64) (u : Nat → Int64) (fu : Nat) (a1 : Int32) (r0 : String ⊕ Int32) (h : m_X0_byRoles fu g rs rn a1 = some r0) (k : Int32) (u' : Nat → Int64) (hres : (∃ r, r0 = Sum.inr r ∧ k = 0 ∧ u' = vp_updL u 0 (r.toInt64)) ∨ (r0 = Sum.inl "java/lang/IndexOutOfBoundsException" ∧ k = 1 ∧ u' = u)) : Met l yL_byRoles wsL_byRoles ({ frames := 7, cells := 1, slots := 6, locals := 111 }) (va_Pc [.ref x0, .int a1, .ref o0] (bx_PreL D [(cI, .int), (cJ, .long)] (wX cI cJ x0 x1 x2 x3 x4 x5 x6 x7 x8 x9 g rm op rc ec su pe qt rs rn cs cn lc hc lg hg ++ [(o0, .inl (cJ, 1, .inr (.inl u)))]) sz)) (va_Qi (fun (r : Int32) (_ : Unit) => r = k) (fun (_ : Unit) t => bx_Post D [(cI, .int), (cJ, .long)] (wX cI cJ x0 x1 x2 x3 x4 x5 x6 x7 x8 x9 g rm op rc ec su pe qt rs rn cs cn lc hc lg hg ++ [(o0, .inl (cJ, 1, .inr (.inl u')))]) (va_A (wX cI cJ x0 x1 x2 x3 x4 x5 x6 x7 x8 x9 g rm op rc ec su pe qt rs rn cs cn lc hc lg hg ++ [(o0, .inl (cJ, 1, .inr (.inl u)))]) sz) t) (va_A (wX cI cJ x0 x1 x2 x3 x4 x5 x6 x7 x8 x9 g rm op rc ec su pe qt rs rn cs cn lc hc lg hg ++ [(o0, .inl (cJ, 1, .inr (.inl u)))]) sz)) 1 6 (va_A (wX cI cJ x0 x1 x2 x3 x4 x5 x6 x7 x8 x9 g rm op rc ec su pe qt rs rn cs cn lc hc lg hg ++ [(o0, .inl (cJ, 1, .inr (.inl u)))]) sz) := by
  refine va_MetW (cc := cL_byRoles) (maxL := 4) (ret := (some .int)) (hh := [(0, 9, 12, 13)]) (by decide) rfl ?_
  intro p e s m args below meth c s₁ B hml hv
  obtain ⟨rfl, hsz, hP, hK, hD0, hT⟩ := hv
  have hx := B.exec
  have hb := B.bytes
  have hr := B.returns
  have hts := atoms_spec (ws := wsL_byRoles) B.pre
  have hown : s.vm.findClass RL = some m.cls := findClass_of_methodNamed B.named
  have hlocks := B.notSynchronized
  have htab := vx_table (x := yL_byRoles) (y := yL_byRoles) (bytes := cL_byRoles) (maxL' := 4) (ret' := (some .int)) (hh := [(0, 9, 12, 13)]) B (hts _ List.mem_cons_self)
  subst hsz
  have hD := hD0.self (sz := s.heap.size)
  generalize hAe : va_A (wX cI cJ x0 x1 x2 x3 x4 x5 x6 x7 x8 x9 g rm op rc ec su pe qt rs rn cs cn lc hc lg hg ++ [(o0, .inl (cJ, 1, .inr (.inl u)))]) s.heap.size = A at hD hT ⊢
  have hA : ∀ q : Nat, s.heap.size ≤ q → A q := fun q h9 => by rw [← hAe]; exact Or.inr h9
  have hS : va_S A s.heap s.heap [] := va_S.rf
  have hk_0 := hts (.classLink RL 13 "java/lang/IndexOutOfBoundsException") (by decide +kernel)
  have hl := lv_entry ([.ref x0, .int a1, .ref o0]) (n := 4) (Nat.le_of_ble_eq_true rfl)
  rw [lg_entry_eq]
  generalize (lg_sl ([.ref x0, .int a1, .ref o0]) ++ List.replicate (4 - (lg_sl ([.ref x0, .int a1, .ref o0])).length) Slot.unset).toArray = ls at hl ⊢
  have hl : lv_has ls 4 [(0, .ref x0), (1, .int a1), (2, .ref o0)] := hl
  refine lv_aload_n hx hb dL_byRoles_0 rfl (lv_at hl 2 rfl) ?_
  refine lv_iconst (v := 0) hx hb dL_byRoles_1 (by decide) ?_
  refine lv_aload_n hx hb dL_byRoles_2 rfl (lv_at hl 0 rfl) ?_
  refine lv_iload_n hx hb dL_byRoles_3 rfl (lv_at hl 1 rfl) ?_
  refine cl_Xi (r0 := r0) (As := [.int a1]) (rest := [.int 0, .ref o0]) (wc := wX cI cJ x0 x1 x2 x3 x4 x5 x6 x7 x8 x9 g rm op rc ec su pe qt rs rn cs cn lc hc lg hg) (w1 := wX cI cJ x0 x1 x2 x3 x4 x5 x6 x7 x8 x9 g rm op rc ec su pe qt rs rn cs cn lc hc lg hg) (wr := [(o0, .inl (cJ, 1, .inr (.inl u)))]) ⟨hx, hb, hml, hown, hts⟩ (c_X0_byRoles l hst D cI cJ x0 x1 x2 x3 x4 x5 x6 x7 x8 x9 _ g rm op rc ec su pe qt rs rn cs cn lc hc lg hg fu a1 r0 h) (cwV 1 hts gL_byRoles_X0_byRoles rfl rfl rfl (by decide +kernel) ⟨Nat.le_of_ble_eq_true rfl, Nat.le_of_ble_eq_true rfl⟩) hK hP hD hS hA hT.1 [0, 1, 2, 3, 4, 5, 6, 7, 8, 9] [10] rfl rfl (by decide) (by decide) rfl rfl rfl rfl rfl hl.1 rfl (lv_room (Nat.le_of_ble_eq_true rfl)) dL_byRoles_4 ⟨Nat.le_of_ble_eq_true rfl, Nat.le_of_ble_eq_true rfl⟩ (fun E ce q9 H locs hx0 hP hD hS hce hcv hcl => ?_) (fun r H locs hr0 hP hD hS => ?_)
  · rcases hres with ⟨r9, e1, -, -⟩ | ⟨e1, rfl, rfl⟩
    · cases (e1.symm.trans hx0)
    · cases (e1.symm.trans hx0)
      replace hP := hP.sub (ws' := wX cI cJ x0 x1 x2 x3 x4 x5 x6 x7 x8 x9 g rm op rc ec su pe qt rs rn cs cn lc hc lg hg ++ [(o0, .inl (cJ, 1, .inr (.inl u')))]) [1, 2, 3, 4, 5, 6, 7, 8, 9, 10, 0] rfl
      replace hD := hD.sub (ws' := wX cI cJ x0 x1 x2 x3 x4 x5 x6 x7 x8 x9 g rm op rc ec su pe qt rs rn cs cn lc hc lg hg ++ [(o0, .inl (cJ, 1, .inr (.inl u')))]) [1, 2, 3, 4, 5, 6, 7, 8, 9, 10, 0] (by decide) rfl
      refine vx_catch (own := RL) (name := "java/lang/IndexOutOfBoundsException") hown [] { startPc := 0, endPc := 9, handlerPc := 12, catchType := 13 } [] (htab.trans rfl) (fun z hz => nomatch hz) rfl (by decide) hk_0 (va_Nw.use (A := _) rfl hT.1.1.1) hce hcv hcl ?_
      refine W.eq (g2 := F0 m 12 ls [.ref q9]) rfl ?_
      refine lv_astore_n (lv' := [(3, .ref q9), (0, .ref x0), (1, .int a1), (2, .ref o0)]) hx hb dL_byRoles_12 rfl hl (by decide) rfl (fun ls hl => ?_)
      refine lv_iconst (v := 1) hx hb dL_byRoles_13 (by decide) ?_
      exact W.iret hx hb hr (fun t ht hW => ⟨⟨_, (), rfl, rfl, by rw [ht]; exact hP, va_K.moved hW.alike hK, hD⟩, hS.F ht⟩) hS.2.2 dL_byRoles_14
  · rcases hres with ⟨r9, e1, rfl, rfl⟩ | ⟨e1, -, -⟩
    · have e2 : r9 = r := Sum.inr.inj (e1.symm.trans hr0)
      subst e2
      replace hP := hP.sub (ws' := wX cI cJ x0 x1 x2 x3 x4 x5 x6 x7 x8 x9 g rm op rc ec su pe qt rs rn cs cn lc hc lg hg ++ [(o0, .inl (cJ, 1, .inr (.inl u)))]) [1, 2, 3, 4, 5, 6, 7, 8, 9, 10, 0] rfl
      replace hD := hD.sub (ws' := wX cI cJ x0 x1 x2 x3 x4 x5 x6 x7 x8 x9 g rm op rc ec su pe qt rs rn cs cn lc hc lg hg ++ [(o0, .inl (cJ, 1, .inr (.inl u)))]) [1, 2, 3, 4, 5, 6, 7, 8, 9, 10, 0] (by decide) rfl
      refine lv_i2l (v := r9.toInt64) hx hb dL_byRoles_7 rfl ?_
      refine va_last hx hb hK hP hD hS 10 1 rfl rfl (show ¬ ((0 : Int32) < 0 ∨ 1 ≤ Int32.toNatClampNeg 0) by decide) dL_byRoles_8 (fun H locs hP hD hS => ?_)
      have hP : va_P D vwCl (wX cI cJ x0 x1 x2 x3 x4 x5 x6 x7 x8 x9 g rm op rc ec su pe qt rs rn cs cn lc hc lg hg ++ [(o0, .inl (cJ, 1, .inr (.inl (vp_updL u 0 r9.toInt64))))]) H := hP
      have hD : va_D A (wX cI cJ x0 x1 x2 x3 x4 x5 x6 x7 x8 x9 g rm op rc ec su pe qt rs rn cs cn lc hc lg hg ++ [(o0, .inl (cJ, 1, .inr (.inl (vp_updL u 0 r9.toInt64))))]) := hD
      refine lv_goto (tgt := 15) hx hb dL_byRoles_9 (by decide) ?_
      refine lv_iconst (v := 0) hx hb dL_byRoles_15 (by decide) ?_
      exact W.iret hx hb hr (fun t ht hW => ⟨⟨_, (), rfl, rfl, by rw [ht]; exact hP, va_K.moved hW.alike hK, hD⟩, hS.F ht⟩) hS.2.2 dL_byRoles_16
    · cases (e1.symm.trans hr0)
-- L_exceptions
set_option maxHeartbeats 4000000 in
set_option maxRecDepth 100000 in
theorem c_L_exceptions (l : Launch) (hst : l.stackTraces = false) (D : va_G) (cI cJ : ClassId) (x0 x1 x2 x3 x4 x5 x6 x7 x8 x9 : Nat) (o0 : Nat) (sz : Nat) (g : Nat → Int32) (rm : Nat → Int32) (op : Nat → Int32) (rc : Int32) (ec : Int32) (su : Int32) (pe : Int32) (qt : Int32) (rs : Nat → Int32) (rn : Int32) (cs : Nat → Int32) (cn : Int32) (lc : Nat → Int64) (hc : Nat → Int64) (lg : Nat → Int64) (hg : Nat → Int64) (u : Nat → Int64) (fu : Nat) (a1 : Int32) (r0 : String ⊕ Int32) (h : m_X0_exceptions fu g rs rn a1 = some r0) (k : Int32) (u' : Nat → Int64) (hres : (∃ r, r0 = Sum.inr r ∧ k = 0 ∧ u' = vp_updL u 0 (r.toInt64)) ∨ (r0 = Sum.inl "java/lang/IndexOutOfBoundsException" ∧ k = 1 ∧ u' = u)) : Met l yL_exceptions wsL_exceptions ({ frames := 7, cells := 1, slots := 6, locals := 111 }) (va_Pc [.ref x0, .int a1, .ref o0] (bx_PreL D [(cI, .int), (cJ, .long)] (wX cI cJ x0 x1 x2 x3 x4 x5 x6 x7 x8 x9 g rm op rc ec su pe qt rs rn cs cn lc hc lg hg ++ [(o0, .inl (cJ, 1, .inr (.inl u)))]) sz)) (va_Qi (fun (r : Int32) (_ : Unit) => r = k) (fun (_ : Unit) t => bx_Post D [(cI, .int), (cJ, .long)] (wX cI cJ x0 x1 x2 x3 x4 x5 x6 x7 x8 x9 g rm op rc ec su pe qt rs rn cs cn lc hc lg hg ++ [(o0, .inl (cJ, 1, .inr (.inl u')))]) (va_A (wX cI cJ x0 x1 x2 x3 x4 x5 x6 x7 x8 x9 g rm op rc ec su pe qt rs rn cs cn lc hc lg hg ++ [(o0, .inl (cJ, 1, .inr (.inl u)))]) sz) t) (va_A (wX cI cJ x0 x1 x2 x3 x4 x5 x6 x7 x8 x9 g rm op rc ec su pe qt rs rn cs cn lc hc lg hg ++ [(o0, .inl (cJ, 1, .inr (.inl u)))]) sz)) 1 6 (va_A (wX cI cJ x0 x1 x2 x3 x4 x5 x6 x7 x8 x9 g rm op rc ec su pe qt rs rn cs cn lc hc lg hg ++ [(o0, .inl (cJ, 1, .inr (.inl u)))]) sz) := by
  refine va_MetW (cc := cL_exceptions) (maxL := 4) (ret := (some .int)) (hh := [(0, 9, 12, 13)]) (by decide) rfl ?_
  intro p e s m args below meth c s₁ B hml hv
  obtain ⟨rfl, hsz, hP, hK, hD0, hT⟩ := hv
  have hx := B.exec
  have hb := B.bytes
  have hr := B.returns
  have hts := atoms_spec (ws := wsL_exceptions) B.pre
  have hown : s.vm.findClass RL = some m.cls := findClass_of_methodNamed B.named
  have hlocks := B.notSynchronized
  have htab := vx_table (x := yL_exceptions) (y := yL_exceptions) (bytes := cL_exceptions) (maxL' := 4) (ret' := (some .int)) (hh := [(0, 9, 12, 13)]) B (hts _ List.mem_cons_self)
  subst hsz
  have hD := hD0.self (sz := s.heap.size)
  generalize hAe : va_A (wX cI cJ x0 x1 x2 x3 x4 x5 x6 x7 x8 x9 g rm op rc ec su pe qt rs rn cs cn lc hc lg hg ++ [(o0, .inl (cJ, 1, .inr (.inl u)))]) s.heap.size = A at hD hT ⊢
  have hA : ∀ q : Nat, s.heap.size ≤ q → A q := fun q h9 => by rw [← hAe]; exact Or.inr h9
  have hS : va_S A s.heap s.heap [] := va_S.rf
  have hk_0 := hts (.classLink RL 13 "java/lang/IndexOutOfBoundsException") (by decide +kernel)
  have hl := lv_entry ([.ref x0, .int a1, .ref o0]) (n := 4) (Nat.le_of_ble_eq_true rfl)
  rw [lg_entry_eq]
  generalize (lg_sl ([.ref x0, .int a1, .ref o0]) ++ List.replicate (4 - (lg_sl ([.ref x0, .int a1, .ref o0])).length) Slot.unset).toArray = ls at hl ⊢
  have hl : lv_has ls 4 [(0, .ref x0), (1, .int a1), (2, .ref o0)] := hl
  refine lv_aload_n hx hb dL_exceptions_0 rfl (lv_at hl 2 rfl) ?_
  refine lv_iconst (v := 0) hx hb dL_exceptions_1 (by decide) ?_
  refine lv_aload_n hx hb dL_exceptions_2 rfl (lv_at hl 0 rfl) ?_
  refine lv_iload_n hx hb dL_exceptions_3 rfl (lv_at hl 1 rfl) ?_
  refine cl_Xi (r0 := r0) (As := [.int a1]) (rest := [.int 0, .ref o0]) (wc := wX cI cJ x0 x1 x2 x3 x4 x5 x6 x7 x8 x9 g rm op rc ec su pe qt rs rn cs cn lc hc lg hg) (w1 := wX cI cJ x0 x1 x2 x3 x4 x5 x6 x7 x8 x9 g rm op rc ec su pe qt rs rn cs cn lc hc lg hg) (wr := [(o0, .inl (cJ, 1, .inr (.inl u)))]) ⟨hx, hb, hml, hown, hts⟩ (c_X0_exceptions l hst D cI cJ x0 x1 x2 x3 x4 x5 x6 x7 x8 x9 _ g rm op rc ec su pe qt rs rn cs cn lc hc lg hg fu a1 r0 h) (cwV 1 hts gL_exceptions_X0_exceptions rfl rfl rfl (by decide +kernel) ⟨Nat.le_of_ble_eq_true rfl, Nat.le_of_ble_eq_true rfl⟩) hK hP hD hS hA hT.1 [0, 1, 2, 3, 4, 5, 6, 7, 8, 9] [10] rfl rfl (by decide) (by decide) rfl rfl rfl rfl rfl hl.1 rfl (lv_room (Nat.le_of_ble_eq_true rfl)) dL_exceptions_4 ⟨Nat.le_of_ble_eq_true rfl, Nat.le_of_ble_eq_true rfl⟩ (fun E ce q9 H locs hx0 hP hD hS hce hcv hcl => ?_) (fun r H locs hr0 hP hD hS => ?_)
  · rcases hres with ⟨r9, e1, -, -⟩ | ⟨e1, rfl, rfl⟩
    · cases (e1.symm.trans hx0)
    · cases (e1.symm.trans hx0)
      replace hP := hP.sub (ws' := wX cI cJ x0 x1 x2 x3 x4 x5 x6 x7 x8 x9 g rm op rc ec su pe qt rs rn cs cn lc hc lg hg ++ [(o0, .inl (cJ, 1, .inr (.inl u')))]) [1, 2, 3, 4, 5, 6, 7, 8, 9, 10, 0] rfl
      replace hD := hD.sub (ws' := wX cI cJ x0 x1 x2 x3 x4 x5 x6 x7 x8 x9 g rm op rc ec su pe qt rs rn cs cn lc hc lg hg ++ [(o0, .inl (cJ, 1, .inr (.inl u')))]) [1, 2, 3, 4, 5, 6, 7, 8, 9, 10, 0] (by decide) rfl
      refine vx_catch (own := RL) (name := "java/lang/IndexOutOfBoundsException") hown [] { startPc := 0, endPc := 9, handlerPc := 12, catchType := 13 } [] (htab.trans rfl) (fun z hz => nomatch hz) rfl (by decide) hk_0 (va_Nw.use (A := _) rfl hT.1.1.1) hce hcv hcl ?_
      refine W.eq (g2 := F0 m 12 ls [.ref q9]) rfl ?_
      refine lv_astore_n (lv' := [(3, .ref q9), (0, .ref x0), (1, .int a1), (2, .ref o0)]) hx hb dL_exceptions_12 rfl hl (by decide) rfl (fun ls hl => ?_)
      refine lv_iconst (v := 1) hx hb dL_exceptions_13 (by decide) ?_
      exact W.iret hx hb hr (fun t ht hW => ⟨⟨_, (), rfl, rfl, by rw [ht]; exact hP, va_K.moved hW.alike hK, hD⟩, hS.F ht⟩) hS.2.2 dL_exceptions_14
  · rcases hres with ⟨r9, e1, rfl, rfl⟩ | ⟨e1, -, -⟩
    · have e2 : r9 = r := Sum.inr.inj (e1.symm.trans hr0)
      subst e2
      replace hP := hP.sub (ws' := wX cI cJ x0 x1 x2 x3 x4 x5 x6 x7 x8 x9 g rm op rc ec su pe qt rs rn cs cn lc hc lg hg ++ [(o0, .inl (cJ, 1, .inr (.inl u)))]) [1, 2, 3, 4, 5, 6, 7, 8, 9, 10, 0] rfl
      replace hD := hD.sub (ws' := wX cI cJ x0 x1 x2 x3 x4 x5 x6 x7 x8 x9 g rm op rc ec su pe qt rs rn cs cn lc hc lg hg ++ [(o0, .inl (cJ, 1, .inr (.inl u)))]) [1, 2, 3, 4, 5, 6, 7, 8, 9, 10, 0] (by decide) rfl
      refine lv_i2l (v := r9.toInt64) hx hb dL_exceptions_7 rfl ?_
      refine va_last hx hb hK hP hD hS 10 1 rfl rfl (show ¬ ((0 : Int32) < 0 ∨ 1 ≤ Int32.toNatClampNeg 0) by decide) dL_exceptions_8 (fun H locs hP hD hS => ?_)
      have hP : va_P D vwCl (wX cI cJ x0 x1 x2 x3 x4 x5 x6 x7 x8 x9 g rm op rc ec su pe qt rs rn cs cn lc hc lg hg ++ [(o0, .inl (cJ, 1, .inr (.inl (vp_updL u 0 r9.toInt64))))]) H := hP
      have hD : va_D A (wX cI cJ x0 x1 x2 x3 x4 x5 x6 x7 x8 x9 g rm op rc ec su pe qt rs rn cs cn lc hc lg hg ++ [(o0, .inl (cJ, 1, .inr (.inl (vp_updL u 0 r9.toInt64))))]) := hD
      refine lv_goto (tgt := 15) hx hb dL_exceptions_9 (by decide) ?_
      refine lv_iconst (v := 0) hx hb dL_exceptions_15 (by decide) ?_
      exact W.iret hx hb hr (fun t ht hW => ⟨⟨_, (), rfl, rfl, by rw [ht]; exact hP, va_K.moved hW.alike hK, hD⟩, hS.F ht⟩) hS.2.2 dL_exceptions_16
    · cases (e1.symm.trans hr0)
-- L_isRisky
set_option maxHeartbeats 4000000 in
set_option maxRecDepth 100000 in
theorem c_L_isRisky (l : Launch) (hst : l.stackTraces = false) (D : va_G) (cI cJ : ClassId) (x0 x1 x2 x3 x4 x5 x6 x7 x8 x9 : Nat) (o0 : Nat) (sz : Nat) (g : Nat → Int32) (rm : Nat → Int32) (op : Nat → Int32) (rc : Int32) (ec : Int32) (su : Int32) (pe : Int32) (qt : Int32) (rs : Nat → Int32) (rn : Int32) (cs : Nat → Int32) (cn : Int32) (lc : Nat → Int64) (hc : Nat → Int64) (lg : Nat → Int64) (hg : Nat → Int64) (u : Nat → Int64) (fu : Nat) (a1 : Int32) (r0 : String ⊕ Int32) (h : m_X0_isRisky fu g op rs rn a1 = some r0) (k : Int32) (u' : Nat → Int64) (hres : (∃ r, r0 = Sum.inr r ∧ k = 0 ∧ u' = vp_updL u 0 (bl r)) ∨ (r0 = Sum.inl "java/lang/IndexOutOfBoundsException" ∧ k = 1 ∧ u' = u)) : Met l yL_isRisky wsL_isRisky ({ frames := 7, cells := 1, slots := 6, locals := 113 }) (va_Pc [.ref x0, .int a1, .ref o0] (bx_PreL D [(cI, .int), (cJ, .long)] (wX cI cJ x0 x1 x2 x3 x4 x5 x6 x7 x8 x9 g rm op rc ec su pe qt rs rn cs cn lc hc lg hg ++ [(o0, .inl (cJ, 1, .inr (.inl u)))]) sz)) (va_Qi (fun (r : Int32) (_ : Unit) => r = k) (fun (_ : Unit) t => bx_Post D [(cI, .int), (cJ, .long)] (wX cI cJ x0 x1 x2 x3 x4 x5 x6 x7 x8 x9 g rm op rc ec su pe qt rs rn cs cn lc hc lg hg ++ [(o0, .inl (cJ, 1, .inr (.inl u')))]) (va_A (wX cI cJ x0 x1 x2 x3 x4 x5 x6 x7 x8 x9 g rm op rc ec su pe qt rs rn cs cn lc hc lg hg ++ [(o0, .inl (cJ, 1, .inr (.inl u)))]) sz) t) (va_A (wX cI cJ x0 x1 x2 x3 x4 x5 x6 x7 x8 x9 g rm op rc ec su pe qt rs rn cs cn lc hc lg hg ++ [(o0, .inl (cJ, 1, .inr (.inl u)))]) sz)) 1 6 (va_A (wX cI cJ x0 x1 x2 x3 x4 x5 x6 x7 x8 x9 g rm op rc ec su pe qt rs rn cs cn lc hc lg hg ++ [(o0, .inl (cJ, 1, .inr (.inl u)))]) sz) := by
  refine va_MetW (cc := cL_isRisky) (maxL := 4) (ret := (some .int)) (hh := [(0, 16, 19, 13)]) (by decide) rfl ?_
  intro p e s m args below meth c s₁ B hml hv
  obtain ⟨rfl, hsz, hP, hK, hD0, hT⟩ := hv
  have hx := B.exec
  have hb := B.bytes
  have hr := B.returns
  have hts := atoms_spec (ws := wsL_isRisky) B.pre
  have hown : s.vm.findClass RL = some m.cls := findClass_of_methodNamed B.named
  have hlocks := B.notSynchronized
  have htab := vx_table (x := yL_isRisky) (y := yL_isRisky) (bytes := cL_isRisky) (maxL' := 4) (ret' := (some .int)) (hh := [(0, 16, 19, 13)]) B (hts _ List.mem_cons_self)
  subst hsz
  have hD := hD0.self (sz := s.heap.size)
  generalize hAe : va_A (wX cI cJ x0 x1 x2 x3 x4 x5 x6 x7 x8 x9 g rm op rc ec su pe qt rs rn cs cn lc hc lg hg ++ [(o0, .inl (cJ, 1, .inr (.inl u)))]) s.heap.size = A at hD hT ⊢
  have hA : ∀ q : Nat, s.heap.size ≤ q → A q := fun q h9 => by rw [← hAe]; exact Or.inr h9
  have hS : va_S A s.heap s.heap [] := va_S.rf
  have hk_0 := hts (.classLink RL 13 "java/lang/IndexOutOfBoundsException") (by decide +kernel)
  have hl := lv_entry ([.ref x0, .int a1, .ref o0]) (n := 4) (Nat.le_of_ble_eq_true rfl)
  rw [lg_entry_eq]
  generalize (lg_sl ([.ref x0, .int a1, .ref o0]) ++ List.replicate (4 - (lg_sl ([.ref x0, .int a1, .ref o0])).length) Slot.unset).toArray = ls at hl ⊢
  have hl : lv_has ls 4 [(0, .ref x0), (1, .int a1), (2, .ref o0)] := hl
  refine lv_aload_n hx hb dL_isRisky_0 rfl (lv_at hl 2 rfl) ?_
  refine lv_iconst (v := 0) hx hb dL_isRisky_1 (by decide) ?_
  refine lv_aload_n hx hb dL_isRisky_2 rfl (lv_at hl 0 rfl) ?_
  refine lv_iload_n hx hb dL_isRisky_3 rfl (lv_at hl 1 rfl) ?_
  refine cl_Xi (r0 := r0) (As := [.int a1]) (rest := [.int 0, .ref o0]) (wc := wX cI cJ x0 x1 x2 x3 x4 x5 x6 x7 x8 x9 g rm op rc ec su pe qt rs rn cs cn lc hc lg hg) (w1 := wX cI cJ x0 x1 x2 x3 x4 x5 x6 x7 x8 x9 g rm op rc ec su pe qt rs rn cs cn lc hc lg hg) (wr := [(o0, .inl (cJ, 1, .inr (.inl u)))]) ⟨hx, hb, hml, hown, hts⟩ (c_X0_isRisky l hst D cI cJ x0 x1 x2 x3 x4 x5 x6 x7 x8 x9 _ g rm op rc ec su pe qt rs rn cs cn lc hc lg hg fu a1 r0 h) (cwV 1 hts gL_isRisky_X0_isRisky rfl rfl rfl (by decide +kernel) ⟨Nat.le_of_ble_eq_true rfl, Nat.le_of_ble_eq_true rfl⟩) hK hP hD hS hA hT.1 [0, 1, 2, 3, 4, 5, 6, 7, 8, 9] [10] rfl rfl (by decide) (by decide) rfl rfl rfl rfl rfl hl.1 rfl (lv_room (Nat.le_of_ble_eq_true rfl)) dL_isRisky_4 ⟨Nat.le_of_ble_eq_true rfl, Nat.le_of_ble_eq_true rfl⟩ (fun E ce q9 H locs hx0 hP hD hS hce hcv hcl => ?_) (fun r H locs hr0 hP hD hS => ?_)
  · rcases hres with ⟨r9, e1, -, -⟩ | ⟨e1, rfl, rfl⟩
    · cases (e1.symm.trans hx0)
    · cases (e1.symm.trans hx0)
      replace hP := hP.sub (ws' := wX cI cJ x0 x1 x2 x3 x4 x5 x6 x7 x8 x9 g rm op rc ec su pe qt rs rn cs cn lc hc lg hg ++ [(o0, .inl (cJ, 1, .inr (.inl u')))]) [1, 2, 3, 4, 5, 6, 7, 8, 9, 10, 0] rfl
      replace hD := hD.sub (ws' := wX cI cJ x0 x1 x2 x3 x4 x5 x6 x7 x8 x9 g rm op rc ec su pe qt rs rn cs cn lc hc lg hg ++ [(o0, .inl (cJ, 1, .inr (.inl u')))]) [1, 2, 3, 4, 5, 6, 7, 8, 9, 10, 0] (by decide) rfl
      refine vx_catch (own := RL) (name := "java/lang/IndexOutOfBoundsException") hown [] { startPc := 0, endPc := 16, handlerPc := 19, catchType := 13 } [] (htab.trans rfl) (fun z hz => nomatch hz) rfl (by decide) hk_0 (va_Nw.use (A := _) rfl hT.1.1.1) hce hcv hcl ?_
      refine W.eq (g2 := F0 m 19 ls [.ref q9]) rfl ?_
      refine lv_astore_n (lv' := [(3, .ref q9), (0, .ref x0), (1, .int a1), (2, .ref o0)]) hx hb dL_isRisky_19 rfl hl (by decide) rfl (fun ls hl => ?_)
      refine lv_iconst (v := 1) hx hb dL_isRisky_20 (by decide) ?_
      exact W.iret hx hb hr (fun t ht hW => ⟨⟨_, (), rfl, rfl, by rw [ht]; exact hP, va_K.moved hW.alike hK, hD⟩, hS.F ht⟩) hS.2.2 dL_isRisky_21
  · rcases hres with ⟨r9, e1, rfl, rfl⟩ | ⟨e1, -, -⟩
    · have e2 : r9 = r := Sum.inr.inj (e1.symm.trans hr0)
      subst e2
      replace hP := hP.sub (ws' := wX cI cJ x0 x1 x2 x3 x4 x5 x6 x7 x8 x9 g rm op rc ec su pe qt rs rn cs cn lc hc lg hg ++ [(o0, .inl (cJ, 1, .inr (.inl u)))]) [1, 2, 3, 4, 5, 6, 7, 8, 9, 10, 0] rfl
      replace hD := hD.sub (ws' := wX cI cJ x0 x1 x2 x3 x4 x5 x6 x7 x8 x9 g rm op rc ec su pe qt rs rn cs cn lc hc lg hg ++ [(o0, .inl (cJ, 1, .inr (.inl u)))]) [1, 2, 3, 4, 5, 6, 7, 8, 9, 10, 0] (by decide) rfl
      refine lv_if_eq (tgt := 14) hx hb dL_isRisky_7 (by decide) (fun c_1 => ?_) (fun c_1 => ?_)
      · rw [show bl r9 = 0 from if_pos c_1]
        refine lv_lconst (v := 0) hx hb dL_isRisky_14 (by decide) ?_
        refine va_last hx hb hK hP hD hS 10 1 rfl rfl (show ¬ ((0 : Int32) < 0 ∨ 1 ≤ Int32.toNatClampNeg 0) by decide) dL_isRisky_15 (fun H locs hP hD hS => ?_)
        have hP : va_P D vwCl (wX cI cJ x0 x1 x2 x3 x4 x5 x6 x7 x8 x9 g rm op rc ec su pe qt rs rn cs cn lc hc lg hg ++ [(o0, .inl (cJ, 1, .inr (.inl (vp_updL u 0 0))))]) H := hP
        have hD : va_D A (wX cI cJ x0 x1 x2 x3 x4 x5 x6 x7 x8 x9 g rm op rc ec su pe qt rs rn cs cn lc hc lg hg ++ [(o0, .inl (cJ, 1, .inr (.inl (vp_updL u 0 0))))]) := hD
        refine lv_goto (tgt := 22) hx hb dL_isRisky_16 (by decide) ?_
        refine lv_iconst (v := 0) hx hb dL_isRisky_22 (by decide) ?_
        exact W.iret hx hb hr (fun t ht hW => ⟨⟨_, (), rfl, rfl, by rw [ht]; exact hP, va_K.moved hW.alike hK, hD⟩, hS.F ht⟩) hS.2.2 dL_isRisky_23
      · rw [show bl r9 = 1 from if_neg c_1]
        refine lv_lconst (v := 1) hx hb dL_isRisky_10 (by decide) ?_
        refine lv_goto (tgt := 15) hx hb dL_isRisky_11 (by decide) ?_
        refine va_last hx hb hK hP hD hS 10 1 rfl rfl (show ¬ ((0 : Int32) < 0 ∨ 1 ≤ Int32.toNatClampNeg 0) by decide) dL_isRisky_15 (fun H locs hP hD hS => ?_)
        have hP : va_P D vwCl (wX cI cJ x0 x1 x2 x3 x4 x5 x6 x7 x8 x9 g rm op rc ec su pe qt rs rn cs cn lc hc lg hg ++ [(o0, .inl (cJ, 1, .inr (.inl (vp_updL u 0 1))))]) H := hP
        have hD : va_D A (wX cI cJ x0 x1 x2 x3 x4 x5 x6 x7 x8 x9 g rm op rc ec su pe qt rs rn cs cn lc hc lg hg ++ [(o0, .inl (cJ, 1, .inr (.inl (vp_updL u 0 1))))]) := hD
        refine lv_goto (tgt := 22) hx hb dL_isRisky_16 (by decide) ?_
        refine lv_iconst (v := 0) hx hb dL_isRisky_22 (by decide) ?_
        exact W.iret hx hb hr (fun t ht hW => ⟨⟨_, (), rfl, rfl, by rw [ht]; exact hP, va_K.moved hW.alike hK, hD⟩, hS.F ht⟩) hS.2.2 dL_isRisky_23
    · cases (e1.symm.trans hr0)
