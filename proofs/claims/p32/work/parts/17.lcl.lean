def xThrL (A : Nat → Prop) (U : State) : Prop := xThr A U ∧ va_Nc "java/lang/IllegalArgumentException" "java/lang/IndexOutOfBoundsException" U ∧ va_Nc "java/lang/IllegalStateException" "java/lang/IndexOutOfBoundsException" U ∧ va_Nc "java/lang/IllegalArgumentException" "java/lang/IllegalStateException" U
abbrev bx_PreL (D : va_G) (tys : List (ClassId × FieldType)) (ws : va_W) (sz : Nat) (U : State) : Prop := U.heap.size = sz ∧ va_P D vwCl ws U.heap ∧ va_K D vwCl tys U ∧ va_D (fun _ => True) ws ∧ xThrL (va_A ws sz) U
def bl (r : Int32) : Int64 := if r = 0 then 0 else 1
theorem xd_warm {s U : State} {x : MethodName} (hW : s.WarmedH U.vm) (h : va_Nw (.declares x) s) : va_Nw (.declares x) U := va_tabs rfl (rfl : (s.setVm U.vm).vm = U.vm) (by rw [Cond.declares_setVm hW.alike]; exact h)
theorem xs_warm {s U : State} {k : Nat} {tx : String} (hW : s.WarmedH U.vm) (h : ∃ sa, vk_R RX0 k tx sa s) : ∃ sa, vk_R RX0 k tx sa U := by
  obtain ⟨sa, h⟩ := h
  exact ⟨sa, vk_R.warm hW h⟩
theorem xz_go {C n d : String} {A B : Nat → Prop} {s U : State} {H : Heap} {locs : List Loc} (h : vx_Zq C n d A s s.heap) (hS : va_S A s.heap H locs) (hB : ∀ q, B q → A q) (hU : U.heap = H) (hW : s.WarmedH U.vm) : vx_Zq C n d B U U.heap := by
  have h1 := (h.kept hS.2.1).moved hW.alike
  rw [← hU] at h1
  exact h1.narrow hB
theorem xThr.go {A B : Nat → Prop} {s U : State} {H : Heap} {locs : List Loc} (h : xThr A s) (hS : va_S A s.heap H locs) (hB : ∀ q, B q → A q) (hU : U.heap = H) (hW : s.WarmedH U.vm) : xThr B U := by
  obtain ⟨⟨c0, c1, c2, d0, d1, d2⟩, ⟨z0, z1⟩, t0, t1, t2, t3, t4, t5, t6, t7, t8, t9, t10, t11, t12, t13⟩ := h
  exact ⟨⟨va_Nw.warmC hW c0, va_Nw.warmC hW c1, va_Nw.warmC hW c2, xd_warm hW d0, xd_warm hW d1, xd_warm hW d2⟩, ⟨xz_go z0 hS hB hU hW, xz_go z1 hS hB hU hW⟩, xs_warm hW t0, xs_warm hW t1, xs_warm hW t2, xs_warm hW t3, xs_warm hW t4, xs_warm hW t5, xs_warm hW t6, xs_warm hW t7, xs_warm hW t8, xs_warm hW t9, xs_warm hW t10, xs_warm hW t11, xs_warm hW t12, xs_warm hW t13⟩
theorem xThrL.go {A B : Nat → Prop} {s U : State} {H : Heap} {locs : List Loc} (h : xThrL A s) (hS : va_S A s.heap H locs) (hB : ∀ q, B q → A q) (hU : U.heap = H) (hW : s.WarmedH U.vm) : xThrL B U :=
  ⟨h.1.go hS hB hU hW, va_Nc.moved hW.alike h.2.1, va_Nc.moved hW.alike h.2.2.1, va_Nc.moved hW.alike h.2.2.2⟩
theorem xThr.calling {A : Nat → Prop} {U : State} {g : JFrame} {mk : MethodId} {a : Array Value} (h : xThr A U) : xThr A (U.calling g mk a) := by
  obtain ⟨⟨c0, c1, c2, d0, d1, d2⟩, ⟨z0, z1⟩, t0, t1, t2, t3, t4, t5, t6, t7, t8, t9, t10, t11, t12, t13⟩ := h
  have hv : U.vm.Alike (U.calling g mk a).vm := Vm.Alike.refl U.vm
  have tx : ∀ {k : Nat} {t : String}, (∃ sa, vk_R RX0 k t sa U) → ∃ sa, vk_R RX0 k t sa (U.calling g mk a) := fun h => by
    obtain ⟨sa, h⟩ := h
    exact ⟨sa, vk_R.same (u := U) (U := U.calling g mk a) rfl h⟩
  have tw : ∀ {w : Cond}, w.onTables = true → va_Nw w U → va_Nw w (U.calling g mk a) := fun h1 h2 => va_tabs h1 (u := U) (U := U.calling g mk a) rfl h2
  exact ⟨⟨tw rfl c0, tw rfl c1, tw rfl c2, tw rfl d0, tw rfl d1, tw rfl d2⟩, ⟨z0.moved hv, z1.moved hv⟩, tx t0, tx t1, tx t2, tx t3, tx t4, tx t5, tx t6, tx t7, tx t8, tx t9, tx t10, tx t11, tx t12, tx t13⟩
theorem bx_blindT {av : List Value} {D : va_G} {tys : List (ClassId × FieldType)} {ws : va_W} {sz : Nat} : FrameBlind (va_Pc av (bx_PreT D tys ws sz)) := fun a U g mk q => by
  obtain ⟨q0, q1, qP, qK, qD, qT⟩ := q
  exact ⟨q0, q1, qP, va_K.moved (u := U) (U := U.calling g mk a) (Vm.Alike.refl U.vm) qK, qD, qT.calling⟩
theorem bx_blindL {av : List Value} {D : va_G} {tys : List (ClassId × FieldType)} {ws : va_W} {sz : Nat} : FrameBlind (va_Pc av (bx_PreL D tys ws sz)) := fun a U g mk q => by
  obtain ⟨q0, q1, qP, qK, qD, qT⟩ := q
  exact ⟨q0, q1, qP, va_K.moved (u := U) (U := U.calling g mk a) (Vm.Alike.refl U.vm) qK, qD, qT.1.calling, va_Nc.moved (Vm.Alike.refl U.vm) qT.2.1, va_Nc.moved (Vm.Alike.refl U.vm) qT.2.2.1, va_Nc.moved (Vm.Alike.refl U.vm) qT.2.2.2⟩
section
variable {p : Program} {l : Launch} {e : Env} {R : Room} {s : State} {m : MethodId} {args : Array Value} {below : List Frame} {meth : Method} {c : Code} {H : Heap} {locs : List Loc} {cells slots : Nat} {Q : State → Prop}
  {Ts wsY ws' : List Cond} {cc bytes : ByteArray} {nL maxL index n : Nat} {own C : String} {y : MethodName} {ret : Option FieldType} {rm : Room} {b ci : Nat} {As rest st0 : List Value} {D : va_G} {ws wc wr w1 : va_W} {tys tysc : List (ClassId × FieldType)} {A : Nat → Prop} {H0 : Heap} {pc : Nat} {ls : Array Slot} {fs : List Value} {q : vw_C}
theorem cl_Xi {r0 : String ⊕ Int32} {TC : u_T} {NC : Nat} (SF : CallFix p m c cc nL s args Ts own)
    (hM : vx_Met l y wsY rm (va_Pc (.ref b :: As) (bx_PreT D tys wc H.size)) (va_Qi (fun (r : Int32) (_ : Unit) => r0 = Sum.inr r) (fun (_ : Unit) t => bx_Post D tys w1 (va_A wc H.size) t) (va_A wc H.size)) (vx_X (fun (_ : Unit) => True) (fun E (_ : Unit) t => r0 = Sum.inl E ∧ bx_Post D tys w1 (va_A wc H.size) t) (va_A wc H.size)) 1 6 (va_A wc H.size))
    (cw : CallW R s args own C index y bytes maxL ret wsY rm 1 6 n)
    (hK : va_K D vwCl tys s) (hP : va_P D vwCl ws H) (hD : va_D A ws) (hS : va_S A s.heap H locs) (hA : ∀ q, s.heap.size ≤ q → A q) (hT : xThr A s)
    (isC isR : List Nat) (hC : isC.map (fun i => ws[i]?) = wc.map some) (hR : isR.map (fun i => ws[i]?) = wr.map some) (hnR : va_nd isR = true) (hdis : ∀ i ∈ isR, i ∉ isC) (hnC : va_nd isC = true) (hq : vwCl[ci]? = some (C, TC, NC)) (he : wc[0]? = some (b, .inr (ci, fs)))
    (hg : (F0 m pc ls st0).method = m) (hn : As.length = n) (hsize : (F0 m pc ls st0).locals.size = nL) (hst : (F0 m pc ls st0).stack = As.reverse ++ .ref b :: rest) (hW : 2 * (F0 m pc ls st0).monitorRoom + (rest.map fun v => v.category).sum ≤ 8) (hdg : decode cc pc = .ok (.invokevirtual index, 3)) (hf : cells + 1 ≤ R.cells ∧ slots + 6 ≤ R.slots)
    (kx : ∀ (E : String) (ce : Cell) (q9 : Addr) (H1 : Heap) (locs1 : List Loc), r0 = Sum.inl E → va_P D vwCl (wr ++ w1) H1 → va_D A (wr ++ w1) → va_S A s.heap H1 locs1 → H1[q9]? = some ce → ce.vm = .none → s.vm.findClass E = some ce.cls → vx_W p l e R s m args below meth c H1 locs1 (cells + 1) (slots + 6) Q (F0 m pc ls rest) q9)
    (kk : ∀ (r : Int32) (H1 : Heap) (locs1 : List Loc), r0 = Sum.inr r → va_P D vwCl (wr ++ w1) H1 → va_D A (wr ++ w1) → va_S A s.heap H1 locs1 → W p l e R s m args below meth c H1 locs1 (cells + 1) (slots + 6) Q (F0 m (pc + 3) ls (.int r :: rest))) : W p l e R s m args below meth c H locs cells slots Q (F0 m pc ls st0) := by
  have hFc := va_free (wc := wc) hD hS hA isC hC
  have hDc := hD.sub (ws' := wc) isC hnC hC
  have hPc : va_P D vwCl wc H := cl_cut hP hC
  refine vx_calli (vx_runV (As := As) (rest := rest) SF hM cw ⟨bx_blindT, va_recv hK hPc hq he, fun U hU hW => ⟨rfl, by rw [hU], by rw [hU]; exact hPc, va_K.moved hW.alike hK, hDc.weaken (fun _ _ _ _ => trivial), hT.go hS (fun q h => hFc q h) hU hW⟩⟩ hg hn hsize hst hW hdg hf) hS (fun q _ h => hFc q h) hFc (fun q _ h => hFc q h) (fun E ce q9 u t H1 locs1 ht hvm _ hB hz1 hk1 hS hce hcv hcl => ?_) (fun r u t H1 locs1 ht hvm hw hB hz1 hk1 hS => ?_)
  · obtain ⟨hr0, hP1, hK1, hD1⟩ := hB
    rw [ht] at hP1
    obtain ⟨hP2, hD2⟩ := va_join (wr := wr) (w1 := w1) hP hD isC isR hC hR hnR hdis hk1 hFc hP1 hD1
    exact kx E ce q9 H1 locs1 hr0 hP2 hD2 hS hce hcv hcl
  · obtain ⟨hP1, hK1, hD1⟩ := hB
    rw [ht] at hP1
    obtain ⟨hP2, hD2⟩ := va_join (wr := wr) (w1 := w1) hP hD isC isR hC hR hnR hdis hk1 hFc hP1 hD1
    exact kk r H1 locs1 hw hP2 hD2 hS
theorem cl_Xv {r0 : String ⊕ Int32} {TC : u_T} {NC : Nat} (SF : CallFix p m c cc nL s args Ts own)
    (hM : vx_Met l y wsY rm (va_Pc (.ref b :: As) (bx_PreT D tys wc H.size)) (va_Qv (fun (_ : Unit) => r0 = Sum.inr 0) (fun (_ : Unit) t => bx_Post D tys w1 (va_A wc H.size) t) (va_A wc H.size)) (vx_X (fun (_ : Unit) => True) (fun E (_ : Unit) t => r0 = Sum.inl E ∧ bx_Post D tys w1 (va_A wc H.size) t) (va_A wc H.size)) 1 6 (va_A wc H.size))
    (cw : CallW R s args own C index y bytes maxL ret wsY rm 1 6 n)
    (hK : va_K D vwCl tys s) (hP : va_P D vwCl ws H) (hD : va_D A ws) (hS : va_S A s.heap H locs) (hA : ∀ q, s.heap.size ≤ q → A q) (hT : xThr A s)
    (isC isR : List Nat) (hC : isC.map (fun i => ws[i]?) = wc.map some) (hR : isR.map (fun i => ws[i]?) = wr.map some) (hnR : va_nd isR = true) (hdis : ∀ i ∈ isR, i ∉ isC) (hnC : va_nd isC = true) (hq : vwCl[ci]? = some (C, TC, NC)) (he : wc[0]? = some (b, .inr (ci, fs)))
    (hg : (F0 m pc ls st0).method = m) (hn : As.length = n) (hsize : (F0 m pc ls st0).locals.size = nL) (hst : (F0 m pc ls st0).stack = As.reverse ++ .ref b :: rest) (hW : 2 * (F0 m pc ls st0).monitorRoom + (rest.map fun v => v.category).sum ≤ 8) (hdg : decode cc pc = .ok (.invokevirtual index, 3)) (hf : cells + 1 ≤ R.cells ∧ slots + 6 ≤ R.slots)
    (kx : ∀ (E : String) (ce : Cell) (q9 : Addr) (H1 : Heap) (locs1 : List Loc), r0 = Sum.inl E → va_P D vwCl (wr ++ w1) H1 → va_D A (wr ++ w1) → va_S A s.heap H1 locs1 → H1[q9]? = some ce → ce.vm = .none → s.vm.findClass E = some ce.cls → vx_W p l e R s m args below meth c H1 locs1 (cells + 1) (slots + 6) Q (F0 m pc ls rest) q9)
    (kk : ∀ (H1 : Heap) (locs1 : List Loc), r0 = Sum.inr 0 → va_P D vwCl (wr ++ w1) H1 → va_D A (wr ++ w1) → va_S A s.heap H1 locs1 → W p l e R s m args below meth c H1 locs1 (cells + 1) (slots + 6) Q (F0 m (pc + 3) ls (rest))) : W p l e R s m args below meth c H locs cells slots Q (F0 m pc ls st0) := by
  have hFc := va_free (wc := wc) hD hS hA isC hC
  have hDc := hD.sub (ws' := wc) isC hnC hC
  have hPc : va_P D vwCl wc H := cl_cut hP hC
  refine vx_callv (vx_runV (As := As) (rest := rest) SF hM cw ⟨bx_blindT, va_recv hK hPc hq he, fun U hU hW => ⟨rfl, by rw [hU], by rw [hU]; exact hPc, va_K.moved hW.alike hK, hDc.weaken (fun _ _ _ _ => trivial), hT.go hS (fun q h => hFc q h) hU hW⟩⟩ hg hn hsize hst hW hdg hf) hS (fun q _ h => hFc q h) hFc (fun q _ h => hFc q h) (fun E ce q9 u t H1 locs1 ht hvm _ hB hz1 hk1 hS hce hcv hcl => ?_) (fun u t H1 locs1 ht hvm hw hB hz1 hk1 hS => ?_)
  · obtain ⟨hr0, hP1, hK1, hD1⟩ := hB
    rw [ht] at hP1
    obtain ⟨hP2, hD2⟩ := va_join (wr := wr) (w1 := w1) hP hD isC isR hC hR hnR hdis hk1 hFc hP1 hD1
    exact kx E ce q9 H1 locs1 hr0 hP2 hD2 hS hce hcv hcl
  · obtain ⟨hP1, hK1, hD1⟩ := hB
    rw [ht] at hP1
    obtain ⟨hP2, hD2⟩ := va_join (wr := wr) (w1 := w1) hP hD isC isR hC hR hnR hdis hk1 hFc hP1 hD1
    exact kk H1 locs1 hw hP2 hD2 hS
end
section
variable {p : Program} {l : Launch} {e : Env} {R : Room} {s : State} {m : MethodId} {args : Array Value} {below : List Frame} {meth : Method} {c : Code} {H : Heap} {locs : List Loc} {cells slots : Nat} {Q : State → Prop}
  {Ts wsY ws' : List Cond} {cc bytes : ByteArray} {nL maxL index n : Nat} {own C : String} {y : MethodName} {ret : Option FieldType} {rm : Room} {b ci : Nat} {As rest st0 : List Value} {D : va_G} {ws wc wr w1 : va_W} {tys tysc : List (ClassId × FieldType)} {A : Nat → Prop} {H0 : Heap} {pc : Nat} {ls : Array Slot} {fs : List Value} {q : vw_C}
/-- a static call that reads and writes no cell -/
theorem gl_Si0 {r0 : Int32} (SF : CallFix p m c cc nL s args Ts own)
    (hM : Met l y wsY rm (va_Pc As (bx_Pre D [] [] H.size)) (va_Qi (fun (r : Int32) (_ : Unit) => r = r0) (fun (_ : Unit) t => bx_Post D [] [] (va_A [] H.size) t) (va_A [] H.size)) 0 0 (va_A [] H.size))
    (cw : CallB R s args own index y bytes maxL ret wsY rm 0 0 n ∧ (Cond.static y).before args s = true)
    (hK : va_K D vwCl tys s) (hP : va_P D vwCl ws H) (hD : va_D A ws) (hS : va_S A H0 H locs) (hA : ∀ q, H0.size ≤ q → A q)
    (hg : (F0 m pc ls st0).method = m) (hn : As.length = n) (hsize : (F0 m pc ls st0).locals.size = nL) (hst : (F0 m pc ls st0).stack = As.reverse ++ rest) (hW : 2 * (F0 m pc ls st0).monitorRoom + (rest.map fun v => v.category).sum ≤ 8) (hdg : decode cc pc = .ok (.invokestatic index, 3)) (hf : cells + 0 ≤ R.cells ∧ slots + 0 ≤ R.slots)
    (kk : ∀ (H1 : Heap) (locs1 : List Loc), va_P D vwCl ws H1 → va_D A ws → va_S A H0 H1 locs1 → W p l e R s m args below meth c H1 locs1 cells slots Q (F0 m (pc + 3) ls (.int r0 :: rest))) : W p l e R s m args below meth c H locs cells slots Q (F0 m pc ls st0) := by
  have hFc := va_free (wc := []) hD hS hA [] rfl
  have hKc := hK.sub (tys' := []) [] rfl
  have hPc : va_P D vwCl [] H := fun k q h => by simp at h
  have hDc : va_D (fun _ => True) [] := ⟨fun i j p q h => by simp at h, fun k q h => by simp at h⟩
  refine va_calli (va_runS (As := As) (rest := rest) SF hM cw ⟨bx_blind, fun U hU hW => ⟨rfl, by rw [hU], by rw [hU]; exact hPc, va_K.moved hW.alike hKc, hDc⟩⟩ hg hn hsize hst hW hdg hf) hS (fun q _ h => hFc q h) hFc (fun r u t H1 locs1 ht hvm hw hB hz1 hk1 hS => ?_)
  have hw : r = r0 := hw
  subst hw
  refine kk H1 locs1 (hP.kept (fun k q hk => hk1 q.1 (hP k q hk).lt ?_)) hD hS
  rintro (⟨k9, e9, h9⟩ | h9)
  · simp at h9
  · exact absurd (hP k q hk).lt (Nat.not_lt.mpr h9)

theorem gl_Vi {r0 : Int32} {TC : u_T} {NC : Nat} (SF : CallFix p m c cc nL s args Ts own)
    (hM : Met l y wsY rm (va_Pc (.ref b :: As) (bx_Pre D tys wc H.size)) (va_Qi (fun (r : Int32) (_ : Unit) => r = r0) (fun (_ : Unit) t => bx_Post D tys w1 (va_A wc H.size) t) (va_A wc H.size)) 0 0 (va_A wc H.size))
    (cw : CallW R s args own C index y bytes maxL ret wsY rm 0 0 n)
    (hK : va_K D vwCl tys s) (hP : va_P D vwCl ws H) (hD : va_D A ws) (hS : va_S A H0 H locs) (hA : ∀ q, H0.size ≤ q → A q)
    (isC isR : List Nat) (hC : isC.map (fun i => ws[i]?) = wc.map some) (hR : isR.map (fun i => ws[i]?) = wr.map some) (hnR : va_nd isR = true) (hdis : ∀ i ∈ isR, i ∉ isC) (hnC : va_nd isC = true) (hq : vwCl[ci]? = some (C, TC, NC)) (he : wc[0]? = some (b, .inr (ci, fs)))
    (hg : (F0 m pc ls st0).method = m) (hn : As.length = n) (hsize : (F0 m pc ls st0).locals.size = nL) (hst : (F0 m pc ls st0).stack = As.reverse ++ .ref b :: rest) (hW : 2 * (F0 m pc ls st0).monitorRoom + (rest.map fun v => v.category).sum ≤ 8) (hdg : decode cc pc = .ok (.invokevirtual index, 3)) (hf : cells + 0 ≤ R.cells ∧ slots + 0 ≤ R.slots)
    (kk : ∀ (H1 : Heap) (locs1 : List Loc), va_P D vwCl (wr ++ w1) H1 → va_D A (wr ++ w1) → va_S A H0 H1 locs1 → W p l e R s m args below meth c H1 locs1 cells slots Q (F0 m (pc + 3) ls (.int r0 :: rest))) : W p l e R s m args below meth c H locs cells slots Q (F0 m pc ls st0) := by
  have hFc := va_free (wc := wc) hD hS hA isC hC
  have hDc := hD.sub (ws' := wc) isC hnC hC
  have hPc : va_P D vwCl wc H := cl_cut hP hC
  refine va_calli (va_runV (As := As) (rest := rest) SF hM cw ⟨bx_blind, va_recv hK hPc hq he, fun U hU hW => ⟨rfl, by rw [hU], by rw [hU]; exact hPc, va_K.moved hW.alike hK, hDc.weaken (fun _ _ _ _ => trivial)⟩⟩ hg hn hsize hst hW hdg hf) hS (fun q _ h => hFc q h) hFc (fun r u t H1 locs1 ht hvm hw hB hz1 hk1 hS => ?_)
  have hw : r = r0 := hw
  subst hw
  obtain ⟨hP1, hK1, hD1⟩ := hB
  rw [ht] at hP1
  obtain ⟨hP2, hD2⟩ := va_join (wr := wr) (w1 := w1) hP hD isC isR hC hR hnR hdis hk1 hFc hP1 hD1
  exact kk H1 locs1 hP2 hD2 hS

theorem gl_Vv {TC : u_T} {NC : Nat} (SF : CallFix p m c cc nL s args Ts own)
    (hM : Met l y wsY rm (va_Pc (.ref b :: As) (bx_Pre D tys wc H.size)) (va_Qv (fun (_ : Unit) => True) (fun (_ : Unit) t => bx_Post D tys w1 (va_A wc H.size) t) (va_A wc H.size)) 0 0 (va_A wc H.size))
    (cw : CallW R s args own C index y bytes maxL ret wsY rm 0 0 n)
    (hK : va_K D vwCl tys s) (hP : va_P D vwCl ws H) (hD : va_D A ws) (hS : va_S A H0 H locs) (hA : ∀ q, H0.size ≤ q → A q)
    (isC isR : List Nat) (hC : isC.map (fun i => ws[i]?) = wc.map some) (hR : isR.map (fun i => ws[i]?) = wr.map some) (hnR : va_nd isR = true) (hdis : ∀ i ∈ isR, i ∉ isC) (hnC : va_nd isC = true) (hq : vwCl[ci]? = some (C, TC, NC)) (he : wc[0]? = some (b, .inr (ci, fs)))
    (hg : (F0 m pc ls st0).method = m) (hn : As.length = n) (hsize : (F0 m pc ls st0).locals.size = nL) (hst : (F0 m pc ls st0).stack = As.reverse ++ .ref b :: rest) (hW : 2 * (F0 m pc ls st0).monitorRoom + (rest.map fun v => v.category).sum ≤ 8) (hdg : decode cc pc = .ok (.invokevirtual index, 3)) (hf : cells + 0 ≤ R.cells ∧ slots + 0 ≤ R.slots)
    (kk : ∀ (H1 : Heap) (locs1 : List Loc), va_P D vwCl (wr ++ w1) H1 → va_D A (wr ++ w1) → va_S A H0 H1 locs1 → W p l e R s m args below meth c H1 locs1 cells slots Q (F0 m (pc + 3) ls (rest))) : W p l e R s m args below meth c H locs cells slots Q (F0 m pc ls st0) := by
  have hFc := va_free (wc := wc) hD hS hA isC hC
  have hDc := hD.sub (ws' := wc) isC hnC hC
  have hPc : va_P D vwCl wc H := cl_cut hP hC
  refine va_callv (va_runV (As := As) (rest := rest) SF hM cw ⟨bx_blind, va_recv hK hPc hq he, fun U hU hW => ⟨rfl, by rw [hU], by rw [hU]; exact hPc, va_K.moved hW.alike hK, hDc.weaken (fun _ _ _ _ => trivial)⟩⟩ hg hn hsize hst hW hdg hf) hS (fun q _ h => hFc q h) hFc (fun u t H1 locs1 ht hvm hw hB hz1 hk1 hS => ?_)
  have _ := hw
  obtain ⟨hP1, hK1, hD1⟩ := hB
  rw [ht] at hP1
  obtain ⟨hP2, hD2⟩ := va_join (wr := wr) (w1 := w1) hP hD isC isR hC hR hnR hdis hk1 hFc hP1 hD1
  exact kk H1 locs1 hP2 hD2 hS

theorem gl_Si {r0 : Int32} (SF : CallFix p m c cc nL s args Ts own)
    (hM : Met l y wsY rm (va_Pc As (bx_Pre D tys wc H.size)) (va_Qi (fun (r : Int32) (_ : Unit) => r = r0) (fun (_ : Unit) t => bx_Post D tys w1 (va_A wc H.size) t) (va_A wc H.size)) 0 0 (va_A wc H.size))
    (cw : CallB R s args own index y bytes maxL ret wsY rm 0 0 n ∧ (Cond.static y).before args s = true)
    (hK : va_K D vwCl tys s) (hP : va_P D vwCl ws H) (hD : va_D A ws) (hS : va_S A H0 H locs) (hA : ∀ q, H0.size ≤ q → A q)
    (isC isR : List Nat) (hC : isC.map (fun i => ws[i]?) = wc.map some) (hR : isR.map (fun i => ws[i]?) = wr.map some) (hnR : va_nd isR = true) (hdis : ∀ i ∈ isR, i ∉ isC) (hnC : va_nd isC = true)
    (hg : (F0 m pc ls st0).method = m) (hn : As.length = n) (hsize : (F0 m pc ls st0).locals.size = nL) (hst : (F0 m pc ls st0).stack = As.reverse ++ rest) (hW : 2 * (F0 m pc ls st0).monitorRoom + (rest.map fun v => v.category).sum ≤ 8) (hdg : decode cc pc = .ok (.invokestatic index, 3)) (hf : cells + 0 ≤ R.cells ∧ slots + 0 ≤ R.slots)
    (kk : ∀ (H1 : Heap) (locs1 : List Loc), va_P D vwCl (wr ++ w1) H1 → va_D A (wr ++ w1) → va_S A H0 H1 locs1 → W p l e R s m args below meth c H1 locs1 cells slots Q (F0 m (pc + 3) ls (.int r0 :: rest))) : W p l e R s m args below meth c H locs cells slots Q (F0 m pc ls st0) := by
  have hFc := va_free (wc := wc) hD hS hA isC hC
  have hDc := hD.sub (ws' := wc) isC hnC hC
  have hPc : va_P D vwCl wc H := cl_cut hP hC
  refine va_calli (va_runS (As := As) (rest := rest) SF hM cw ⟨bx_blind, fun U hU hW => ⟨rfl, by rw [hU], by rw [hU]; exact hPc, va_K.moved hW.alike hK, hDc.weaken (fun _ _ _ _ => trivial)⟩⟩ hg hn hsize hst hW hdg hf) hS (fun q _ h => hFc q h) hFc (fun r u t H1 locs1 ht hvm hw hB hz1 hk1 hS => ?_)
  have hw : r = r0 := hw
  subst hw
  obtain ⟨hP1, hK1, hD1⟩ := hB
  rw [ht] at hP1
  obtain ⟨hP2, hD2⟩ := va_join (wr := wr) (w1 := w1) hP hD isC isR hC hR hnR hdis hk1 hFc hP1 hD1
  exact kk H1 locs1 hP2 hD2 hS

theorem gl_W0 {r0 : Int32} {hh : List (Nat × Nat × Nat × Nat)} (SF : CallFix p m c cc nL s args Ts own)
    (hM : Met l y wsY rm (va_Pc As (bx_Pre D tys wc H.size)) (va_Qi (fun (r : Int32) (_ : Unit) => r = r0) (fun (_ : Unit) t => bx_Post D tys w1 (va_A wc H.size) t) (va_A wc H.size)) 0 0 (va_A wc H.size))
    (cw : vx_CSW R s args own index y bytes maxL ret hh wsY rm 0 0 n)
    (hK : va_K D vwCl tys s) (hP : va_P D vwCl ws H) (hD : va_D A ws) (hS : va_S A H0 H locs) (hA : ∀ q, H0.size ≤ q → A q)
    (isC isR : List Nat) (hC : isC.map (fun i => ws[i]?) = wc.map some) (hR : isR.map (fun i => ws[i]?) = wr.map some) (hnR : va_nd isR = true) (hdis : ∀ i ∈ isR, i ∉ isC) (hnC : va_nd isC = true)
    (hg : (F0 m pc ls st0).method = m) (hn : As.length = n) (hsize : (F0 m pc ls st0).locals.size = nL) (hst : (F0 m pc ls st0).stack = As.reverse ++ rest) (hW : 2 * (F0 m pc ls st0).monitorRoom + (rest.map fun v => v.category).sum ≤ 8) (hdg : decode cc pc = .ok (.invokestatic index, 3)) (hf : cells + 0 ≤ R.cells ∧ slots + 0 ≤ R.slots)
    (kk : ∀ (H1 : Heap) (locs1 : List Loc), va_P D vwCl (wr ++ w1) H1 → va_D A (wr ++ w1) → va_S A H0 H1 locs1 → W p l e R s m args below meth c H1 locs1 cells slots Q (F0 m (pc + 3) ls (.int r0 :: rest))) : W p l e R s m args below meth c H locs cells slots Q (F0 m pc ls st0) := by
  have hFc := va_free (wc := wc) hD hS hA isC hC
  have hDc := hD.sub (ws' := wc) isC hnC hC
  have hPc : va_P D vwCl wc H := cl_cut hP hC
  refine va_calli (vx_runSW (As := As) (rest := rest) SF hM cw ⟨bx_blind, fun U hU hW => ⟨rfl, by rw [hU], by rw [hU]; exact hPc, va_K.moved hW.alike hK, hDc.weaken (fun _ _ _ _ => trivial)⟩⟩ hg hn hsize hst hW hdg hf) hS (fun q _ h => hFc q h) hFc (fun r u t H1 locs1 ht hvm hw hB hz1 hk1 hS => ?_)
  have hw : r = r0 := hw
  subst hw
  obtain ⟨hP1, hK1, hD1⟩ := hB
  rw [ht] at hP1
  obtain ⟨hP2, hD2⟩ := va_join (wr := wr) (w1 := w1) hP hD isC isR hC hR hnR hdis hk1 hFc hP1 hD1
  exact kk H1 locs1 hP2 hD2 hS

theorem gl_W1 {r0 : Int32} {hh : List (Nat × Nat × Nat × Nat)} (SF : CallFix p m c cc nL s args Ts own)
    (hM : Met l y wsY rm (va_Pc As (bx_PreL D tys wc H.size)) (va_Qi (fun (r : Int32) (_ : Unit) => r = r0) (fun (_ : Unit) t => bx_Post D tys w1 (va_A wc H.size) t) (va_A wc H.size)) 1 6 (va_A wc H.size))
    (cw : vx_CSW R s args own index y bytes maxL ret hh wsY rm 1 6 n)
    (hK : va_K D vwCl tys s) (hP : va_P D vwCl ws H) (hD : va_D A ws) (hS : va_S A s.heap H locs) (hA : ∀ q, s.heap.size ≤ q → A q) (hT : xThrL A s)
    (isC isR : List Nat) (hC : isC.map (fun i => ws[i]?) = wc.map some) (hR : isR.map (fun i => ws[i]?) = wr.map some) (hnR : va_nd isR = true) (hdis : ∀ i ∈ isR, i ∉ isC) (hnC : va_nd isC = true)
    (hg : (F0 m pc ls st0).method = m) (hn : As.length = n) (hsize : (F0 m pc ls st0).locals.size = nL) (hst : (F0 m pc ls st0).stack = As.reverse ++ rest) (hW : 2 * (F0 m pc ls st0).monitorRoom + (rest.map fun v => v.category).sum ≤ 8) (hdg : decode cc pc = .ok (.invokestatic index, 3)) (hf : cells + 1 ≤ R.cells ∧ slots + 6 ≤ R.slots)
    (kk : ∀ (H1 : Heap) (locs1 : List Loc), va_P D vwCl (wr ++ w1) H1 → va_D A (wr ++ w1) → va_S A s.heap H1 locs1 → W p l e R s m args below meth c H1 locs1 (cells + 1) (slots + 6) Q (F0 m (pc + 3) ls (.int r0 :: rest))) : W p l e R s m args below meth c H locs cells slots Q (F0 m pc ls st0) := by
  have hFc := va_free (wc := wc) hD hS hA isC hC
  have hDc := hD.sub (ws' := wc) isC hnC hC
  have hPc : va_P D vwCl wc H := cl_cut hP hC
  refine va_calli (vx_runSW (As := As) (rest := rest) SF hM cw ⟨bx_blindL, fun U hU hW => ⟨rfl, by rw [hU], by rw [hU]; exact hPc, va_K.moved hW.alike hK, hDc.weaken (fun _ _ _ _ => trivial), hT.go hS (fun q h => hFc q h) hU hW⟩⟩ hg hn hsize hst hW hdg hf) hS (fun q _ h => hFc q h) hFc (fun r u t H1 locs1 ht hvm hw hB hz1 hk1 hS => ?_)
  have hw : r = r0 := hw
  subst hw
  obtain ⟨hP1, hK1, hD1⟩ := hB
  rw [ht] at hP1
  obtain ⟨hP2, hD2⟩ := va_join (wr := wr) (w1 := w1) hP hD isC isR hC hR hnR hdis hk1 hFc hP1 hD1
  exact kk H1 locs1 hP2 hD2 hS

theorem gl_L {r0 : Int32} {mc ms : Nat} (SF : CallFix p m c cc nL s args Ts own)
    (hM : Met l y wsY rm (va_Pc As (bx_PreL D tys wc H.size)) (va_Qi (fun (r : Int32) (_ : Unit) => r = r0) (fun (_ : Unit) t => bx_Post D tys w1 (va_A wc H.size) t) (va_A wc H.size)) mc ms (va_A wc H.size))
    (cw : CallB R s args own index y bytes maxL ret wsY rm mc ms n ∧ (Cond.static y).before args s = true)
    (hK : va_K D vwCl tys s) (hP : va_P D vwCl ws H) (hD : va_D A ws) (hS : va_S A s.heap H locs) (hA : ∀ q, s.heap.size ≤ q → A q) (hT : xThrL A s)
    (isC isR : List Nat) (hC : isC.map (fun i => ws[i]?) = wc.map some) (hR : isR.map (fun i => ws[i]?) = wr.map some) (hnR : va_nd isR = true) (hdis : ∀ i ∈ isR, i ∉ isC) (hnC : va_nd isC = true)
    (hg : (F0 m pc ls st0).method = m) (hn : As.length = n) (hsize : (F0 m pc ls st0).locals.size = nL) (hst : (F0 m pc ls st0).stack = As.reverse ++ rest) (hW : 2 * (F0 m pc ls st0).monitorRoom + (rest.map fun v => v.category).sum ≤ 8) (hdg : decode cc pc = .ok (.invokestatic index, 3)) (hf : cells + mc ≤ R.cells ∧ slots + ms ≤ R.slots)
    (kk : ∀ (H1 : Heap) (locs1 : List Loc), va_P D vwCl (wr ++ w1) H1 → va_D A (wr ++ w1) → va_S A s.heap H1 locs1 → W p l e R s m args below meth c H1 locs1 (cells + mc) (slots + ms) Q (F0 m (pc + 3) ls (.int r0 :: rest))) : W p l e R s m args below meth c H locs cells slots Q (F0 m pc ls st0) := by
  have hFc := va_free (wc := wc) hD hS hA isC hC
  have hDc := hD.sub (ws' := wc) isC hnC hC
  have hPc : va_P D vwCl wc H := cl_cut hP hC
  refine va_calli (va_runS (As := As) (rest := rest) SF hM cw ⟨bx_blindL, fun U hU hW => ⟨rfl, by rw [hU], by rw [hU]; exact hPc, va_K.moved hW.alike hK, hDc.weaken (fun _ _ _ _ => trivial), hT.go hS (fun q h => hFc q h) hU hW⟩⟩ hg hn hsize hst hW hdg hf) hS (fun q _ h => hFc q h) hFc (fun r u t H1 locs1 ht hvm hw hB hz1 hk1 hS => ?_)
  have hw : r = r0 := hw
  subst hw
  obtain ⟨hP1, hK1, hD1⟩ := hB
  rw [ht] at hP1
  obtain ⟨hP2, hD2⟩ := va_join (wr := wr) (w1 := w1) hP hD isC isR hC hR hnR hdis hk1 hFc hP1 hD1
  exact kk H1 locs1 hP2 hD2 hS

theorem gl_T {w1 : Nat → va_W} {mc ms : Nat} (SF : CallFix p m c cc nL s args Ts own)
    (hM : Met l y wsY rm (va_Pc As (bx_Pre D tys wc H.size)) (va_Qr (fun (_ : Unit) => True) (fun (_ : Unit) a t => bx_Post D tys (w1 a) (va_A wc H.size) t) (va_A wc H.size)) mc ms (va_A wc H.size))
    (cw : CallB R s args own index y bytes maxL ret wsY rm mc ms n ∧ (Cond.static y).before args s = true)
    (hK : va_K D vwCl tys s) (hP : va_P D vwCl ws H) (hD : va_D A ws) (hS : va_S A H0 H locs) (hA : ∀ q, H0.size ≤ q → A q)
    (isC isR : List Nat) (hC : isC.map (fun i => ws[i]?) = wc.map some) (hR : isR.map (fun i => ws[i]?) = wr.map some) (hnR : va_nd isR = true) (hdis : ∀ i ∈ isR, i ∉ isC) (hnC : va_nd isC = true)
    (hg : (F0 m pc ls st0).method = m) (hn : As.length = n) (hsize : (F0 m pc ls st0).locals.size = nL) (hst : (F0 m pc ls st0).stack = As.reverse ++ rest) (hW : 2 * (F0 m pc ls st0).monitorRoom + (rest.map fun v => v.category).sum ≤ 8) (hdg : decode cc pc = .ok (.invokestatic index, 3)) (hf : cells + mc ≤ R.cells ∧ slots + ms ≤ R.slots)
    (kk : ∀ (ra : Nat) (H1 : Heap) (locs1 : List Loc), va_P D vwCl (wr ++ (w1 ra)) H1 → va_D A (wr ++ (w1 ra)) → va_S A H0 H1 locs1 → W p l e R s m args below meth c H1 locs1 (cells + mc) (slots + ms) Q (F0 m (pc + 3) ls (.ref ra :: rest))) : W p l e R s m args below meth c H locs cells slots Q (F0 m pc ls st0) := by
  have hFc := va_free (wc := wc) hD hS hA isC hC
  have hDc := hD.sub (ws' := wc) isC hnC hC
  have hPc : va_P D vwCl wc H := cl_cut hP hC
  refine va_callr (va_runS (As := As) (rest := rest) SF hM cw ⟨bx_blind, fun U hU hW => ⟨rfl, by rw [hU], by rw [hU]; exact hPc, va_K.moved hW.alike hK, hDc.weaken (fun _ _ _ _ => trivial)⟩⟩ hg hn hsize hst hW hdg hf) hS (fun q _ h => hFc q h) hFc (fun u ra t H1 locs1 ht hvm hw hB hz1 hk1 hS => ?_)
  have _ := hw
  obtain ⟨hP1, hK1, hD1⟩ := hB
  rw [ht] at hP1
  obtain ⟨hP2, hD2⟩ := va_join (wr := wr) (w1 := (w1 ra)) hP hD isC isR hC hR hnR hdis hk1 hFc hP1 hD1
  exact kk ra H1 locs1 hP2 hD2 hS

end
def wr1 (c : Int32) (r : String ⊕ Int32) : Int32 := match r with
  | .inr r => r
  | .inl _ => c
def wr2 (E : String) (c d : Int32) (r : String ⊕ Int32) : Int32 := match r with
  | .inr r => r
  | .inl e => if e = E then c else d
def wb1 (c : Int32) (r : String ⊕ Int32) : Int32 := match r with
  | .inr r => if r = 0 then 0 else 1
  | .inl _ => c
def wb2 (E : String) (c d : Int32) (r : String ⊕ Int32) : Int32 := match r with
  | .inr r => if r = 0 then 0 else 1
  | .inl e => if e = E then c else d
theorem wr2_1 {E : String} {c d : Int32} : wr2 E c d (.inl E) = c := if_pos rfl
theorem wr2_2 {E E2 : String} {c d : Int32} (h : ¬ E2 = E) : wr2 E c d (.inl E2) = d := if_neg h
theorem wb2_1 {E : String} {c d : Int32} : wb2 E c d (.inl E) = c := if_pos rfl
theorem wb2_2 {E E2 : String} {c d : Int32} (h : ¬ E2 = E) : wb2 E c d (.inl E2) = d := if_neg h
def bw0 {α : Type} (E1 E2 : String) (e : Option ((String ⊕ Int32))) (f : (String ⊕ Int32) → Option α) : Option α := match e with
  | none => none
  | some (.inr r) => f (.inr r)
  | some (.inl E) => if E = E1 ∨ E = E2 then f (.inl E) else none
theorem bw0_some {α : Type} {E1 E2 : String} {e : Option ((String ⊕ Int32))} {f : (String ⊕ Int32) → Option α} {r : α} (h : bw0 E1 E2 e f = some r) : ∃ r0, e = some (r0) ∧ (∀ E, r0 = .inl E → E = E1 ∨ E = E2) ∧ f r0 = some r := by
  rcases e with _ | x
  · cases h
  · rcases x with E | q
    · have h : (if E = E1 ∨ E = E2 then f (.inl E) else none) = some r := h
      by_cases q : E = E1 ∨ E = E2
      · rw [if_pos q] at h
        exact ⟨.inl E, rfl, fun E' z => by cases z; exact q, h⟩
      · rw [if_neg q] at h; cases h
    · exact ⟨.inr q, rfl, (fun E z => by cases z), h⟩
def br0 {α : Type} (e : Option ((String ⊕ Int32))) (f : Int32 → Option α) : Option α := match e with
  | some (.inr r) => f r
  | _ => none
theorem br0_some {α : Type} {e : Option ((String ⊕ Int32))} {f : Int32 → Option α} {r : α} (h : br0 e f = some r) : ∃ r0, e = some (.inr r0) ∧ f r0 = some r := by
  rcases e with _ | x
  · cases h
  · rcases x with E | q
    · cases h
    · exact ⟨q, rfl, h⟩
def bw1 {α t0 : Type} (E1 E2 : String) (e : Option ((String ⊕ Int32) × t0)) (f : (String ⊕ Int32) → t0 → Option α) : Option α := match e with
  | none => none
  | some (.inr r, x0) => f (.inr r) x0
  | some (.inl E, x0) => if E = E1 ∨ E = E2 then f (.inl E) x0 else none
theorem bw1_some {α t0 : Type} {E1 E2 : String} {e : Option ((String ⊕ Int32) × t0)} {f : (String ⊕ Int32) → t0 → Option α} {r : α} (h : bw1 E1 E2 e f = some r) : ∃ r0 x0, e = some (r0, x0) ∧ (∀ E, r0 = .inl E → E = E1 ∨ E = E2) ∧ f r0 x0 = some r := by
  rcases e with _ | ⟨x, x0⟩
  · cases h
  · rcases x with E | q
    · have h : (if E = E1 ∨ E = E2 then f (.inl E) x0 else none) = some r := h
      by_cases q : E = E1 ∨ E = E2
      · rw [if_pos q] at h
        exact ⟨.inl E, x0, rfl, fun E' z => by cases z; exact q, h⟩
      · rw [if_neg q] at h; cases h
    · exact ⟨.inr q, x0, rfl, (fun E z => by cases z), h⟩
def br1 {α t0 : Type} (e : Option ((String ⊕ Int32) × t0)) (f : Int32 → t0 → Option α) : Option α := match e with
  | some (.inr r, x0) => f r x0
  | _ => none
theorem br1_some {α t0 : Type} {e : Option ((String ⊕ Int32) × t0)} {f : Int32 → t0 → Option α} {r : α} (h : br1 e f = some r) : ∃ r0 x0, e = some (.inr r0, x0) ∧ f r0 x0 = some r := by
  rcases e with _ | ⟨x, x0⟩
  · cases h
  · rcases x with E | q
    · cases h
    · exact ⟨q, x0, rfl, h⟩
def bw2 {α t0 t1 : Type} (E1 E2 : String) (e : Option ((String ⊕ Int32) × t0 × t1)) (f : (String ⊕ Int32) → t0 → t1 → Option α) : Option α := match e with
  | none => none
  | some (.inr r, x0, x1) => f (.inr r) x0 x1
  | some (.inl E, x0, x1) => if E = E1 ∨ E = E2 then f (.inl E) x0 x1 else none
theorem bw2_some {α t0 t1 : Type} {E1 E2 : String} {e : Option ((String ⊕ Int32) × t0 × t1)} {f : (String ⊕ Int32) → t0 → t1 → Option α} {r : α} (h : bw2 E1 E2 e f = some r) : ∃ r0 x0 x1, e = some (r0, x0, x1) ∧ (∀ E, r0 = .inl E → E = E1 ∨ E = E2) ∧ f r0 x0 x1 = some r := by
  rcases e with _ | ⟨x, x0, x1⟩
  · cases h
  · rcases x with E | q
    · have h : (if E = E1 ∨ E = E2 then f (.inl E) x0 x1 else none) = some r := h
      by_cases q : E = E1 ∨ E = E2
      · rw [if_pos q] at h
        exact ⟨.inl E, x0, x1, rfl, fun E' z => by cases z; exact q, h⟩
      · rw [if_neg q] at h; cases h
    · exact ⟨.inr q, x0, x1, rfl, (fun E z => by cases z), h⟩
def br2 {α t0 t1 : Type} (e : Option ((String ⊕ Int32) × t0 × t1)) (f : Int32 → t0 → t1 → Option α) : Option α := match e with
  | some (.inr r, x0, x1) => f r x0 x1
  | _ => none
theorem br2_some {α t0 t1 : Type} {e : Option ((String ⊕ Int32) × t0 × t1)} {f : Int32 → t0 → t1 → Option α} {r : α} (h : br2 e f = some r) : ∃ r0 x0 x1, e = some (.inr r0, x0, x1) ∧ f r0 x0 x1 = some r := by
  rcases e with _ | ⟨x, x0, x1⟩
  · cases h
  · rcases x with E | q
    · cases h
    · exact ⟨q, x0, x1, rfl, h⟩
def bw6 {α t0 t1 t2 t3 t4 t5 : Type} (E1 E2 : String) (e : Option ((String ⊕ Int32) × t0 × t1 × t2 × t3 × t4 × t5)) (f : (String ⊕ Int32) → t0 → t1 → t2 → t3 → t4 → t5 → Option α) : Option α := match e with
  | none => none
  | some (.inr r, x0, x1, x2, x3, x4, x5) => f (.inr r) x0 x1 x2 x3 x4 x5
  | some (.inl E, x0, x1, x2, x3, x4, x5) => if E = E1 ∨ E = E2 then f (.inl E) x0 x1 x2 x3 x4 x5 else none
theorem bw6_some {α t0 t1 t2 t3 t4 t5 : Type} {E1 E2 : String} {e : Option ((String ⊕ Int32) × t0 × t1 × t2 × t3 × t4 × t5)} {f : (String ⊕ Int32) → t0 → t1 → t2 → t3 → t4 → t5 → Option α} {r : α} (h : bw6 E1 E2 e f = some r) : ∃ r0 x0 x1 x2 x3 x4 x5, e = some (r0, x0, x1, x2, x3, x4, x5) ∧ (∀ E, r0 = .inl E → E = E1 ∨ E = E2) ∧ f r0 x0 x1 x2 x3 x4 x5 = some r := by
  rcases e with _ | ⟨x, x0, x1, x2, x3, x4, x5⟩
  · cases h
  · rcases x with E | q
    · have h : (if E = E1 ∨ E = E2 then f (.inl E) x0 x1 x2 x3 x4 x5 else none) = some r := h
      by_cases q : E = E1 ∨ E = E2
      · rw [if_pos q] at h
        exact ⟨.inl E, x0, x1, x2, x3, x4, x5, rfl, fun E' z => by cases z; exact q, h⟩
      · rw [if_neg q] at h; cases h
    · exact ⟨.inr q, x0, x1, x2, x3, x4, x5, rfl, (fun E z => by cases z), h⟩
def br6 {α t0 t1 t2 t3 t4 t5 : Type} (e : Option ((String ⊕ Int32) × t0 × t1 × t2 × t3 × t4 × t5)) (f : Int32 → t0 → t1 → t2 → t3 → t4 → t5 → Option α) : Option α := match e with
  | some (.inr r, x0, x1, x2, x3, x4, x5) => f r x0 x1 x2 x3 x4 x5
  | _ => none
theorem br6_some {α t0 t1 t2 t3 t4 t5 : Type} {e : Option ((String ⊕ Int32) × t0 × t1 × t2 × t3 × t4 × t5)} {f : Int32 → t0 → t1 → t2 → t3 → t4 → t5 → Option α} {r : α} (h : br6 e f = some r) : ∃ r0 x0 x1 x2 x3 x4 x5, e = some (.inr r0, x0, x1, x2, x3, x4, x5) ∧ f r0 x0 x1 x2 x3 x4 x5 = some r := by
  rcases e with _ | ⟨x, x0, x1, x2, x3, x4, x5⟩
  · cases h
  · rcases x with E | q
    · cases h
    · exact ⟨q, x0, x1, x2, x3, x4, x5, rfl, h⟩
def bw8 {α t0 t1 t2 t3 t4 t5 t6 t7 : Type} (E1 E2 : String) (e : Option ((String ⊕ Int32) × t0 × t1 × t2 × t3 × t4 × t5 × t6 × t7)) (f : (String ⊕ Int32) → t0 → t1 → t2 → t3 → t4 → t5 → t6 → t7 → Option α) : Option α := match e with
  | none => none
  | some (.inr r, x0, x1, x2, x3, x4, x5, x6, x7) => f (.inr r) x0 x1 x2 x3 x4 x5 x6 x7
  | some (.inl E, x0, x1, x2, x3, x4, x5, x6, x7) => if E = E1 ∨ E = E2 then f (.inl E) x0 x1 x2 x3 x4 x5 x6 x7 else none
theorem bw8_some {α t0 t1 t2 t3 t4 t5 t6 t7 : Type} {E1 E2 : String} {e : Option ((String ⊕ Int32) × t0 × t1 × t2 × t3 × t4 × t5 × t6 × t7)} {f : (String ⊕ Int32) → t0 → t1 → t2 → t3 → t4 → t5 → t6 → t7 → Option α} {r : α} (h : bw8 E1 E2 e f = some r) : ∃ r0 x0 x1 x2 x3 x4 x5 x6 x7, e = some (r0, x0, x1, x2, x3, x4, x5, x6, x7) ∧ (∀ E, r0 = .inl E → E = E1 ∨ E = E2) ∧ f r0 x0 x1 x2 x3 x4 x5 x6 x7 = some r := by
  rcases e with _ | ⟨x, x0, x1, x2, x3, x4, x5, x6, x7⟩
  · cases h
  · rcases x with E | q
    · have h : (if E = E1 ∨ E = E2 then f (.inl E) x0 x1 x2 x3 x4 x5 x6 x7 else none) = some r := h
      by_cases q : E = E1 ∨ E = E2
      · rw [if_pos q] at h
        exact ⟨.inl E, x0, x1, x2, x3, x4, x5, x6, x7, rfl, fun E' z => by cases z; exact q, h⟩
      · rw [if_neg q] at h; cases h
    · exact ⟨.inr q, x0, x1, x2, x3, x4, x5, x6, x7, rfl, (fun E z => by cases z), h⟩
def br8 {α t0 t1 t2 t3 t4 t5 t6 t7 : Type} (e : Option ((String ⊕ Int32) × t0 × t1 × t2 × t3 × t4 × t5 × t6 × t7)) (f : Int32 → t0 → t1 → t2 → t3 → t4 → t5 → t6 → t7 → Option α) : Option α := match e with
  | some (.inr r, x0, x1, x2, x3, x4, x5, x6, x7) => f r x0 x1 x2 x3 x4 x5 x6 x7
  | _ => none
theorem br8_some {α t0 t1 t2 t3 t4 t5 t6 t7 : Type} {e : Option ((String ⊕ Int32) × t0 × t1 × t2 × t3 × t4 × t5 × t6 × t7)} {f : Int32 → t0 → t1 → t2 → t3 → t4 → t5 → t6 → t7 → Option α} {r : α} (h : br8 e f = some r) : ∃ r0 x0 x1 x2 x3 x4 x5 x6 x7, e = some (.inr r0, x0, x1, x2, x3, x4, x5, x6, x7) ∧ f r0 x0 x1 x2 x3 x4 x5 x6 x7 = some r := by
  rcases e with _ | ⟨x, x0, x1, x2, x3, x4, x5, x6, x7⟩
  · cases h
  · rcases x with E | q
    · cases h
    · exact ⟨q, x0, x1, x2, x3, x4, x5, x6, x7, rfl, h⟩
def bnd5 {α a1 a2 a3 a4 a5 : Type} (e : Option (a1 × a2 × a3 × a4 × a5)) (f : a1 → a2 → a3 → a4 → a5 → Option α) : Option α := match e with
  | none => none
  | some x => f x.1 x.2.1 x.2.2.1 x.2.2.2.1 x.2.2.2.2
theorem bnd5_some {α a1 a2 a3 a4 a5 : Type} {e : Option (a1 × a2 × a3 × a4 × a5)} {f : a1 → a2 → a3 → a4 → a5 → Option α} {r : α} (h : bnd5 e f = some r) : ∃ x1 x2 x3 x4 x5, e = some (x1, x2, x3, x4, x5) ∧ f x1 x2 x3 x4 x5 = some r := by
  cases e with
  | none => cases h
  | some x => exact ⟨x.1, x.2.1, x.2.2.1, x.2.2.2.1, x.2.2.2.2, rfl, h⟩
def bnd7 {α a1 a2 a3 a4 a5 a6 a7 : Type} (e : Option (a1 × a2 × a3 × a4 × a5 × a6 × a7)) (f : a1 → a2 → a3 → a4 → a5 → a6 → a7 → Option α) : Option α := match e with
  | none => none
  | some x => f x.1 x.2.1 x.2.2.1 x.2.2.2.1 x.2.2.2.2.1 x.2.2.2.2.2.1 x.2.2.2.2.2.2
theorem bnd7_some {α a1 a2 a3 a4 a5 a6 a7 : Type} {e : Option (a1 × a2 × a3 × a4 × a5 × a6 × a7)} {f : a1 → a2 → a3 → a4 → a5 → a6 → a7 → Option α} {r : α} (h : bnd7 e f = some r) : ∃ x1 x2 x3 x4 x5 x6 x7, e = some (x1, x2, x3, x4, x5, x6, x7) ∧ f x1 x2 x3 x4 x5 x6 x7 = some r := by
  cases e with
  | none => cases h
  | some x => exact ⟨x.1, x.2.1, x.2.2.1, x.2.2.2.1, x.2.2.2.2.1, x.2.2.2.2.2.1, x.2.2.2.2.2.2, rfl, h⟩
def bnd8 {α a1 a2 a3 a4 a5 a6 a7 a8 : Type} (e : Option (a1 × a2 × a3 × a4 × a5 × a6 × a7 × a8)) (f : a1 → a2 → a3 → a4 → a5 → a6 → a7 → a8 → Option α) : Option α := match e with
  | none => none
  | some x => f x.1 x.2.1 x.2.2.1 x.2.2.2.1 x.2.2.2.2.1 x.2.2.2.2.2.1 x.2.2.2.2.2.2.1 x.2.2.2.2.2.2.2
theorem bnd8_some {α a1 a2 a3 a4 a5 a6 a7 a8 : Type} {e : Option (a1 × a2 × a3 × a4 × a5 × a6 × a7 × a8)} {f : a1 → a2 → a3 → a4 → a5 → a6 → a7 → a8 → Option α} {r : α} (h : bnd8 e f = some r) : ∃ x1 x2 x3 x4 x5 x6 x7 x8, e = some (x1, x2, x3, x4, x5, x6, x7, x8) ∧ f x1 x2 x3 x4 x5 x6 x7 x8 = some r := by
  cases e with
  | none => cases h
  | some x => exact ⟨x.1, x.2.1, x.2.2.1, x.2.2.2.1, x.2.2.2.2.1, x.2.2.2.2.2.1, x.2.2.2.2.2.2.1, x.2.2.2.2.2.2.2, rfl, h⟩
def bnd9 {α a1 a2 a3 a4 a5 a6 a7 a8 a9 : Type} (e : Option (a1 × a2 × a3 × a4 × a5 × a6 × a7 × a8 × a9)) (f : a1 → a2 → a3 → a4 → a5 → a6 → a7 → a8 → a9 → Option α) : Option α := match e with
  | none => none
  | some x => f x.1 x.2.1 x.2.2.1 x.2.2.2.1 x.2.2.2.2.1 x.2.2.2.2.2.1 x.2.2.2.2.2.2.1 x.2.2.2.2.2.2.2.1 x.2.2.2.2.2.2.2.2
theorem bnd9_some {α a1 a2 a3 a4 a5 a6 a7 a8 a9 : Type} {e : Option (a1 × a2 × a3 × a4 × a5 × a6 × a7 × a8 × a9)} {f : a1 → a2 → a3 → a4 → a5 → a6 → a7 → a8 → a9 → Option α} {r : α} (h : bnd9 e f = some r) : ∃ x1 x2 x3 x4 x5 x6 x7 x8 x9, e = some (x1, x2, x3, x4, x5, x6, x7, x8, x9) ∧ f x1 x2 x3 x4 x5 x6 x7 x8 x9 = some r := by
  cases e with
  | none => cases h
  | some x => exact ⟨x.1, x.2.1, x.2.2.1, x.2.2.2.1, x.2.2.2.2.1, x.2.2.2.2.2.1, x.2.2.2.2.2.2.1, x.2.2.2.2.2.2.2.1, x.2.2.2.2.2.2.2.2, rfl, h⟩
