abbrev lz_A (s : State) : Nat → Prop := fun q => s.heap.size ≤ q
/-- both sides hold the same valid state -/
def lz_I (D : va_G) (cI cJ : ClassId) (x0 x1 x2 x3 x4 x5 x6 x7 x8 x9 y0 y1 y2 y3 y4 y5 y6 y7 y8 o0 : Nat) (s : State) (H : Heap) (locs : List Loc) : Prop := ∃ (g : Nat → Int32) (rm : Nat → Int32) (op : Nat → Int32) (rc : Int32) (ec : Int32) (su : Int32) (pe : Int32) (qt : Int32) (rs : Nat → Int32) (rn : Int32) (cs : Nat → Int32) (cn : Int32) (lc : Nat → Int64) (hc : Nat → Int64) (lg : Nat → Int64) (hg : Nat → Int64) (la : Nat → Int32) (fo : Nat → Int32) (co : Nat → Int32) (cv : Nat → Int32) (ta : Nat → Int32) (nu : Int32) (th : Int32) (u : Nat → Int64) (q : Nat) (R : Nat → Nat), VA g 8 4096 ∧ VO op ∧ (∃ r, r ≤ 100 ∧ rc = nI r) ∧ (∃ s9, 1 ≤ s9 ∧ s9 ≤ 8 ∧ su = nI s9) ∧ (∃ t, t ≤ 100 ∧ qt = nI t) ∧ VR rs la rn q R ∧ va_P D vwCl (wX cI cJ x0 x1 x2 x3 x4 x5 x6 x7 x8 x9 g rm op rc ec su pe qt rs rn cs cn lc hc lg hg ++ (wY cI cJ y0 y1 y2 y3 y4 y5 y6 y7 y8 g rm op la fo co cv ta rc ec su pe qt rn nu th ++ [(o0, .inl (cJ, 1, .inr (.inl u)))])) H ∧ va_D (lz_A s) (wX cI cJ x0 x1 x2 x3 x4 x5 x6 x7 x8 x9 g rm op rc ec su pe qt rs rn cs cn lc hc lg hg ++ (wY cI cJ y0 y1 y2 y3 y4 y5 y6 y7 y8 g rm op la fo co cv ta rc ec su pe qt rn nu th ++ [(o0, .inl (cJ, 1, .inr (.inl u)))])) ∧ va_S (lz_A s) s.heap H locs
theorem oc_b1 {r0 : String ⊕ Int32} {rb t : Int32} {E : String} (h : OC r0 rb t E E) (u : Nat → Int64) : ∃ u', ((∃ r, r0 = Sum.inr r ∧ t = 0 ∧ u' = vp_updL u 0 (bl r)) ∨ (r0 = Sum.inl E ∧ t = 1 ∧ u' = u)) ∧ (t = 0 → u' (Int32.toNatClampNeg 0) = bl rb) := by
  rcases h with ⟨h1, h2⟩ | ⟨h1, h2⟩ | ⟨h0, h1, h2⟩
  · exact ⟨vp_updL u 0 (bl rb), Or.inl ⟨rb, h1, h2, rfl⟩, fun _ => by rw [show Int32.toNatClampNeg 0 = 0 from by decide +kernel]; exact if_pos rfl⟩
  · exact ⟨u, Or.inr ⟨h1, h2, rfl⟩, fun z => absurd (h2.symm.trans z) (by decide)⟩
  · exact absurd rfl h0
theorem oc_i1 {r0 : String ⊕ Int32} {rb t : Int32} {E : String} (h : OC r0 rb t E E) (u : Nat → Int64) : ∃ u', ((∃ r : Int32, r0 = Sum.inr r ∧ t = 0 ∧ u' = vp_updL u 0 (r.toInt64)) ∨ (r0 = Sum.inl E ∧ t = 1 ∧ u' = u)) ∧ (t = 0 → u' (Int32.toNatClampNeg 0) = rb.toInt64) := by
  rcases h with ⟨h1, h2⟩ | ⟨h1, h2⟩ | ⟨h0, h1, h2⟩
  · exact ⟨vp_updL u 0 (rb.toInt64), Or.inl ⟨rb, h1, h2, rfl⟩, fun _ => by rw [show Int32.toNatClampNeg 0 = 0 from by decide +kernel]; exact if_pos rfl⟩
  · exact ⟨u, Or.inr ⟨h1, h2, rfl⟩, fun z => absurd (h2.symm.trans z) (by decide)⟩
  · exact absurd rfl h0
theorem oc_b2 {r0 : String ⊕ Int32} {rb t : Int32} {E E2 : String} (h : OC r0 rb t E E2) (u : Nat → Int64) : ∃ u', ((∃ r, r0 = Sum.inr r ∧ t = 0 ∧ u' = vp_updL u 0 (bl r)) ∨ (r0 = Sum.inl E ∧ t = 1 ∧ u' = u) ∨ (r0 = Sum.inl E2 ∧ t = 2 ∧ u' = u)) ∧ (t = 0 → u' (Int32.toNatClampNeg 0) = bl rb) := by
  rcases h with ⟨h1, h2⟩ | ⟨h1, h2⟩ | ⟨h0, h1, h2⟩
  · exact ⟨vp_updL u 0 (bl rb), Or.inl ⟨rb, h1, h2, rfl⟩, fun _ => by rw [show Int32.toNatClampNeg 0 = 0 from by decide +kernel]; exact if_pos rfl⟩
  · exact ⟨u, Or.inr (Or.inl ⟨h1, h2, rfl⟩), fun z => absurd (h2.symm.trans z) (by decide)⟩
  · exact ⟨u, Or.inr (Or.inr ⟨h1, h2, rfl⟩), fun z => absurd (h2.symm.trans z) (by decide)⟩
theorem oc_i2 {r0 : String ⊕ Int32} {rb t : Int32} {E E2 : String} (h : OC r0 rb t E E2) (u : Nat → Int64) : ∃ u', ((∃ r : Int32, r0 = Sum.inr r ∧ t = 0 ∧ u' = vp_updL u 0 (r.toInt64)) ∨ (r0 = Sum.inl E ∧ t = 1 ∧ u' = u) ∨ (r0 = Sum.inl E2 ∧ t = 2 ∧ u' = u)) ∧ (t = 0 → u' (Int32.toNatClampNeg 0) = rb.toInt64) := by
  rcases h with ⟨h1, h2⟩ | ⟨h1, h2⟩ | ⟨h0, h1, h2⟩
  · exact ⟨vp_updL u 0 (rb.toInt64), Or.inl ⟨rb, h1, h2, rfl⟩, fun _ => by rw [show Int32.toNatClampNeg 0 = 0 from by decide +kernel]; exact if_pos rfl⟩
  · exact ⟨u, Or.inr (Or.inl ⟨h1, h2, rfl⟩), fun z => absurd (h2.symm.trans z) (by decide)⟩
  · exact ⟨u, Or.inr (Or.inr ⟨h1, h2, rfl⟩), fun z => absurd (h2.symm.trans z) (by decide)⟩
theorem oc_v1 {r0 : String ⊕ Int32} {rb t : Int32} {E : String} (h : OC r0 rb t E E) : (∃ r : Int32, r0 = Sum.inr r ∧ t = 0) ∨ (r0 = Sum.inl E ∧ t = 1) := by
  rcases h with ⟨h1, h2⟩ | ⟨h1, h2⟩ | ⟨h0, h1, h2⟩
  · exact Or.inl ⟨rb, h1, h2⟩
  · exact Or.inr ⟨h1, h2⟩
  · exact absurd rfl h0
section
variable {p : Program} {l : Launch} {e : Env} {R : Room} {s : State} {m : MethodId} {args : Array Value} {below : List Frame} {meth : Method} {c : Code} {H : Heap} {locs : List Loc} {cells slots : Nat} {Q : State → Prop}
  {Ts wsY : List Cond} {cc bytes : ByteArray} {nL maxL index n : Nat} {own C : String} {y : MethodName} {ret : Option FieldType} {rm : Room} {b ci : Nat} {As rest st0 : List Value} {D : va_G} {ws wc wr w1 : va_W} {tys : List (ClassId × FieldType)} {A : Nat → Prop} {pc : Nat} {ls : Array Slot} {fs : List Value}
theorem lz_Wi {r0 : Int32} {hh : List (Nat × Nat × Nat × Nat)} (SF : CallFix p m c cc nL s args Ts own)
    (hM : Met l y wsY rm (va_Pc As (bx_PreL D tys wc H.size)) (va_Qi (fun (r : Int32) (_ : Unit) => r = r0) (fun (_ : Unit) t => bx_Post D tys w1 (va_A wc H.size) t) (va_A wc H.size)) 1 6 (va_A wc H.size))
    (cw : vx_CSW R s args own index y bytes maxL ret hh wsY rm 1 6 n)
    (hK : va_K D vwCl tys s) (hP : va_P D vwCl ws H) (hD : va_D A ws) (hS : va_S A s.heap H locs) (hA : ∀ q, s.heap.size ≤ q → A q) (hT : xThrL A s)
    (isC isR : List Nat) (hC : isC.map (fun i => ws[i]?) = wc.map some) (hR : isR.map (fun i => ws[i]?) = wr.map some) (hnR : va_nd isR = true) (hdis : ∀ i ∈ isR, i ∉ isC) (hnC : va_nd isC = true)
    (hg : (F0 m pc ls st0).method = m) (hn : As.length = n) (hsize : (F0 m pc ls st0).locals.size = nL) (hst : (F0 m pc ls st0).stack = As.reverse ++ rest) (hW : 2 * (F0 m pc ls st0).monitorRoom + (rest.map fun v => v.category).sum ≤ 8) (hdg : decode cc pc = .ok (.invokestatic index, 3)) (hf : cells + 1 ≤ R.cells ∧ slots + 6 ≤ R.slots)
    (kk : ∀ (H1 : Heap) (locs1 : List Loc), va_P D vwCl (wr ++ w1) H1 → va_D A (wr ++ w1) → va_S A s.heap H1 locs1 → W p l e R s m args below meth c H1 locs1 (cells + 1) (slots + 6) Q (F0 m (pc + 3) ls (.int r0 :: rest))) : W p l e R s m args below meth c H locs cells slots Q (F0 m pc ls st0) := by
  have hFc := va_free (wc := wc) hD hS hA isC hC
  have hDc := hD.sub (ws' := wc) isC hnC hC
  have hPc : va_P D vwCl wc H := cl_cut hP hC
  refine va_calli (vx_runSW (As := As) (rest := rest) SF hM cw ⟨bx_blindL, fun U hU hW => ⟨rfl, by rw [hU], by rw [hU]; exact hPc, va_K.moved hW.alike hK, hDc.weaken (fun _ _ _ _ => trivial), hT.go hS (fun q h => hFc q h) hU hW⟩⟩ hg hn hsize hst hW hdg hf) hS (fun q _ h => hFc q h) hFc (fun r u t H1 locs1 ht hvm hw hB hz1 hk1 hS => ?_)
  have hw : r = r0 := hw
  subst hw
  obtain ⟨hP1, hK1, hD1⟩ := hB
  rw [ht] at hP1
  obtain ⟨hP2, hD2⟩ := va_join (wr := wr) (w1 := w1) hP hD isC isR hC hR hnR hdis hk1 hFc hP1 hD1
  exact kk H1 locs1 hP2 hD2 hS
theorem lz_Ti {r0 : Int32} {TC : u_T} {NC : Nat} (SF : CallFix p m c cc nL s args Ts own)
    (hM : Met l y wsY rm (va_Pc (.ref b :: As) (bx_Pre D tys wc H.size)) (va_Qi (fun (r : Int32) (_ : Unit) => r = r0) (fun (_ : Unit) t => bx_Post D tys w1 (va_A wc H.size) t) (va_A wc H.size)) 0 0 (va_A wc H.size))
    (cw : CallW R s args own C index y bytes maxL ret wsY rm 0 0 n)
    (hK : va_K D vwCl tys s) (hP : va_P D vwCl ws H) (hD : va_D A ws) (hS : va_S A s.heap H locs) (hA : ∀ q, s.heap.size ≤ q → A q)
    (isC isR : List Nat) (hC : isC.map (fun i => ws[i]?) = wc.map some) (hR : isR.map (fun i => ws[i]?) = wr.map some) (hnR : va_nd isR = true) (hdis : ∀ i ∈ isR, i ∉ isC) (hnC : va_nd isC = true) (hq : vwCl[ci]? = some (C, TC, NC)) (he : wc[0]? = some (b, .inr (ci, fs)))
    (hg : (F0 m pc ls st0).method = m) (hn : As.length = n) (hsize : (F0 m pc ls st0).locals.size = nL) (hst : (F0 m pc ls st0).stack = As.reverse ++ .ref b :: rest) (hW : 2 * (F0 m pc ls st0).monitorRoom + (rest.map fun v => v.category).sum ≤ 8) (hdg : decode cc pc = .ok (.invokevirtual index, 3)) (hf : cells + 0 ≤ R.cells ∧ slots + 0 ≤ R.slots)
    (kk : ∀ (H1 : Heap) (locs1 : List Loc), va_P D vwCl (wr ++ w1) H1 → va_D A (wr ++ w1) → va_S A s.heap H1 locs1 → W p l e R s m args below meth c H1 locs1 cells slots Q (F0 m (pc + 3) ls (.int r0 :: rest))) : W p l e R s m args below meth c H locs cells slots Q (F0 m pc ls st0) := by
  have hFc := va_free (wc := wc) hD hS hA isC hC
  have hDc := hD.sub (ws' := wc) isC hnC hC
  have hPc : va_P D vwCl wc H := cl_cut hP hC
  refine va_calli (va_runV (As := As) (rest := rest) SF hM cw ⟨bx_blind, va_recv hK hPc hq he, fun U hU hW => ⟨rfl, by rw [hU], by rw [hU]; exact hPc, va_K.moved hW.alike hK, hDc.weaken (fun _ _ _ _ => trivial)⟩⟩ hg hn hsize hst hW hdg hf) hS (fun q _ h => hFc q h) hFc (fun r u t H1 locs1 ht hvm hw hB hz1 hk1 hS => ?_)
  have hw : r = r0 := hw
  subst hw
  obtain ⟨hP1, hK1, hD1⟩ := hB
  rw [ht] at hP1
  obtain ⟨hP2, hD2⟩ := va_join (wr := wr) (w1 := w1) hP hD isC isR hC hR hnR hdis hk1 hFc hP1 hD1
  exact kk H1 locs1 hP2 hD2 hS
theorem lz_Tv {TC : u_T} {NC : Nat} (SF : CallFix p m c cc nL s args Ts own)
    (hM : Met l y wsY rm (va_Pc (.ref b :: As) (bx_Pre D tys wc H.size)) (va_Qv (fun (_ : Unit) => True) (fun (_ : Unit) t => bx_Post D tys w1 (va_A wc H.size) t) (va_A wc H.size)) 0 0 (va_A wc H.size))
    (cw : CallW R s args own C index y bytes maxL ret wsY rm 0 0 n)
    (hK : va_K D vwCl tys s) (hP : va_P D vwCl ws H) (hD : va_D A ws) (hS : va_S A s.heap H locs) (hA : ∀ q, s.heap.size ≤ q → A q)
    (isC isR : List Nat) (hC : isC.map (fun i => ws[i]?) = wc.map some) (hR : isR.map (fun i => ws[i]?) = wr.map some) (hnR : va_nd isR = true) (hdis : ∀ i ∈ isR, i ∉ isC) (hnC : va_nd isC = true) (hq : vwCl[ci]? = some (C, TC, NC)) (he : wc[0]? = some (b, .inr (ci, fs)))
    (hg : (F0 m pc ls st0).method = m) (hn : As.length = n) (hsize : (F0 m pc ls st0).locals.size = nL) (hst : (F0 m pc ls st0).stack = As.reverse ++ .ref b :: rest) (hW : 2 * (F0 m pc ls st0).monitorRoom + (rest.map fun v => v.category).sum ≤ 8) (hdg : decode cc pc = .ok (.invokevirtual index, 3)) (hf : cells + 0 ≤ R.cells ∧ slots + 0 ≤ R.slots)
    (kk : ∀ (H1 : Heap) (locs1 : List Loc), va_P D vwCl (wr ++ w1) H1 → va_D A (wr ++ w1) → va_S A s.heap H1 locs1 → W p l e R s m args below meth c H1 locs1 cells slots Q (F0 m (pc + 3) ls (rest))) : W p l e R s m args below meth c H locs cells slots Q (F0 m pc ls st0) := by
  have hFc := va_free (wc := wc) hD hS hA isC hC
  have hDc := hD.sub (ws' := wc) isC hnC hC
  have hPc : va_P D vwCl wc H := cl_cut hP hC
  refine va_callv (va_runV (As := As) (rest := rest) SF hM cw ⟨bx_blind, va_recv hK hPc hq he, fun U hU hW => ⟨rfl, by rw [hU], by rw [hU]; exact hPc, va_K.moved hW.alike hK, hDc.weaken (fun _ _ _ _ => trivial)⟩⟩ hg hn hsize hst hW hdg hf) hS (fun q _ h => hFc q h) hFc (fun u t H1 locs1 ht hvm hw hB hz1 hk1 hS => ?_)
  have _ := hw
  obtain ⟨hP1, hK1, hD1⟩ := hB
  rw [ht] at hP1
  obtain ⟨hP2, hD2⟩ := va_join (wr := wr) (w1 := w1) hP hD isC isR hC hR hnR hdis hk1 hFc hP1 hD1
  exact kk H1 locs1 hP2 hD2 hS
theorem lz_cmp {x : Int64} (hexec : p.tables.exec = Jvm.exec) (hb : c.code = cc) (hdg : decode cc pc = .ok (.lcmp, 1))
    (k : W p l e R s m args below meth c H locs cells slots Q (F0 m (pc + 1) ls (.int 0 :: rest))) : W p l e R s m args below meth c H locs cells slots Q (F0 m pc ls (.long x :: .long x :: rest)) := by
  intro T hT X
  obtain ⟨t, a, b⟩ := k T hT X
  refine ⟨t, ?_, b⟩
  have h1 : ¬ x < x := fun q => absurd ((fa_lt64 x x).mp q) (Int.lt_irrefl _)
  jvm_step X.here [X.here.top, hexec, hb, hdg, h1]
  exact a
end
