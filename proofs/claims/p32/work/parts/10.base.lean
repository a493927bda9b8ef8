-- the row at an index, when the index lies in it
def ix {α : Type} (i : Int32) (n : Nat) (A : Option α) : Option α := if ¬ (i < 0 ∨ n ≤ i.toNatClampNeg) then A else none
theorem ix_some {α : Type} {i : Int32} {n : Nat} {A : Option α} {r : α} (h : ix i n A = some r) : vp_in i n ∧ A = some r := by
  unfold ix at h
  split at h
  · next h1 => exact ⟨h1, h⟩
  · cases h
theorem ix_in {α : Type} {i : Int32} {n : Nat} {A : Option α} (h : vp_in i n) : ix i n A = A := if_pos h
def bnd0 {α : Type} (e : Option Unit) (f : Option α) : Option α := match e with
  | none => none
  | some _ => f
def bnd1 {α β : Type} (e : Option β) (f : β → Option α) : Option α := match e with
  | none => none
  | some x => f x
def bnd2 {α β γ : Type} (e : Option (β × γ)) (f : β → γ → Option α) : Option α := match e with
  | none => none
  | some x => f x.1 x.2
def bnd3 {α β γ δ : Type} (e : Option (β × γ × δ)) (f : β → γ → δ → Option α) : Option α := match e with
  | none => none
  | some x => f x.1 x.2.1 x.2.2
def bnd4 {α a1 a2 a3 a4 : Type} (e : Option (a1 × a2 × a3 × a4)) (f : a1 → a2 → a3 → a4 → Option α) : Option α := match e with
  | none => none
  | some x => f x.1 x.2.1 x.2.2.1 x.2.2.2
def bnd6 {α a1 a2 a3 a4 a5 a6 : Type} (e : Option (a1 × a2 × a3 × a4 × a5 × a6)) (f : a1 → a2 → a3 → a4 → a5 → a6 → Option α) : Option α := match e with
  | none => none
  | some x => f x.1 x.2.1 x.2.2.1 x.2.2.2.1 x.2.2.2.2.1 x.2.2.2.2.2
theorem bnd0_some {α : Type} {e : Option Unit} {f : Option α} {r : α} (h : bnd0 e f = some r) : e = some () ∧ f = some r := by
  cases e with
  | none => cases h
  | some x => exact ⟨rfl, h⟩
theorem bnd1_some {α β : Type} {e : Option β} {f : β → Option α} {r : α} (h : bnd1 e f = some r) : ∃ x, e = some x ∧ f x = some r := by
  cases e with
  | none => cases h
  | some x => exact ⟨x, rfl, h⟩
theorem bnd2_some {α β γ : Type} {e : Option (β × γ)} {f : β → γ → Option α} {r : α} (h : bnd2 e f = some r) : ∃ x y, e = some (x, y) ∧ f x y = some r := by
  cases e with
  | none => cases h
  | some x => exact ⟨x.1, x.2, rfl, h⟩
theorem bnd3_some {α β γ δ : Type} {e : Option (β × γ × δ)} {f : β → γ → δ → Option α} {r : α} (h : bnd3 e f = some r) : ∃ x y z, e = some (x, y, z) ∧ f x y z = some r := by
  cases e with
  | none => cases h
  | some x => exact ⟨x.1, x.2.1, x.2.2, rfl, h⟩
theorem bnd4_some {α a1 a2 a3 a4 : Type} {e : Option (a1 × a2 × a3 × a4)} {f : a1 → a2 → a3 → a4 → Option α} {r : α} (h : bnd4 e f = some r) : ∃ x1 x2 x3 x4, e = some (x1, x2, x3, x4) ∧ f x1 x2 x3 x4 = some r := by
  cases e with
  | none => cases h
  | some x => exact ⟨x.1, x.2.1, x.2.2.1, x.2.2.2, rfl, h⟩
theorem bnd6_some {α a1 a2 a3 a4 a5 a6 : Type} {e : Option (a1 × a2 × a3 × a4 × a5 × a6)} {f : a1 → a2 → a3 → a4 → a5 → a6 → Option α} {r : α} (h : bnd6 e f = some r) : ∃ x1 x2 x3 x4 x5 x6, e = some (x1, x2, x3, x4, x5, x6) ∧ f x1 x2 x3 x4 x5 x6 = some r := by
  cases e with
  | none => cases h
  | some x => exact ⟨x.1, x.2.1, x.2.2.1, x.2.2.2.1, x.2.2.2.2.1, x.2.2.2.2.2, rfl, h⟩
abbrev bx_Post (D : va_G) (tys : List (ClassId × FieldType)) (ws : va_W) (A : Nat → Prop) (t : State) : Prop := va_P D vwCl ws t.heap ∧ va_K D vwCl tys t ∧ va_D A ws
abbrev bx_Pre (D : va_G) (tys : List (ClassId × FieldType)) (ws : va_W) (sz : Nat) (U : State) : Prop := U.heap.size = sz ∧ va_P D vwCl ws U.heap ∧ va_K D vwCl tys U ∧ va_D (fun _ => True) ws
theorem bx_blind {av : List Value} {D : va_G} {tys : List (ClassId × FieldType)} {ws : va_W} {sz : Nat} : FrameBlind (va_Pc av (bx_Pre D tys ws sz)) := fun a U g mk q => by
  obtain ⟨q0, q1, qP, qK, qD⟩ := q
  exact ⟨q0, q1, qP, va_K.moved (u := U) (U := U.calling g mk a) (Vm.Alike.refl U.vm) qK, qD⟩
theorem cl_cut {D : va_G} {ws wc : va_W} {H : Heap} {isC : List Nat} (hP : va_P D vwCl ws H) (hC : isC.map (fun i => ws[i]?) = wc.map some) : va_P D vwCl wc H := by
  intro k q hq
  have h1 : (isC.map (fun i => ws[i]?))[k]? = some (some q) := by rw [hC, List.getElem?_map, hq]; rfl
  rw [List.getElem?_map] at h1
  cases hi : isC[k]? with
  | none => rw [hi] at h1; cases h1
  | some i => rw [hi] at h1; exact hP i q (Option.some.inj h1)
section
variable {p : Program} {l : Launch} {e : Env} {R : Room} {s : State} {m : MethodId} {args : Array Value} {below : List Frame} {meth : Method} {c : Code} {H : Heap} {locs : List Loc} {cells slots : Nat} {Q : State → Prop}
  {Ts wsY ws' : List Cond} {cc bytes : ByteArray} {nL maxL index n : Nat} {own C : String} {y : MethodName} {ret : Option FieldType} {rm : Room} {b ci : Nat} {As rest st0 : List Value} {D : va_G} {ws wc wr w1 : va_W} {tys tysc : List (ClassId × FieldType)} {A : Nat → Prop} {H0 : Heap} {pc : Nat} {ls : Array Slot} {fs : List Value} {q : vw_C}
/-- a static call that reads and writes no cell -/
theorem cl_Si0 {r0 : Int32} (SF : CallFix p m c cc nL s args Ts own)
    (hM : Met l y wsY rm (va_Pc As (bx_Pre D [] [] H.size)) (va_Qi (fun (r : Int32) (_ : Unit) => r = r0) (fun (_ : Unit) t => bx_Post D [] [] (va_A [] H.size) t) (va_A [] H.size)) 0 0 (va_A [] H.size))
    (cw : CallB R s args own index y bytes maxL ret wsY rm 0 0 n ∧ (Cond.static y).before args s = true)
    (hK : va_K D vwCl tys s) (hP : va_P D vwCl ws H) (hD : va_D A ws) (hS : va_S A H0 H locs) (hA : ∀ q, H0.size ≤ q → A q)
    (hg : (F0 m pc ls st0).method = m) (hn : As.length = n) (hsize : (F0 m pc ls st0).locals.size = nL) (hst : (F0 m pc ls st0).stack = As.reverse ++ rest) (hW : 2 * (F0 m pc ls st0).monitorRoom + (rest.map fun v => v.category).sum ≤ 8) (hdg : decode cc pc = .ok (.invokestatic index, 3))
    (kk : ∀ (H1 : Heap) (locs1 : List Loc), va_P D vwCl ws H1 → va_D A ws → va_S A H0 H1 locs1 → W p l e R s m args below meth c H1 locs1 0 0 Q (F0 m (pc + 3) ls (.int r0 :: rest))) : W p l e R s m args below meth c H locs 0 0 Q (F0 m pc ls st0) := by
  have hFc := va_free (wc := []) hD hS hA [] rfl
  have hKc := hK.sub (tys' := []) [] rfl
  have hPc : va_P D vwCl [] H := fun k q h => by simp at h
  have hDc : va_D (fun _ => True) [] := ⟨fun i j p q h => by simp at h, fun k q h => by simp at h⟩
  refine va_calli (va_runS (As := As) (rest := rest) SF hM cw ⟨bx_blind, fun U hU hW => ⟨rfl, by rw [hU], by rw [hU]; exact hPc, va_K.moved hW.alike hKc, hDc⟩⟩ hg hn hsize hst hW hdg ⟨Nat.zero_le _, Nat.zero_le _⟩) hS (fun q _ h => hFc q h) hFc (fun r u t H1 locs1 ht hvm hw hB hz1 hk1 hS => ?_)
  have hw : r = r0 := hw
  subst hw
  refine kk H1 locs1 (hP.kept (fun k q hk => hk1 q.1 (hP k q hk).lt ?_)) hD hS
  rintro (⟨k9, e9, h9⟩ | h9)
  · simp at h9
  · exact absurd (hP k q hk).lt (Nat.not_lt.mpr h9)
/-- a static call that reads and writes no cell -/
theorem cl_Sl0 {r0 : Int64} (SF : CallFix p m c cc nL s args Ts own)
    (hM : Met l y wsY rm (va_Pc As (bx_Pre D [] [] H.size)) (va_Ql (fun (r : Int64) (_ : Unit) => r = r0) (fun (_ : Unit) t => bx_Post D [] [] (va_A [] H.size) t) (va_A [] H.size)) 0 0 (va_A [] H.size))
    (cw : CallB R s args own index y bytes maxL ret wsY rm 0 0 n ∧ (Cond.static y).before args s = true)
    (hK : va_K D vwCl tys s) (hP : va_P D vwCl ws H) (hD : va_D A ws) (hS : va_S A H0 H locs) (hA : ∀ q, H0.size ≤ q → A q)
    (hg : (F0 m pc ls st0).method = m) (hn : As.length = n) (hsize : (F0 m pc ls st0).locals.size = nL) (hst : (F0 m pc ls st0).stack = As.reverse ++ rest) (hW : 2 * (F0 m pc ls st0).monitorRoom + (rest.map fun v => v.category).sum ≤ 8) (hdg : decode cc pc = .ok (.invokestatic index, 3))
    (kk : ∀ (H1 : Heap) (locs1 : List Loc), va_P D vwCl ws H1 → va_D A ws → va_S A H0 H1 locs1 → W p l e R s m args below meth c H1 locs1 0 0 Q (F0 m (pc + 3) ls (.long r0 :: rest))) : W p l e R s m args below meth c H locs 0 0 Q (F0 m pc ls st0) := by
  have hFc := va_free (wc := []) hD hS hA [] rfl
  have hKc := hK.sub (tys' := []) [] rfl
  have hPc : va_P D vwCl [] H := fun k q h => by simp at h
  have hDc : va_D (fun _ => True) [] := ⟨fun i j p q h => by simp at h, fun k q h => by simp at h⟩
  refine va_calll (va_runS (As := As) (rest := rest) SF hM cw ⟨bx_blind, fun U hU hW => ⟨rfl, by rw [hU], by rw [hU]; exact hPc, va_K.moved hW.alike hKc, hDc⟩⟩ hg hn hsize hst hW hdg ⟨Nat.zero_le _, Nat.zero_le _⟩) hS (fun q _ h => hFc q h) hFc (fun r u t H1 locs1 ht hvm hw hB hz1 hk1 hS => ?_)
  have hw : r = r0 := hw
  subst hw
  refine kk H1 locs1 (hP.kept (fun k q hk => hk1 q.1 (hP k q hk).lt ?_)) hD hS
  rintro (⟨k9, e9, h9⟩ | h9)
  · simp at h9
  · exact absurd (hP k q hk).lt (Nat.not_lt.mpr h9)
theorem cl_Vi {r0 : Int32} {TC : u_T} {NC : Nat} (SF : CallFix p m c cc nL s args Ts own)
    (hM : Met l y wsY rm (va_Pc (.ref b :: As) (bx_Pre D tys wc H.size)) (va_Qi (fun (r : Int32) (_ : Unit) => r = r0) (fun (_ : Unit) t => bx_Post D tys w1 (va_A wc H.size) t) (va_A wc H.size)) 0 0 (va_A wc H.size))
    (cw : CallW R s args own C index y bytes maxL ret wsY rm 0 0 n)
    (hK : va_K D vwCl tys s) (hP : va_P D vwCl ws H) (hD : va_D A ws) (hS : va_S A H0 H locs) (hA : ∀ q, H0.size ≤ q → A q)
    (isC isR : List Nat) (hC : isC.map (fun i => ws[i]?) = wc.map some) (hR : isR.map (fun i => ws[i]?) = wr.map some) (hnR : va_nd isR = true) (hdis : ∀ i ∈ isR, i ∉ isC) (hnC : va_nd isC = true) (hq : vwCl[ci]? = some (C, TC, NC)) (he : wc[0]? = some (b, .inr (ci, fs))) 
    (hg : (F0 m pc ls st0).method = m) (hn : As.length = n) (hsize : (F0 m pc ls st0).locals.size = nL) (hst : (F0 m pc ls st0).stack = As.reverse ++ .ref b :: rest) (hW : 2 * (F0 m pc ls st0).monitorRoom + (rest.map fun v => v.category).sum ≤ 8) (hdg : decode cc pc = .ok (.invokevirtual index, 3))
    (kk : ∀ (H1 : Heap) (locs1 : List Loc), va_P D vwCl (wr ++ w1) H1 → va_D A (wr ++ w1) → va_S A H0 H1 locs1 → W p l e R s m args below meth c H1 locs1 0 0 Q (F0 m (pc + 3) ls (.int r0 :: rest))) : W p l e R s m args below meth c H locs 0 0 Q (F0 m pc ls st0) := by
  have hFc := va_free (wc := wc) hD hS hA isC hC
  have hDc := hD.sub (ws' := wc) isC hnC hC
  have hPc : va_P D vwCl wc H := cl_cut hP hC
  refine va_calli (va_runV (As := As) (rest := rest) SF hM cw ⟨bx_blind, va_recv hK hPc hq he, fun U hU hW => ⟨rfl, by rw [hU], by rw [hU]; exact hPc, va_K.moved hW.alike hK, hDc.weaken (fun _ _ _ _ => trivial)⟩⟩ hg hn hsize hst hW hdg ⟨Nat.zero_le _, Nat.zero_le _⟩) hS (fun q _ h => hFc q h) hFc (fun r u t H1 locs1 ht hvm hw hB hz1 hk1 hS => ?_)
  have hw : r = r0 := hw
  subst hw
  obtain ⟨hP1, hK1, hD1⟩ := hB
  rw [ht] at hP1
  obtain ⟨hP2, hD2⟩ := va_join (wr := wr) (w1 := w1) hP hD isC isR hC hR hnR hdis hk1 hFc hP1 hD1
  exact kk H1 locs1 hP2 hD2 hS
theorem cl_Vv {TC : u_T} {NC : Nat} (SF : CallFix p m c cc nL s args Ts own)
    (hM : Met l y wsY rm (va_Pc (.ref b :: As) (bx_Pre D tys wc H.size)) (va_Qv (fun (_ : Unit) => True) (fun (_ : Unit) t => bx_Post D tys w1 (va_A wc H.size) t) (va_A wc H.size)) 0 0 (va_A wc H.size))
    (cw : CallW R s args own C index y bytes maxL ret wsY rm 0 0 n)
    (hK : va_K D vwCl tys s) (hP : va_P D vwCl ws H) (hD : va_D A ws) (hS : va_S A H0 H locs) (hA : ∀ q, H0.size ≤ q → A q)
    (isC isR : List Nat) (hC : isC.map (fun i => ws[i]?) = wc.map some) (hR : isR.map (fun i => ws[i]?) = wr.map some) (hnR : va_nd isR = true) (hdis : ∀ i ∈ isR, i ∉ isC) (hnC : va_nd isC = true) (hq : vwCl[ci]? = some (C, TC, NC)) (he : wc[0]? = some (b, .inr (ci, fs))) 
    (hg : (F0 m pc ls st0).method = m) (hn : As.length = n) (hsize : (F0 m pc ls st0).locals.size = nL) (hst : (F0 m pc ls st0).stack = As.reverse ++ .ref b :: rest) (hW : 2 * (F0 m pc ls st0).monitorRoom + (rest.map fun v => v.category).sum ≤ 8) (hdg : decode cc pc = .ok (.invokevirtual index, 3))
    (kk : ∀ (H1 : Heap) (locs1 : List Loc), va_P D vwCl (wr ++ w1) H1 → va_D A (wr ++ w1) → va_S A H0 H1 locs1 → W p l e R s m args below meth c H1 locs1 0 0 Q (F0 m (pc + 3) ls (rest))) : W p l e R s m args below meth c H locs 0 0 Q (F0 m pc ls st0) := by
  have hFc := va_free (wc := wc) hD hS hA isC hC
  have hDc := hD.sub (ws' := wc) isC hnC hC
  have hPc : va_P D vwCl wc H := cl_cut hP hC
  refine va_callv (va_runV (As := As) (rest := rest) SF hM cw ⟨bx_blind, va_recv hK hPc hq he, fun U hU hW => ⟨rfl, by rw [hU], by rw [hU]; exact hPc, va_K.moved hW.alike hK, hDc.weaken (fun _ _ _ _ => trivial)⟩⟩ hg hn hsize hst hW hdg ⟨Nat.zero_le _, Nat.zero_le _⟩) hS (fun q _ h => hFc q h) hFc (fun u t H1 locs1 ht hvm hw hB hz1 hk1 hS => ?_)
  have _ := hw
  obtain ⟨hP1, hK1, hD1⟩ := hB
  rw [ht] at hP1
  obtain ⟨hP2, hD2⟩ := va_join (wr := wr) (w1 := w1) hP hD isC isR hC hR hnR hdis hk1 hFc hP1 hD1
  exact kk H1 locs1 hP2 hD2 hS
theorem cl_Si {r0 : Int32} (SF : CallFix p m c cc nL s args Ts own)
    (hM : Met l y wsY rm (va_Pc As (bx_Pre D tys wc H.size)) (va_Qi (fun (r : Int32) (_ : Unit) => r = r0) (fun (_ : Unit) t => bx_Post D tys w1 (va_A wc H.size) t) (va_A wc H.size)) 0 0 (va_A wc H.size))
    (cw : CallB R s args own index y bytes maxL ret wsY rm 0 0 n ∧ (Cond.static y).before args s = true)
    (hK : va_K D vwCl tys s) (hP : va_P D vwCl ws H) (hD : va_D A ws) (hS : va_S A H0 H locs) (hA : ∀ q, H0.size ≤ q → A q)
    (isC isR : List Nat) (hC : isC.map (fun i => ws[i]?) = wc.map some) (hR : isR.map (fun i => ws[i]?) = wr.map some) (hnR : va_nd isR = true) (hdis : ∀ i ∈ isR, i ∉ isC) (hnC : va_nd isC = true) 
    (hg : (F0 m pc ls st0).method = m) (hn : As.length = n) (hsize : (F0 m pc ls st0).locals.size = nL) (hst : (F0 m pc ls st0).stack = As.reverse ++ rest) (hW : 2 * (F0 m pc ls st0).monitorRoom + (rest.map fun v => v.category).sum ≤ 8) (hdg : decode cc pc = .ok (.invokestatic index, 3))
    (kk : ∀ (H1 : Heap) (locs1 : List Loc), va_P D vwCl (wr ++ w1) H1 → va_D A (wr ++ w1) → va_S A H0 H1 locs1 → W p l e R s m args below meth c H1 locs1 0 0 Q (F0 m (pc + 3) ls (.int r0 :: rest))) : W p l e R s m args below meth c H locs 0 0 Q (F0 m pc ls st0) := by
  have hFc := va_free (wc := wc) hD hS hA isC hC
  have hDc := hD.sub (ws' := wc) isC hnC hC
  have hPc : va_P D vwCl wc H := cl_cut hP hC
  refine va_calli (va_runS (As := As) (rest := rest) SF hM cw ⟨bx_blind, fun U hU hW => ⟨rfl, by rw [hU], by rw [hU]; exact hPc, va_K.moved hW.alike hK, hDc.weaken (fun _ _ _ _ => trivial)⟩⟩ hg hn hsize hst hW hdg ⟨Nat.zero_le _, Nat.zero_le _⟩) hS (fun q _ h => hFc q h) hFc (fun r u t H1 locs1 ht hvm hw hB hz1 hk1 hS => ?_)
  have hw : r = r0 := hw
  subst hw
  obtain ⟨hP1, hK1, hD1⟩ := hB
  rw [ht] at hP1
  obtain ⟨hP2, hD2⟩ := va_join (wr := wr) (w1 := w1) hP hD isC isR hC hR hnR hdis hk1 hFc hP1 hD1
  exact kk H1 locs1 hP2 hD2 hS
end
def xi_0 : MethodName := ⟨"java/lang/RuntimeException", "<init>", "(Ljava/lang/String;)V"⟩
def xi_1 : MethodName := ⟨"java/lang/Exception", "<init>", "(Ljava/lang/String;)V"⟩
def xi_2 : MethodName := ⟨"java/lang/Throwable", "<init>", "(Ljava/lang/String;)V"⟩
/-- what a throw needs of the machine beside the words of the method itself: three casts, two statics, the texts -/
def xThr (A : Nat → Prop) (U : State) : Prop := (va_Nw (.castable "java/lang/IndexOutOfBoundsException" "java/lang/IndexOutOfBoundsException") U ∧ va_Nw (.castable "java/lang/IllegalArgumentException" "java/lang/IllegalArgumentException") U ∧ va_Nw (.castable "java/lang/IllegalStateException" "java/lang/IllegalStateException") U ∧ va_Nw (.declares xi_0) U ∧ va_Nw (.declares xi_1) U ∧ va_Nw (.declares xi_2) U) ∧ (vx_Zq Bundle.tN "UNASSIGNED_STACK" Bundle.steD A U U.heap ∧ vx_Zq Bundle.tN "SUPPRESSED_SENTINEL" Bundle.listD A U U.heap) ∧ (∃ sa, vk_R RX0 69 "no such user or permission" sa U) ∧ (∃ sa, vk_R RX0 82 "no such user" sa U) ∧ (∃ sa, vk_R RX0 89 "permissions is not 0 to 4095" sa U) ∧ (∃ sa, vk_R RX0 98 "no such permission" sa U) ∧ (∃ sa, vk_R RX0 100 "both permissions are the same" sa U) ∧ (∃ sa, vk_R RX0 105 "a cost is not 0 to 100" sa U) ∧ (∃ sa, vk_R RX0 107 "the support is not 1 to 8" sa U) ∧ (∃ sa, vk_R RX0 109 "the period is not 1 to 8" sa U) ∧ (∃ sa, vk_R RX0 113 "the permission is not granted" sa U) ∧ (∃ sa, vk_R RX0 116 "the quarter is 100" sa U) ∧ (∃ sa, vk_R RX0 138 "more than 14 candidates" sa U) ∧ (∃ sa, vk_R RX0 147 "no such candidate" sa U) ∧ (∃ sa, vk_R RX0 152 "the choice has a bit of no candidate" sa U) ∧ (∃ sa, vk_R RX0 154 "no such role" sa U)
abbrev bx_PreT (D : va_G) (tys : List (ClassId × FieldType)) (ws : va_W) (sz : Nat) (U : State) : Prop := U.heap.size = sz ∧ va_P D vwCl ws U.heap ∧ va_K D vwCl tys U ∧ va_D (fun _ => True) ws ∧ xThr (va_A ws sz) U
theorem xt_hat {args : Array Value} {s : State} {L Ts : List Cond} {X : String} (hts : ∀ w ∈ Ts, w.before args s = true) (h1 : ∀ w ∈ L.filter goodWord, w ∈ Ts) (h2 : ∀ w ∈ L.filter (fun w => !goodWord w), w ∈ [Cond.castable X X, .declares xi_0, .declares xi_1, .declares xi_2]) (hc : va_Nw (.castable X X) s) (h0 : va_Nw (.declares xi_0) s) (h1b : va_Nw (.declares xi_1) s) (h2b : va_Nw (.declares xi_2) s) : ∀ w ∈ L, w.before args s = true :=
  vx_hat (B := [Cond.castable X X, .declares xi_0, .declares xi_1, .declares xi_2]) (fun w hw => hts w (h1 w hw)) h2 (fun w hw => by
    simp only [List.mem_cons, List.not_mem_nil, or_false] at hw
    rcases hw with rfl | rfl | rfl | rfl
    · exact va_Nw.use (A := args) rfl hc
    · exact va_Nw.use (A := args) rfl h0
    · exact va_Nw.use (A := args) rfl h1b
    · exact va_Nw.use (A := args) rfl h2b)
set_option maxRecDepth 20000 in
theorem xo_71 : ∀ w ∈ (vx_atS RX0 71 "java/lang/IndexOutOfBoundsException" ["java/lang/RuntimeException", "java/lang/Exception"]).filter (fun w => !goodWord w), w ∈ [Cond.castable "java/lang/IndexOutOfBoundsException" "java/lang/IndexOutOfBoundsException", .declares xi_0, .declares xi_1, .declares xi_2] := by decide +kernel
set_option maxRecDepth 20000 in
theorem xg_71 : ∀ w ∈ Cond.classLink RX0 67 "java/lang/IndexOutOfBoundsException" :: Cond.initialized "java/lang/IndexOutOfBoundsException" :: vx_atS RX0 71 "java/lang/IndexOutOfBoundsException" ["java/lang/RuntimeException", "java/lang/Exception"], vx_ot w = true := by decide +kernel
set_option maxRecDepth 20000 in
theorem xo_91 : ∀ w ∈ (vx_atS RX0 91 "java/lang/IllegalArgumentException" ["java/lang/RuntimeException", "java/lang/Exception"]).filter (fun w => !goodWord w), w ∈ [Cond.castable "java/lang/IllegalArgumentException" "java/lang/IllegalArgumentException", .declares xi_0, .declares xi_1, .declares xi_2] := by decide +kernel
set_option maxRecDepth 20000 in
theorem xg_91 : ∀ w ∈ Cond.classLink RX0 87 "java/lang/IllegalArgumentException" :: Cond.initialized "java/lang/IllegalArgumentException" :: vx_atS RX0 91 "java/lang/IllegalArgumentException" ["java/lang/RuntimeException", "java/lang/Exception"], vx_ot w = true := by decide +kernel
set_option maxRecDepth 20000 in
theorem xo_115 : ∀ w ∈ (vx_atS RX0 115 "java/lang/IllegalStateException" ["java/lang/RuntimeException", "java/lang/Exception"]).filter (fun w => !goodWord w), w ∈ [Cond.castable "java/lang/IllegalStateException" "java/lang/IllegalStateException", .declares xi_0, .declares xi_1, .declares xi_2] := by decide +kernel
set_option maxRecDepth 20000 in
theorem xg_115 : ∀ w ∈ Cond.classLink RX0 111 "java/lang/IllegalStateException" :: Cond.initialized "java/lang/IllegalStateException" :: vx_atS RX0 115 "java/lang/IllegalStateException" ["java/lang/RuntimeException", "java/lang/Exception"], vx_ot w = true := by decide +kernel
abbrev wX (cI cJ : ClassId) (x0 x1 x2 x3 x4 x5 x6 x7 x8 x9 : Nat) (g : Nat → Int32) (rm : Nat → Int32) (op : Nat → Int32) (rc : Int32) (ec : Int32) (su : Int32) (pe : Int32) (qt : Int32) (rs : Nat → Int32) (rn : Int32) (cs : Nat → Int32) (cn : Int32) (lc : Nat → Int64) (hc : Nat → Int64) (lg : Nat → Int64) (hg : Nat → Int64) : va_W := [(x0, .inr (0, [.ref x1, .ref x2, .ref x3, .int rc, .int ec, .int su, .int pe, .int qt, .ref x4, .int rn, .ref x5, .int cn, .ref x6, .ref x7, .ref x8, .ref x9])), (x1, .inl (cI, 8, .inl g)), (x2, .inl (cI, 96, .inl rm)), (x3, .inl (cI, 12, .inl op)), (x4, .inl (cI, 255, .inl rs)), (x5, .inl (cI, 255, .inl cs)), (x6, .inl (cJ, 255, .inr (.inl lc))), (x7, .inl (cJ, 255, .inr (.inl hc))), (x8, .inl (cJ, 15, .inr (.inl lg))), (x9, .inl (cJ, 15, .inr (.inl hg)))]
abbrev wY (cI cJ : ClassId) (y0 y1 y2 y3 y4 y5 y6 y7 y8 : Nat) (hs : Nat → Int32) (si : Nat → Int32) (ag : Nat → Int32) (la : Nat → Int32) (fo : Nat → Int32) (co : Nat → Int32) (cv : Nat → Int32) (ta : Nat → Int32) (rc : Int32) (ec : Int32) (su : Int32) (pe : Int32) (ti : Int32) (mn : Int32) (nu : Int32) (th : Int32) : va_W := [(y0, .inr (1, [.ref y1, .ref y2, .ref y3, .ref y4, .ref y5, .ref y6, .ref y7, .ref y8, .int rc, .int ec, .int su, .int pe, .int ti, .int mn, .int nu, .int th])), (y1, .inl (cI, 8, .inl hs)), (y2, .inl (cI, 96, .inl si)), (y3, .inl (cI, 12, .inl ag)), (y4, .inl (cI, 256, .inl la)), (y5, .inl (cI, 256, .inl fo)), (y6, .inl (cI, 4096, .inl co)), (y7, .inl (cI, 8, .inl cv)), (y8, .inl (cI, 256, .inl ta))]
