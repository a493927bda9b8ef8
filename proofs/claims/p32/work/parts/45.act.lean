def m_L_cell (xs : Nat → Int32) (L : Nat) (a1 : Int32) : Option Int32 := (if nI L ≤ a1 then some (2752361 * a1 + 1091) else (ix a1 L (some (xs (Int32.toNatClampNeg a1)))))
def bx_PreX (b L : Nat) (xs : Nat → Int32) (sz : Nat) (U : State) : Prop := U.heap.size = sz ∧ va_X b L xs U U.heap ∧ b < sz
theorem bx_blindX {av : List Value} {b L : Nat} {xs : Nat → Int32} {sz : Nat} : FrameBlind (va_Pc av (bx_PreX b L xs sz)) := fun a U g mk q => by
  obtain ⟨q0, q1, qX, qb⟩ := q
  exact ⟨q0, q1, va_X.moved (u := U) (U := U.calling g mk a) (Vm.Alike.refl U.vm) qX, qb⟩
set_option maxHeartbeats 4000000 in
set_option maxRecDepth 100000 in
theorem c_L_cell (l : Launch) (b L : Nat) (xs : Nat → Int32) (sz : Nat) (a1 r0 : Int32) (h : m_L_cell xs L a1 = some r0) : Met l yL_cell wsL_cell ({ frames := 0, cells := 0, slots := 0, locals := 0 }) (va_Pc [.ref b, .int a1] (bx_PreX b L xs sz)) (va_Qi (fun (r : Int32) (_ : Unit) => r = r0) (fun (_ : Unit) _ => True) (va_A ([]) sz)) 0 0 (va_A ([]) sz) := by
  refine Met.ofW (cc := cL_cell) (maxL := 2) (ret := (some .int)) (by decide) rfl ?_
  intro p e s m args below meth c s₁ B hml hv
  obtain ⟨rfl, hsz, hX, hbs⟩ := hv
  have hx := B.exec
  have hb := B.bytes
  have hr := B.returns
  have hts := atoms_spec (ws := wsL_cell) B.pre
  have hown : s.vm.findClass RL = some m.cls := findClass_of_methodNamed B.named
  have hlocks := B.notSynchronized
  subst hsz
  have hbA : ¬ va_A ([]) s.heap.size b := by
    rintro (⟨k9, e9, h9⟩ | h9)
    · simp at h9
    · exact absurd hbs (Nat.not_lt.mpr h9)
  have hS : va_S (va_A ([]) s.heap.size) s.heap s.heap [] := va_S.rf
  have hw_0 := hts (.constant RL 7 (2752361)) (by decide +kernel)
  have hl := lv_entry ([.ref b, .int a1]) (n := 2) (Nat.le_of_ble_eq_true rfl)
  rw [lg_entry_eq]
  generalize (lg_sl ([.ref b, .int a1]) ++ List.replicate (2 - (lg_sl ([.ref b, .int a1])).length) Slot.unset).toArray = ls at hl ⊢
  have hl : lv_has ls 2 [(0, .ref b), (1, .int a1)] := hl
  rw [m_L_cell] at h
  refine lv_iload_n hx hb dL_cell_0 rfl (lv_at hl 1 rfl) ?_
  refine lv_aload_n hx hb dL_cell_1 rfl (lv_at hl 0 rfl) ?_
  refine va_slen hx hb hX hbs hbA hS dL_cell_2 ?_
  refine lv_icmp_ge (tgt := 12) hx hb dL_cell_3 (by decide) (fun c_1 => ?_) (fun c_1 => ?_)
  · replace h := (if_pos c_1).symm.trans h
    cases h
    refine lv_ldc hx hb hown hw_0 dL_cell_12 ?_
    refine lv_iload_n hx hb dL_cell_14 rfl (lv_at hl 1 rfl) ?_
    refine lv_imul hx hb dL_cell_15 ?_
    refine lv_sipush (v := 1091) hx hb dL_cell_16 (by decide) ?_
    refine lv_iadd hx hb dL_cell_19 ?_
    exact W.iret hx hb hr (fun t ht hW => ⟨⟨_, (), rfl, rfl, trivial⟩, hS.F ht⟩) hS.2.2 dL_cell_20
  · replace h := (if_neg c_1).symm.trans h
    obtain ⟨h_2, h⟩ := ix_some h
    cases h
    refine lv_aload_n hx hb dL_cell_6 rfl (lv_at hl 0 rfl) ?_
    refine lv_iload_n hx hb dL_cell_7 rfl (lv_at hl 1 rfl) ?_
    refine va_sld hx hb hX hbs hbA hS h_2 dL_cell_8 ?_
    refine lv_goto (tgt := 20) hx hb dL_cell_9 (by decide) ?_
    exact W.iret hx hb hr (fun t ht hW => ⟨⟨_, (), rfl, rfl, trivial⟩, hS.F ht⟩) hS.2.2 dL_cell_20
section
variable {p : Program} {l : Launch} {e : Env} {R : Room} {s : State} {m : MethodId} {args : Array Value} {below : List Frame} {meth : Method} {c : Code} {H : Heap} {locs : List Loc} {cells slots : Nat} {Q : State → Prop}
  {Ts wsY : List Cond} {cc bytes : ByteArray} {nL maxL index n : Nat} {own : String} {y : MethodName} {ret : Option FieldType} {rm : Room} {b L : Nat} {xs : Nat → Int32} {As rest st0 : List Value} {D : va_G} {ws : va_W} {A : Nat → Prop} {pc : Nat} {ls : Array Slot}
/-- a static call that reads the script alone -/
theorem gl_C {r0 : Int32} (SF : CallFix p m c cc nL s args Ts own)
    (hM : Met l y wsY rm (va_Pc As (bx_PreX b L xs H.size)) (va_Qi (fun (r : Int32) (_ : Unit) => r = r0) (fun (_ : Unit) _ => True) (va_A [] H.size)) 0 0 (va_A [] H.size))
    (cw : CallB R s args own index y bytes maxL ret wsY rm 0 0 n ∧ (Cond.static y).before args s = true)
    (hX : va_X b L xs s s.heap) (hbl : b < s.heap.size) (hbA : ¬ A b) (hP : va_P D vwCl ws H) (hD : va_D A ws) (hS : va_S A s.heap H locs) (hA : ∀ q, s.heap.size ≤ q → A q)
    (hg : (F0 m pc ls st0).method = m) (hn : As.length = n) (hsize : (F0 m pc ls st0).locals.size = nL) (hst : (F0 m pc ls st0).stack = As.reverse ++ rest) (hW : 2 * (F0 m pc ls st0).monitorRoom + (rest.map fun v => v.category).sum ≤ 8) (hdg : decode cc pc = .ok (.invokestatic index, 3)) (hf : cells + 0 ≤ R.cells ∧ slots + 0 ≤ R.slots)
    (kk : ∀ (H1 : Heap) (locs1 : List Loc), va_P D vwCl ws H1 → va_D A ws → va_S A s.heap H1 locs1 → W p l e R s m args below meth c H1 locs1 cells slots Q (F0 m (pc + 3) ls (.int r0 :: rest))) : W p l e R s m args below meth c H locs cells slots Q (F0 m pc ls st0) := by
  have hFc := va_free (wc := []) hD hS hA [] rfl
  have hX1 : va_X b L xs s H := hX.kept (hS.2.1 b hbl hbA)
  refine va_calli (va_runS (As := As) (rest := rest) SF hM cw ⟨bx_blindX, fun U hU hW => ⟨rfl, by rw [hU], by rw [hU]; exact va_X.moved hW.alike hX1, Nat.lt_of_lt_of_le hbl hS.1⟩⟩ hg hn hsize hst hW hdg hf) hS (fun q _ h => hFc q h) hFc (fun r u t H1 locs1 ht hvm hw hB hz1 hk1 hS => ?_)
  have hw : r = r0 := hw
  subst hw
  refine kk H1 locs1 (hP.kept (fun k q hk => hk1 q.1 (hP k q hk).lt ?_)) hD hS
  rintro (⟨k9, e9, h9⟩ | h9)
  · simp at h9
  · exact absurd (hP k q hk).lt (Nat.not_lt.mpr h9)
end
def bnd17 {α a1 a2 a3 a4 a5 a6 a7 a8 a9 a10 a11 a12 a13 a14 a15 a16 a17 : Type} (e : Option (a1 × a2 × a3 × a4 × a5 × a6 × a7 × a8 × a9 × a10 × a11 × a12 × a13 × a14 × a15 × a16 × a17)) (f : a1 → a2 → a3 → a4 → a5 → a6 → a7 → a8 → a9 → a10 → a11 → a12 → a13 → a14 → a15 → a16 → a17 → Option α) : Option α := match e with
  | none => none
  | some x => f x.1 x.2.1 x.2.2.1 x.2.2.2.1 x.2.2.2.2.1 x.2.2.2.2.2.1 x.2.2.2.2.2.2.1 x.2.2.2.2.2.2.2.1 x.2.2.2.2.2.2.2.2.1 x.2.2.2.2.2.2.2.2.2.1 x.2.2.2.2.2.2.2.2.2.2.1 x.2.2.2.2.2.2.2.2.2.2.2.1 x.2.2.2.2.2.2.2.2.2.2.2.2.1 x.2.2.2.2.2.2.2.2.2.2.2.2.2.1 x.2.2.2.2.2.2.2.2.2.2.2.2.2.2.1 x.2.2.2.2.2.2.2.2.2.2.2.2.2.2.2.1 x.2.2.2.2.2.2.2.2.2.2.2.2.2.2.2.2
theorem bnd17_some {α a1 a2 a3 a4 a5 a6 a7 a8 a9 a10 a11 a12 a13 a14 a15 a16 a17 : Type} {e : Option (a1 × a2 × a3 × a4 × a5 × a6 × a7 × a8 × a9 × a10 × a11 × a12 × a13 × a14 × a15 × a16 × a17)} {f : a1 → a2 → a3 → a4 → a5 → a6 → a7 → a8 → a9 → a10 → a11 → a12 → a13 → a14 → a15 → a16 → a17 → Option α} {r : α} (h : bnd17 e f = some r) : ∃ x1 x2 x3 x4 x5 x6 x7 x8 x9 x10 x11 x12 x13 x14 x15 x16 x17, e = some (x1, x2, x3, x4, x5, x6, x7, x8, x9, x10, x11, x12, x13, x14, x15, x16, x17) ∧ f x1 x2 x3 x4 x5 x6 x7 x8 x9 x10 x11 x12 x13 x14 x15 x16 x17 = some r := by
  cases e with
  | none => cases h
  | some x => exact ⟨x.1, x.2.1, x.2.2.1, x.2.2.2.1, x.2.2.2.2.1, x.2.2.2.2.2.1, x.2.2.2.2.2.2.1, x.2.2.2.2.2.2.2.1, x.2.2.2.2.2.2.2.2.1, x.2.2.2.2.2.2.2.2.2.1, x.2.2.2.2.2.2.2.2.2.2.1, x.2.2.2.2.2.2.2.2.2.2.2.1, x.2.2.2.2.2.2.2.2.2.2.2.2.1, x.2.2.2.2.2.2.2.2.2.2.2.2.2.1, x.2.2.2.2.2.2.2.2.2.2.2.2.2.2.1, x.2.2.2.2.2.2.2.2.2.2.2.2.2.2.2.1, x.2.2.2.2.2.2.2.2.2.2.2.2.2.2.2.2, rfl, h⟩
def m_L_act (fu : Nat) (g : Nat → Int32) (rm : Nat → Int32) (op : Nat → Int32) (rc : Int32) (ec : Int32) (su : Int32) (pe : Int32) (qt : Int32) (rs : Nat → Int32) (rn : Int32) (cs : Nat → Int32) (cn : Int32) (lc : Nat → Int64) (hc : Nat → Int64) (lg : Nat → Int64) (hg : Nat → Int64) (k x : Int32) : Option (Int32 × (Nat → Int32) × (Nat → Int32) × (Nat → Int32) × (Int32) × (Int32) × (Int32) × (Int32) × (Int32) × (Nat → Int32) × (Int32) × (Nat → Int32) × (Int32) × (Nat → Int64) × (Nat → Int64) × (Nat → Int64) × (Nat → Int64)) := (if k = 0 then bnd3 (m_L_act_k0 fu g rm qt x) (fun r_0 g_0 rm_0 => some (r_0, g_0, rm_0, op, rc, ec, su, pe, qt, rs, rn, cs, cn, lc, hc, lg, hg)) else (if k = 1 then bnd3 (m_L_act_k1 fu g rm qt x) (fun r_0 g_0 rm_0 => some (r_0, g_0, rm_0, op, rc, ec, su, pe, qt, rs, rn, cs, cn, lc, hc, lg, hg)) else (if k = 2 then bnd3 (m_L_act_k2 g rm qt x) (fun r_0 g_0 rm_0 => some (r_0, g_0, rm_0, op, rc, ec, su, pe, qt, rs, rn, cs, cn, lc, hc, lg, hg)) else (if k = 3 then bnd2 (m_L_act_k3 g x) (fun r_0 g_0 => some (r_0, g_0, rm, op, rc, ec, su, pe, qt, rs, rn, cs, cn, lc, hc, lg, hg)) else (if k = 4 then bnd2 (m_L_act_k4 op x) (fun r_0 op_0 => some (r_0, g, rm, op_0, rc, ec, su, pe, qt, rs, rn, cs, cn, lc, hc, lg, hg)) else (if k = 5 then bnd3 (m_L_act_k5 rc ec x) (fun r_0 rc_0 ec_0 => some (r_0, g, rm, op, rc_0, ec_0, su, pe, qt, rs, rn, cs, cn, lc, hc, lg, hg)) else (if k = 6 then bnd2 (m_L_act_k6 su x) (fun r_0 su_0 => some (r_0, g, rm, op, rc, ec, su_0, pe, qt, rs, rn, cs, cn, lc, hc, lg, hg)) else (if k = 7 then bnd2 (m_L_act_k7 pe x) (fun r_0 pe_0 => some (r_0, g, rm, op, rc, ec, su, pe_0, qt, rs, rn, cs, cn, lc, hc, lg, hg)) else (if k = 8 then bnd2 (m_L_act_k8 g rm qt x) (fun r_0 rm_0 => some (r_0, g, rm_0, op, rc, ec, su, pe, qt, rs, rn, cs, cn, lc, hc, lg, hg)) else (if k = 9 then bnd3 (m_L_act_k9 fu g rm pe qt x) (fun r_0 g_0 qt_0 => some (r_0, g_0, rm, op, rc, ec, su, pe, qt_0, rs, rn, cs, cn, lc, hc, lg, hg)) else (if k = 10 then bnd9 (m_L_act_k10 fu g op rc ec su rs rn cs cn lc hc lg hg x) (fun r_0 rs_0 rn_0 cs_0 cn_0 lc_0 hc_0 lg_0 hg_0 => some (r_0, g, rm, op, rc, ec, su, pe, qt, rs_0, rn_0, cs_0, cn_0, lc_0, hc_0, lg_0, hg_0)) else (if k = 11 then bnd9 (m_L_act_k11 fu g op rc ec su rs rn cs cn lc hc lg hg x) (fun r_0 rs_0 rn_0 cs_0 cn_0 lc_0 hc_0 lg_0 hg_0 => some (r_0, g, rm, op, rc, ec, su, pe, qt, rs_0, rn_0, cs_0, cn_0, lc_0, hc_0, lg_0, hg_0)) else (if k = 12 then bnd2 (m_L_act_k12 rn x) (fun r_0 rn_0 => some (r_0, g, rm, op, rc, ec, su, pe, qt, rs, rn_0, cs, cn, lc, hc, lg, hg)) else none)))))))))))))
set_option maxHeartbeats 4000000 in
theorem c_L_act (l : Launch) (hst : l.stackTraces = false) (D : va_G) (cI cJ : ClassId) (x0 x1 x2 x3 x4 x5 x6 x7 x8 x9 : Nat) (sz : Nat) (g : Nat → Int32) (rm : Nat → Int32) (op : Nat → Int32) (rc : Int32) (ec : Int32) (su : Int32) (pe : Int32) (qt : Int32) (rs : Nat → Int32) (rn : Int32) (cs : Nat → Int32) (cn : Int32) (lc : Nat → Int64) (hc : Nat → Int64) (lg : Nat → Int64) (hg : Nat → Int64) (fu : Nat) (k x r0 : Int32) (g' : Nat → Int32) (rm' : Nat → Int32) (op' : Nat → Int32) (rc' : Int32) (ec' : Int32) (su' : Int32) (pe' : Int32) (qt' : Int32) (rs' : Nat → Int32) (rn' : Int32) (cs' : Nat → Int32) (cn' : Int32) (lc' : Nat → Int64) (hc' : Nat → Int64) (lg' : Nat → Int64) (hg' : Nat → Int64) (h : m_L_act fu g rm op rc ec su pe qt rs rn cs cn lc hc lg hg k x = some (r0, g', rm', op', rc', ec', su', pe', qt', rs', rn', cs', cn', lc', hc', lg', hg')) : Met l yL_act wsL_act ({ frames := 8, cells := 1, slots := 6, locals := 142 }) (va_Pc [.ref x0, .int k, .int x] (bx_PreL D [(cI, .int), (cJ, .long)] (wX cI cJ x0 x1 x2 x3 x4 x5 x6 x7 x8 x9 g rm op rc ec su pe qt rs rn cs cn lc hc lg hg) sz)) (va_Qi (fun (r : Int32) (_ : Unit) => r = r0) (fun (_ : Unit) t => bx_Post D [(cI, .int), (cJ, .long)] (wX cI cJ x0 x1 x2 x3 x4 x5 x6 x7 x8 x9 g' rm' op' rc' ec' su' pe' qt' rs' rn' cs' cn' lc' hc' lg' hg') (va_A (wX cI cJ x0 x1 x2 x3 x4 x5 x6 x7 x8 x9 g rm op rc ec su pe qt rs rn cs cn lc hc lg hg) sz) t) (va_A (wX cI cJ x0 x1 x2 x3 x4 x5 x6 x7 x8 x9 g rm op rc ec su pe qt rs rn cs cn lc hc lg hg) sz)) 1 6 (va_A (wX cI cJ x0 x1 x2 x3 x4 x5 x6 x7 x8 x9 g rm op rc ec su pe qt rs rn cs cn lc hc lg hg) sz) := by
  rw [m_L_act] at h
  by_cases e0 : k = 0
  · replace h := (if_pos e0).symm.trans h
    subst e0
    obtain ⟨r_0, g_0, rm_0, e_0, h⟩ := bnd3_some h
    cases h
    exact c_L_act_k0 l hst D cI cJ x0 x1 x2 x3 x4 x5 x6 x7 x8 x9 _ _ _ _ _ _ _ _ _ _ _ _ _ _ _ _ _ fu x _ _ _ e_0
  replace h := (if_neg e0).symm.trans h
  by_cases e1 : k = 1
  · replace h := (if_pos e1).symm.trans h
    subst e1
    obtain ⟨r_0, g_0, rm_0, e_0, h⟩ := bnd3_some h
    cases h
    exact c_L_act_k1 l hst D cI cJ x0 x1 x2 x3 x4 x5 x6 x7 x8 x9 _ _ _ _ _ _ _ _ _ _ _ _ _ _ _ _ _ fu x _ _ _ e_0
  replace h := (if_neg e1).symm.trans h
  by_cases e2 : k = 2
  · replace h := (if_pos e2).symm.trans h
    subst e2
    obtain ⟨r_0, g_0, rm_0, e_0, h⟩ := bnd3_some h
    cases h
    exact c_L_act_k2 l hst D cI cJ x0 x1 x2 x3 x4 x5 x6 x7 x8 x9 _ _ _ _ _ _ _ _ _ _ _ _ _ _ _ _ _ x _ _ _ e_0
  replace h := (if_neg e2).symm.trans h
  by_cases e3 : k = 3
  · replace h := (if_pos e3).symm.trans h
    subst e3
    obtain ⟨r_0, g_0, e_0, h⟩ := bnd2_some h
    cases h
    exact c_L_act_k3 l hst D cI cJ x0 x1 x2 x3 x4 x5 x6 x7 x8 x9 _ _ _ _ _ _ _ _ _ _ _ _ _ _ _ _ _ x _ _ e_0
  replace h := (if_neg e3).symm.trans h
  by_cases e4 : k = 4
  · replace h := (if_pos e4).symm.trans h
    subst e4
    obtain ⟨r_0, op_0, e_0, h⟩ := bnd2_some h
    cases h
    exact c_L_act_k4 l hst D cI cJ x0 x1 x2 x3 x4 x5 x6 x7 x8 x9 _ _ _ _ _ _ _ _ _ _ _ _ _ _ _ _ _ x _ _ e_0
  replace h := (if_neg e4).symm.trans h
  by_cases e5 : k = 5
  · replace h := (if_pos e5).symm.trans h
    subst e5
    obtain ⟨r_0, rc_0, ec_0, e_0, h⟩ := bnd3_some h
    cases h
    exact c_L_act_k5 l hst D cI cJ x0 x1 x2 x3 x4 x5 x6 x7 x8 x9 _ _ _ _ _ _ _ _ _ _ _ _ _ _ _ _ _ x _ _ _ e_0
  replace h := (if_neg e5).symm.trans h
  by_cases e6 : k = 6
  · replace h := (if_pos e6).symm.trans h
    subst e6
    obtain ⟨r_0, su_0, e_0, h⟩ := bnd2_some h
    cases h
    exact c_L_act_k6 l hst D cI cJ x0 x1 x2 x3 x4 x5 x6 x7 x8 x9 _ _ _ _ _ _ _ _ _ _ _ _ _ _ _ _ _ x _ _ e_0
  replace h := (if_neg e6).symm.trans h
  by_cases e7 : k = 7
  · replace h := (if_pos e7).symm.trans h
    subst e7
    obtain ⟨r_0, pe_0, e_0, h⟩ := bnd2_some h
    cases h
    exact c_L_act_k7 l hst D cI cJ x0 x1 x2 x3 x4 x5 x6 x7 x8 x9 _ _ _ _ _ _ _ _ _ _ _ _ _ _ _ _ _ x _ _ e_0
  replace h := (if_neg e7).symm.trans h
  by_cases e8 : k = 8
  · replace h := (if_pos e8).symm.trans h
    subst e8
    obtain ⟨r_0, rm_0, e_0, h⟩ := bnd2_some h
    cases h
    exact c_L_act_k8 l hst D cI cJ x0 x1 x2 x3 x4 x5 x6 x7 x8 x9 _ _ _ _ _ _ _ _ _ _ _ _ _ _ _ _ _ x _ _ e_0
  replace h := (if_neg e8).symm.trans h
  by_cases e9 : k = 9
  · replace h := (if_pos e9).symm.trans h
    subst e9
    obtain ⟨r_0, g_0, qt_0, e_0, h⟩ := bnd3_some h
    cases h
    exact c_L_act_k9 l hst D cI cJ x0 x1 x2 x3 x4 x5 x6 x7 x8 x9 _ _ _ _ _ _ _ _ _ _ _ _ _ _ _ _ _ fu x _ _ _ e_0
  replace h := (if_neg e9).symm.trans h
  by_cases e10 : k = 10
  · replace h := (if_pos e10).symm.trans h
    subst e10
    obtain ⟨r_0, rs_0, rn_0, cs_0, cn_0, lc_0, hc_0, lg_0, hg_0, e_0, h⟩ := bnd9_some h
    cases h
    exact c_L_act_k10 l hst D cI cJ x0 x1 x2 x3 x4 x5 x6 x7 x8 x9 _ _ _ _ _ _ _ _ _ _ _ _ _ _ _ _ _ fu x _ _ _ _ _ _ _ _ _ e_0
  replace h := (if_neg e10).symm.trans h
  by_cases e11 : k = 11
  · replace h := (if_pos e11).symm.trans h
    subst e11
    obtain ⟨r_0, rs_0, rn_0, cs_0, cn_0, lc_0, hc_0, lg_0, hg_0, e_0, h⟩ := bnd9_some h
    cases h
    exact c_L_act_k11 l hst D cI cJ x0 x1 x2 x3 x4 x5 x6 x7 x8 x9 _ _ _ _ _ _ _ _ _ _ _ _ _ _ _ _ _ fu x _ _ _ _ _ _ _ _ _ e_0
  replace h := (if_neg e11).symm.trans h
  by_cases e12 : k = 12
  · replace h := (if_pos e12).symm.trans h
    subst e12
    obtain ⟨r_0, rn_0, e_0, h⟩ := bnd2_some h
    cases h
    exact c_L_act_k12 l hst D cI cJ x0 x1 x2 x3 x4 x5 x6 x7 x8 x9 _ _ _ _ _ _ _ _ _ _ _ _ _ _ _ _ _ x _ _ e_0
  replace h := (if_neg e12).symm.trans h
  cases h
