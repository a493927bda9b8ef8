-- candidates
def m_L_candidates_125 (fu : Nat) (g : Nat → Int32) (op : Nat → Int32) (su : Int32) (b1 : Nat → Int32) (a2 : Int32) : Nat → Nat → Int32 → Int32 → Int32 → Int32 → Int32 → (Nat → Int32) → (Int32) → (Nat → Int64) → (Nat → Int64) → (Nat → Int64) → (Nat → Int64) → Option ((Int32) × (Nat → Int32) × (Int32) × (Nat → Int64) × (Nat → Int64) × (Nat → Int64) × (Nat → Int64))
  | 0, _, _, _, _, _, _, _, _, _, _, _, _ => none
  | n + 1, tg, v3, v5, v6, v8, v9, cs, cn, lc, hc, lg, hg => if tg = 0 then (if 4096 ≤ v6 then (if v5 = v3 then (bw6 "java/lang/IndexOutOfBoundsException" "java/lang/IndexOutOfBoundsException" (m_X0_candidate fu g op su cs cn lc hc lg hg v3) (fun r_34 cs_35 cn_36 lc_37 hc_38 lg_39 hg_40 => (if (wr1 (-2) r_34) = (-2) then (bw6 "java/lang/IndexOutOfBoundsException" "java/lang/IndexOutOfBoundsException" (m_X0_candidate fu g op su cs_35 cn_36 lc_37 hc_38 lg_39 hg_40 (-1)) (fun r_44 cs_45 cn_46 lc_47 hc_48 lg_49 hg_50 => (if (wr1 (-2) r_44) = (-2) then some (1, cs_45, cn_46, lc_47, hc_48, lg_49, hg_50) else some (0, cs_45, cn_46, lc_47, hc_48, lg_49, hg_50)))) else some (0, cs_35, cn_36, lc_37, hc_38, lg_39, hg_40)))) else some (0, cs, cn, lc, hc, lg, hg)) else (br0 (m_X0_holders fu g v6) (fun r_54 => (bnd1 (m_L_size fu r_54) (fun r_56 => (if r_56 < a2 then (m_L_candidates_125 fu g op su b1 a2 n 1 v3 v5 v6 0 0 cs cn lc hc lg hg) else (bnd1 (m_L_shared fu g r_54) (fun r_59 => (if r_59 = v6 then (m_L_candidates_125 fu g op su b1 a2 n 1 v3 v5 v6 1 0 cs cn lc hc lg hg) else (m_L_candidates_125 fu g op su b1 a2 n 1 v3 v5 v6 0 0 cs cn lc hc lg hg)))))))))) else (if 12 ≤ v9 then (if v8 = 0 then (m_L_candidates_125 fu g op su b1 a2 n 0 v3 (v5 + 0) (v6 + 1) 0 0 cs cn lc hc lg hg) else (m_L_candidates_125 fu g op su b1 a2 n 0 v3 (v5 + 1) (v6 + 1) 0 0 cs cn lc hc lg hg)) else (if v8 = 0 then (m_L_candidates_125 fu g op su b1 a2 n 0 v3 (v5 + 0) (v6 + 1) 0 0 cs cn lc hc lg hg) else (if ((v6 >>> (v9 &&& 31)) &&& 1) = 0 then (m_L_candidates_125 fu g op su b1 a2 n 1 v3 v5 v6 1 (v9 + 1) cs cn lc hc lg hg) else (ix v9 12 (if (v6 &&& (b1 (Int32.toNatClampNeg v9))) = 0 then (m_L_candidates_125 fu g op su b1 a2 n 1 v3 v5 v6 1 (v9 + 1) cs cn lc hc lg hg) else (m_L_candidates_125 fu g op su b1 a2 n 1 v3 v5 v6 0 (v9 + 1) cs cn lc hc lg hg))))))
def m_L_candidates_11 (fu : Nat) (g : Nat → Int32) (op : Nat → Int32) (su : Int32) (b1 : Nat → Int32) (a2 : Int32) : Nat → Nat → Int32 → Int32 → Int32 → Int32 → Int32 → (Nat → Int32) → (Int32) → (Nat → Int64) → (Nat → Int64) → (Nat → Int64) → (Nat → Int64) → Option ((Int32) × (Nat → Int32) × (Int32) × (Nat → Int64) × (Nat → Int64) × (Nat → Int64) × (Nat → Int64))
  | 0, _, _, _, _, _, _, _, _, _, _, _, _ => none
  | n + 1, tg, v3, v4, v5, v6, v8, cs, cn, lc, hc, lg, hg => if tg = 0 then (if v3 ≤ v5 then (m_L_candidates_125 fu g op su b1 a2 fu 0 v3 0 1 0 0 cs cn lc hc lg hg) else (br6 (m_X0_candidate fu g op su cs cn lc hc lg hg v5) (fun r_10 cs_11 cn_12 lc_13 hc_14 lg_15 hg_16 => (br0 (m_X0_holders fu g r_10) (fun r_18 => (if r_10 ≤ v4 then some (0, cs_11, cn_12, lc_13, hc_14, lg_15, hg_16) else (if 4095 < r_10 then some (0, cs_11, cn_12, lc_13, hc_14, lg_15, hg_16) else (bnd1 (m_L_shared fu g r_18) (fun r_22 => (if r_22 = r_10 then (bnd1 (m_L_size fu r_18) (fun r_25 => (if a2 ≤ r_25 then (m_L_candidates_11 fu g op su b1 a2 n 1 v3 0 v5 r_10 0 cs_11 cn_12 lc_13 hc_14 lg_15 hg_16) else some (0, cs_11, cn_12, lc_13, hc_14, lg_15, hg_16)))) else some (0, cs_11, cn_12, lc_13, hc_14, lg_15, hg_16))))))))))) else (if 12 ≤ v8 then (m_L_candidates_11 fu g op su b1 a2 n 0 v3 v6 (v5 + 1) 0 0 cs cn lc hc lg hg) else (if ((v6 >>> (v8 &&& 31)) &&& 1) = 1 then (ix v8 12 (if (v6 &&& (b1 (Int32.toNatClampNeg v8))) = 0 then (m_L_candidates_11 fu g op su b1 a2 n 1 v3 0 v5 v6 (v8 + 1) cs cn lc hc lg hg) else some (0, cs, cn, lc, hc, lg, hg))) else (m_L_candidates_11 fu g op su b1 a2 n 1 v3 0 v5 v6 (v8 + 1) cs cn lc hc lg hg)))
def m_L_candidates (fu : Nat) (g : Nat → Int32) (op : Nat → Int32) (su : Int32) (cs : Nat → Int32) (cn : Int32) (lc : Nat → Int64) (hc : Nat → Int64) (lg : Nat → Int64) (hg : Nat → Int64) (b1 : Nat → Int32) (a2 : Int32) : Option ((Int32) × (Nat → Int32) × (Int32) × (Nat → Int64) × (Nat → Int64) × (Nat → Int64) × (Nat → Int64)) := (bnd7 (m_X0_candidates fu g op su cs cn lc hc lg hg) (fun r_1 cs_2 cn_3 lc_4 hc_5 lg_6 hg_7 => (m_L_candidates_11 fu g op su b1 a2 fu 0 r_1 0 0 0 0 cs_2 cn_3 lc_4 hc_5 lg_6 hg_7)))
set_option maxHeartbeats 8000000 in
set_option maxRecDepth 100000 in
theorem c_L_candidates (l : Launch) (hst : l.stackTraces = false) (D : va_G) (cI cJ : ClassId) (x0 x1 x2 x3 x4 x5 x6 x7 x8 x9 : Nat) (p1 : Nat) (sz : Nat) (g : Nat → Int32) (rm : Nat → Int32) (op : Nat → Int32) (rc : Int32) (ec : Int32) (su : Int32) (pe : Int32) (qt : Int32) (rs : Nat → Int32) (rn : Int32) (cs : Nat → Int32) (cn : Int32) (lc : Nat → Int64) (hc : Nat → Int64) (lg : Nat → Int64) (hg : Nat → Int64) (b1 : Nat → Int32) (fu : Nat) (a2 : Int32) (r0 : Int32) (cs' : Nat → Int32) (cn' : Int32) (lc' : Nat → Int64) (hc' : Nat → Int64) (lg' : Nat → Int64) (hg' : Nat → Int64) (h : m_L_candidates fu g op su cs cn lc hc lg hg b1 a2 = some (r0, cs', cn', lc', hc', lg', hg')) : Met l yL_candidates wsL_candidates ({ frames := 8, cells := 2, slots := 12, locals := 133 }) (va_Pc [.ref x0, .ref p1, .int a2] (bx_PreL D [(cI, .int), (cJ, .long)] (wX cI cJ x0 x1 x2 x3 x4 x5 x6 x7 x8 x9 g rm op rc ec su pe qt rs rn cs cn lc hc lg hg ++ [(p1, .inl (cI, 12, .inl b1))]) sz)) (va_Qi (fun (r : Int32) (_ : Unit) => r = r0) (fun (_ : Unit) t => bx_Post D [(cI, .int), (cJ, .long)] (wX cI cJ x0 x1 x2 x3 x4 x5 x6 x7 x8 x9 g rm op rc ec su pe qt rs rn cs' cn' lc' hc' lg' hg' ++ [(p1, .inl (cI, 12, .inl b1))]) (va_A (wX cI cJ x0 x1 x2 x3 x4 x5 x6 x7 x8 x9 g rm op rc ec su pe qt rs rn cs cn lc hc lg hg ++ [(p1, .inl (cI, 12, .inl b1))]) sz) t) (va_A (wX cI cJ x0 x1 x2 x3 x4 x5 x6 x7 x8 x9 g rm op rc ec su pe qt rs rn cs cn lc hc lg hg ++ [(p1, .inl (cI, 12, .inl b1))]) sz)) 2 12 (va_A (wX cI cJ x0 x1 x2 x3 x4 x5 x6 x7 x8 x9 g rm op rc ec su pe qt rs rn cs cn lc hc lg hg ++ [(p1, .inl (cI, 12, .inl b1))]) sz) := by
  refine Met.ofW (cc := cL_candidates) (maxL := 10) (ret := (some .boolean)) (by decide) rfl ?_
  intro p e s m args below meth c s₁ B hml hv
  obtain ⟨rfl, hsz, hP, hK, hD0, hT⟩ := hv
  have hx := B.exec
  have hb := B.bytes
  have hr := B.returns
  have hts := atoms_spec (ws := wsL_candidates) B.pre
  have hown : s.vm.findClass RL = some m.cls := findClass_of_methodNamed B.named
  have hlocks := B.notSynchronized
  subst hsz
  have hD := hD0.self (sz := s.heap.size)
  generalize hAe : va_A (wX cI cJ x0 x1 x2 x3 x4 x5 x6 x7 x8 x9 g rm op rc ec su pe qt rs rn cs cn lc hc lg hg ++ [(p1, .inl (cI, 12, .inl b1))]) s.heap.size = A at hD hT ⊢
  have hA : ∀ q : Nat, s.heap.size ≤ q → A q := fun q h9 => by rw [← hAe]; exact Or.inr h9
  have hS : va_S A s.heap s.heap [] := va_S.rf
  have hl := lv_entry ([.ref x0, .ref p1, .int a2]) (n := 10) (Nat.le_of_ble_eq_true rfl)
  rw [lg_entry_eq]
  generalize (lg_sl ([.ref x0, .ref p1, .int a2]) ++ List.replicate (10 - (lg_sl ([.ref x0, .ref p1, .int a2])).length) Slot.unset).toArray = ls at hl ⊢
  have hl : lv_has ls 10 [(0, .ref x0), (1, .ref p1), (2, .int a2)] := hl
  have L125 : ∀ (n : Nat), (∀ (v3 : Int32) (v5 : Int32) (v6 : Int32) (cs : Nat → Int32) (cn : Int32) (lc : Nat → Int64) (hc : Nat → Int64) (lg : Nat → Int64) (hg : Nat → Int64) (H : Heap) (locs : List Loc) (ls : Array Slot), m_L_candidates_125 fu g op su b1 a2 n 0 v3 v5 v6 0 0 cs cn lc hc lg hg = some (r0, cs', cn', lc', hc', lg', hg') → va_P D vwCl (wX cI cJ x0 x1 x2 x3 x4 x5 x6 x7 x8 x9 g rm op rc ec su pe qt rs rn cs cn lc hc lg hg ++ [(p1, .inl (cI, 12, .inl b1))]) H → va_D A (wX cI cJ x0 x1 x2 x3 x4 x5 x6 x7 x8 x9 g rm op rc ec su pe qt rs rn cs cn lc hc lg hg ++ [(p1, .inl (cI, 12, .inl b1))]) → va_S A s.heap H locs → lv_has ls 10 [(0, .ref x0), (1, .ref p1), (2, .int a2), (3, .int v3), (5, .int v5), (6, .int v6)] → W p l e (headSpec wsL_candidates ({ frames := 8, cells := 2, slots := 12, locals := 133 })).room s m ([.ref x0, .ref p1, .int a2] : List Value).toArray below meth c H locs 0 0 (MQ below (va_Qi (fun (r : Int32) (_ : Unit) => r = r0) (fun (_ : Unit) t => bx_Post D [(cI, .int), (cJ, .long)] (wX cI cJ x0 x1 x2 x3 x4 x5 x6 x7 x8 x9 g rm op rc ec su pe qt rs rn cs' cn' lc' hc' lg' hg' ++ [(p1, .inl (cI, 12, .inl b1))]) A t) A) ([.ref x0, .ref p1, .int a2] : List Value).toArray s 2 12 A) (F0 m 125 ls [])) ∧ (∀ (v3 : Int32) (v5 : Int32) (v6 : Int32) (v8 : Int32) (v9 : Int32) (cs : Nat → Int32) (cn : Int32) (lc : Nat → Int64) (hc : Nat → Int64) (lg : Nat → Int64) (hg : Nat → Int64) (H : Heap) (locs : List Loc) (ls : Array Slot), m_L_candidates_125 fu g op su b1 a2 n 1 v3 v5 v6 v8 v9 cs cn lc hc lg hg = some (r0, cs', cn', lc', hc', lg', hg') → va_P D vwCl (wX cI cJ x0 x1 x2 x3 x4 x5 x6 x7 x8 x9 g rm op rc ec su pe qt rs rn cs cn lc hc lg hg ++ [(p1, .inl (cI, 12, .inl b1))]) H → va_D A (wX cI cJ x0 x1 x2 x3 x4 x5 x6 x7 x8 x9 g rm op rc ec su pe qt rs rn cs cn lc hc lg hg ++ [(p1, .inl (cI, 12, .inl b1))]) → va_S A s.heap H locs → lv_has ls 10 [(0, .ref x0), (1, .ref p1), (2, .int a2), (3, .int v3), (5, .int v5), (6, .int v6), (8, .int v8), (9, .int v9)] → W p l e (headSpec wsL_candidates ({ frames := 8, cells := 2, slots := 12, locals := 133 })).room s m ([.ref x0, .ref p1, .int a2] : List Value).toArray below meth c H locs 0 0 (MQ below (va_Qi (fun (r : Int32) (_ : Unit) => r = r0) (fun (_ : Unit) t => bx_Post D [(cI, .int), (cJ, .long)] (wX cI cJ x0 x1 x2 x3 x4 x5 x6 x7 x8 x9 g rm op rc ec su pe qt rs rn cs' cn' lc' hc' lg' hg' ++ [(p1, .inl (cI, 12, .inl b1))]) A t) A) ([.ref x0, .ref p1, .int a2] : List Value).toArray s 2 12 A) (F0 m 171 ls [])) := by
    intro n
    induction n with
    | zero =>
      refine ⟨?_, ?_⟩
      · intro v3 v5 v6 cs cn lc hc lg hg H locs ls h
        rw [m_L_candidates_125] at h
        cases h
      · intro v3 v5 v6 v8 v9 cs cn lc hc lg hg H locs ls h
        rw [m_L_candidates_125] at h
        cases h
    | succ n ih =>
      refine ⟨?_, ?_⟩
      · intro v3 v5 v6 cs cn lc hc lg hg H locs ls h hP hD hS hl
        rw [m_L_candidates_125] at h
        replace h := (if_pos rfl).symm.trans h
        refine lv_iload hx hb dL_candidates_125 (lv_at hl 5 rfl) ?_
        refine lv_sipush (v := 4096) hx hb dL_candidates_127 (by decide) ?_
        refine lv_icmp_ge (tgt := 237) hx hb dL_candidates_130 (by decide) (fun c_32 => ?_) (fun c_32 => ?_)
        · replace h := (if_pos c_32).symm.trans h
          refine lv_iload hx hb dL_candidates_237 (lv_at hl 4 rfl) ?_
          refine lv_iload_n hx hb dL_candidates_239 rfl (lv_at hl 3 rfl) ?_
          refine lv_icmp_ne (tgt := 267) hx hb dL_candidates_240 (by decide) (fun c_33 => ?_) (fun c_33 => ?_)
          · replace h := (if_neg c_33).symm.trans h
            refine lv_iconst (v := 0) hx hb dL_candidates_267 (by decide) ?_
            cases h
            refine W.widen (k := 2) (n := 12) (Nat.le_of_ble_eq_true rfl) (Nat.le_of_ble_eq_true rfl) ?_
            exact W.zret hx hb hr rfl (fun t ht hW => ⟨⟨_, (), rfl, rfl, by rw [ht]; exact hP, va_K.moved hW.alike hK, hD⟩, hS.F ht⟩) hS.2.2 dL_candidates_268
          · replace h := (if_pos c_33).symm.trans h
            refine lv_aload_n hx hb dL_candidates_243 rfl (lv_at hl 0 rfl) ?_
            refine lv_iload_n hx hb dL_candidates_244 rfl (lv_at hl 3 rfl) ?_
            obtain ⟨r_34, cs_35, cn_36, lc_37, hc_38, lg_39, hg_40, e_41, hE_42, h⟩ := bw6_some h
            refine gl_W1 (As := [.ref x0, .int v3]) (rest := []) (wc := wX cI cJ x0 x1 x2 x3 x4 x5 x6 x7 x8 x9 g rm op rc ec su pe qt rs rn cs cn lc hc lg hg) (w1 := wX cI cJ x0 x1 x2 x3 x4 x5 x6 x7 x8 x9 g rm op rc ec su pe qt rs rn cs_35 cn_36 lc_37 hc_38 lg_39 hg_40) (wr := [(p1, .inl (cI, 12, .inl b1))]) ⟨hx, hb, hml, hown, hts⟩ (c_L_candidate l hst D cI cJ x0 x1 x2 x3 x4 x5 x6 x7 x8 x9 _ g rm op rc ec su pe qt rs rn cs cn lc hc lg hg fu v3 r_34 cs_35 cn_36 lc_37 hc_38 lg_39 hg_40 e_41 hE_42) (vx_cwSW 2 hts gL_candidates_L_candidate rfl rfl rfl (by decide +kernel) ⟨Nat.le_of_ble_eq_true rfl, Nat.le_of_ble_eq_true rfl⟩) hK hP hD hS hA hT [0, 1, 2, 3, 4, 5, 6, 7, 8, 9] [10] rfl rfl (by decide) (by decide) rfl rfl rfl hl.1 rfl (lv_room (Nat.le_of_ble_eq_true rfl)) dL_candidates_245 ⟨Nat.le_of_ble_eq_true rfl, Nat.le_of_ble_eq_true rfl⟩ (fun H locs hP hD hS => ?_)
            replace hP := hP.sub (ws' := wX cI cJ x0 x1 x2 x3 x4 x5 x6 x7 x8 x9 g rm op rc ec su pe qt rs rn cs_35 cn_36 lc_37 hc_38 lg_39 hg_40 ++ [(p1, .inl (cI, 12, .inl b1))]) [1, 2, 3, 4, 5, 6, 7, 8, 9, 10, 0] rfl
            replace hD := hD.sub (ws' := wX cI cJ x0 x1 x2 x3 x4 x5 x6 x7 x8 x9 g rm op rc ec su pe qt rs rn cs_35 cn_36 lc_37 hc_38 lg_39 hg_40 ++ [(p1, .inl (cI, 12, .inl b1))]) [1, 2, 3, 4, 5, 6, 7, 8, 9, 10, 0] (by decide) rfl
            refine lv_bipush (v := (-2)) hx hb dL_candidates_248 (by decide) ?_
            refine lv_icmp_ne (tgt := 267) hx hb dL_candidates_250 (by decide) (fun c_43 => ?_) (fun c_43 => ?_)
            · replace h := (if_neg c_43).symm.trans h
              refine lv_iconst (v := 0) hx hb dL_candidates_267 (by decide) ?_
              cases h
              refine W.widen (k := 2) (n := 12) (Nat.le_of_ble_eq_true rfl) (Nat.le_of_ble_eq_true rfl) ?_
              exact W.zret hx hb hr rfl (fun t ht hW => ⟨⟨_, (), rfl, rfl, by rw [ht]; exact hP, va_K.moved hW.alike hK, hD⟩, hS.F ht⟩) hS.2.2 dL_candidates_268
            · replace h := (if_pos c_43).symm.trans h
              refine lv_aload_n hx hb dL_candidates_253 rfl (lv_at hl 0 rfl) ?_
              refine lv_iconst (v := (-1)) hx hb dL_candidates_254 (by decide) ?_
              obtain ⟨r_44, cs_45, cn_46, lc_47, hc_48, lg_49, hg_50, e_51, hE_52, h⟩ := bw6_some h
              refine gl_W1 (As := [.ref x0, .int (-1)]) (rest := []) (wc := wX cI cJ x0 x1 x2 x3 x4 x5 x6 x7 x8 x9 g rm op rc ec su pe qt rs rn cs_35 cn_36 lc_37 hc_38 lg_39 hg_40) (w1 := wX cI cJ x0 x1 x2 x3 x4 x5 x6 x7 x8 x9 g rm op rc ec su pe qt rs rn cs_45 cn_46 lc_47 hc_48 lg_49 hg_50) (wr := [(p1, .inl (cI, 12, .inl b1))]) ⟨hx, hb, hml, hown, hts⟩ (c_L_candidate l hst D cI cJ x0 x1 x2 x3 x4 x5 x6 x7 x8 x9 _ g rm op rc ec su pe qt rs rn cs_35 cn_36 lc_37 hc_38 lg_39 hg_40 fu (-1) r_44 cs_45 cn_46 lc_47 hc_48 lg_49 hg_50 e_51 hE_52) (vx_cwSW 2 hts gL_candidates_L_candidate rfl rfl rfl (by decide +kernel) ⟨Nat.le_of_ble_eq_true rfl, Nat.le_of_ble_eq_true rfl⟩) hK hP hD hS hA hT [0, 1, 2, 3, 4, 5, 6, 7, 8, 9] [10] rfl rfl (by decide) (by decide) rfl rfl rfl hl.1 rfl (lv_room (Nat.le_of_ble_eq_true rfl)) dL_candidates_255 ⟨Nat.le_of_ble_eq_true rfl, Nat.le_of_ble_eq_true rfl⟩ (fun H locs hP hD hS => ?_)
              replace hP := hP.sub (ws' := wX cI cJ x0 x1 x2 x3 x4 x5 x6 x7 x8 x9 g rm op rc ec su pe qt rs rn cs_45 cn_46 lc_47 hc_48 lg_49 hg_50 ++ [(p1, .inl (cI, 12, .inl b1))]) [1, 2, 3, 4, 5, 6, 7, 8, 9, 10, 0] rfl
              replace hD := hD.sub (ws' := wX cI cJ x0 x1 x2 x3 x4 x5 x6 x7 x8 x9 g rm op rc ec su pe qt rs rn cs_45 cn_46 lc_47 hc_48 lg_49 hg_50 ++ [(p1, .inl (cI, 12, .inl b1))]) [1, 2, 3, 4, 5, 6, 7, 8, 9, 10, 0] (by decide) rfl
              refine lv_bipush (v := (-2)) hx hb dL_candidates_258 (by decide) ?_
              refine lv_icmp_ne (tgt := 267) hx hb dL_candidates_260 (by decide) (fun c_53 => ?_) (fun c_53 => ?_)
              · replace h := (if_neg c_53).symm.trans h
                refine lv_iconst (v := 0) hx hb dL_candidates_267 (by decide) ?_
                cases h
                exact W.zret hx hb hr rfl (fun t ht hW => ⟨⟨_, (), rfl, rfl, by rw [ht]; exact hP, va_K.moved hW.alike hK, hD⟩, hS.F ht⟩) hS.2.2 dL_candidates_268
              · replace h := (if_pos c_53).symm.trans h
                refine lv_iconst (v := 1) hx hb dL_candidates_263 (by decide) ?_
                refine lv_goto (tgt := 268) hx hb dL_candidates_264 (by decide) ?_
                cases h
                exact W.zret hx hb hr rfl (fun t ht hW => ⟨⟨_, (), rfl, rfl, by rw [ht]; exact hP, va_K.moved hW.alike hK, hD⟩, hS.F ht⟩) hS.2.2 dL_candidates_268
        · replace h := (if_neg c_32).symm.trans h
          refine lv_aload_n hx hb dL_candidates_133 rfl (lv_at hl 0 rfl) ?_
          refine lv_iload hx hb dL_candidates_134 (lv_at hl 5 rfl) ?_
          obtain ⟨r_54, e_55, h⟩ := br0_some h
          refine gl_W0 (As := [.ref x0, .int v6]) (rest := []) (wc := wX cI cJ x0 x1 x2 x3 x4 x5 x6 x7 x8 x9 g rm op rc ec su pe qt rs rn cs cn lc hc lg hg) (w1 := wX cI cJ x0 x1 x2 x3 x4 x5 x6 x7 x8 x9 g rm op rc ec su pe qt rs rn cs cn lc hc lg hg) (wr := [(p1, .inl (cI, 12, .inl b1))]) ⟨hx, hb, hml, hown, hts⟩ (c0_L_holders l D cI cJ x0 x1 x2 x3 x4 x5 x6 x7 x8 x9 _ g rm op rc ec su pe qt rs rn cs cn lc hc lg hg fu v6 r_54 e_55) (vx_cwSW 2 hts gL_candidates_L_holders rfl rfl rfl (by decide +kernel) ⟨Nat.le_of_ble_eq_true rfl, Nat.le_of_ble_eq_true rfl⟩) hK hP hD hS hA [0, 1, 2, 3, 4, 5, 6, 7, 8, 9] [10] rfl rfl (by decide) (by decide) rfl rfl rfl hl.1 rfl (lv_room (Nat.le_of_ble_eq_true rfl)) dL_candidates_136 ⟨Nat.le_of_ble_eq_true rfl, Nat.le_of_ble_eq_true rfl⟩ (fun H locs hP hD hS => ?_)
          replace hP := hP.sub (ws' := wX cI cJ x0 x1 x2 x3 x4 x5 x6 x7 x8 x9 g rm op rc ec su pe qt rs rn cs cn lc hc lg hg ++ [(p1, .inl (cI, 12, .inl b1))]) [1, 2, 3, 4, 5, 6, 7, 8, 9, 10, 0] rfl
          replace hD := hD.sub (ws' := wX cI cJ x0 x1 x2 x3 x4 x5 x6 x7 x8 x9 g rm op rc ec su pe qt rs rn cs cn lc hc lg hg ++ [(p1, .inl (cI, 12, .inl b1))]) [1, 2, 3, 4, 5, 6, 7, 8, 9, 10, 0] (by decide) rfl
          refine lv_istore (lv' := [(7, .int r_54), (0, .ref x0), (1, .ref p1), (2, .int a2), (3, .int v3), (5, .int v5), (6, .int v6)]) hx hb dL_candidates_139 hl (by decide) rfl (fun ls hl => ?_)
          refine lv_iload hx hb dL_candidates_141 (lv_at hl 0 rfl) ?_
          obtain ⟨r_56, e_57, h⟩ := bnd1_some h
          refine gl_Si0 (As := [.int r_54]) (rest := []) ⟨hx, hb, hml, hown, hts⟩ (c_L_size l D _ fu r_54 r_56 e_57) (va_cwS 1 hts gL_candidates_L_size rfl rfl rfl (by decide +kernel) ⟨Nat.le_of_ble_eq_true rfl, Nat.le_of_ble_eq_true rfl⟩) hK hP hD hS hA rfl rfl hl.1 rfl (lv_room (Nat.le_of_ble_eq_true rfl)) dL_candidates_143 ⟨Nat.le_of_ble_eq_true rfl, Nat.le_of_ble_eq_true rfl⟩ (fun H locs hP hD hS => ?_)
          refine lv_iload_n hx hb dL_candidates_146 rfl (lv_at hl 3 rfl) ?_
          refine lv_icmp_lt (tgt := 165) hx hb dL_candidates_147 (by decide) (fun c_58 => ?_) (fun c_58 => ?_)
          · replace h := (if_pos c_58).symm.trans h
            refine lv_iconst (v := 0) hx hb dL_candidates_165 (by decide) ?_
            refine lv_istore (lv' := [(8, .int 0), (7, .int r_54), (0, .ref x0), (1, .ref p1), (2, .int a2), (3, .int v3), (5, .int v5), (6, .int v6)]) hx hb dL_candidates_166 hl (by decide) rfl (fun ls hl => ?_)
            refine lv_iconst (v := 0) hx hb dL_candidates_168 (by decide) ?_
            refine lv_istore (lv' := [(9, .int 0), (8, .int 0), (7, .int r_54), (0, .ref x0), (1, .ref p1), (2, .int a2), (3, .int v3), (5, .int v5), (6, .int v6)]) hx hb dL_candidates_169 hl (by decide) rfl (fun ls hl => ?_)
            exact ih.2 v3 v5 v6 0 0 cs cn lc hc lg hg _ _ _ h hP hD hS (lv_sub hl [3, 4, 5, 6, 7, 8, 1, 0] rfl)
          · replace h := (if_neg c_58).symm.trans h
            refine lv_aload_n hx hb dL_candidates_150 rfl (lv_at hl 1 rfl) ?_
            refine lv_iload hx hb dL_candidates_151 (lv_at hl 0 rfl) ?_
            obtain ⟨r_59, e_60, h⟩ := bnd1_some h
            refine gl_Si (As := [.ref x0, .int r_54]) (rest := []) (wc := wX cI cJ x0 x1 x2 x3 x4 x5 x6 x7 x8 x9 g rm op rc ec su pe qt rs rn cs cn lc hc lg hg) (w1 := wX cI cJ x0 x1 x2 x3 x4 x5 x6 x7 x8 x9 g rm op rc ec su pe qt rs rn cs cn lc hc lg hg) (wr := [(p1, .inl (cI, 12, .inl b1))]) ⟨hx, hb, hml, hown, hts⟩ (c_L_shared l D cI cJ x0 x1 x2 x3 x4 x5 x6 x7 x8 x9 _ g rm op rc ec su pe qt rs rn cs cn lc hc lg hg fu r_54 r_59 e_60) (va_cwS 2 hts gL_candidates_L_shared rfl rfl rfl (by decide +kernel) ⟨Nat.le_of_ble_eq_true rfl, Nat.le_of_ble_eq_true rfl⟩) hK hP hD hS hA [0, 1, 2, 3, 4, 5, 6, 7, 8, 9] [10] rfl rfl (by decide) (by decide) rfl rfl rfl hl.1 rfl (lv_room (Nat.le_of_ble_eq_true rfl)) dL_candidates_153 ⟨Nat.le_of_ble_eq_true rfl, Nat.le_of_ble_eq_true rfl⟩ (fun H locs hP hD hS => ?_)
            replace hP := hP.sub (ws' := wX cI cJ x0 x1 x2 x3 x4 x5 x6 x7 x8 x9 g rm op rc ec su pe qt rs rn cs cn lc hc lg hg ++ [(p1, .inl (cI, 12, .inl b1))]) [1, 2, 3, 4, 5, 6, 7, 8, 9, 10, 0] rfl
            replace hD := hD.sub (ws' := wX cI cJ x0 x1 x2 x3 x4 x5 x6 x7 x8 x9 g rm op rc ec su pe qt rs rn cs cn lc hc lg hg ++ [(p1, .inl (cI, 12, .inl b1))]) [1, 2, 3, 4, 5, 6, 7, 8, 9, 10, 0] (by decide) rfl
            refine lv_iload hx hb dL_candidates_156 (lv_at hl 6 rfl) ?_
            refine lv_icmp_ne (tgt := 165) hx hb dL_candidates_158 (by decide) (fun c_61 => ?_) (fun c_61 => ?_)
            · replace h := (if_neg c_61).symm.trans h
              refine lv_iconst (v := 0) hx hb dL_candidates_165 (by decide) ?_
              refine lv_istore (lv' := [(8, .int 0), (7, .int r_54), (0, .ref x0), (1, .ref p1), (2, .int a2), (3, .int v3), (5, .int v5), (6, .int v6)]) hx hb dL_candidates_166 hl (by decide) rfl (fun ls hl => ?_)
              refine lv_iconst (v := 0) hx hb dL_candidates_168 (by decide) ?_
              refine lv_istore (lv' := [(9, .int 0), (8, .int 0), (7, .int r_54), (0, .ref x0), (1, .ref p1), (2, .int a2), (3, .int v3), (5, .int v5), (6, .int v6)]) hx hb dL_candidates_169 hl (by decide) rfl (fun ls hl => ?_)
              exact ih.2 v3 v5 v6 0 0 cs cn lc hc lg hg _ _ _ h hP hD hS (lv_sub hl [3, 4, 5, 6, 7, 8, 1, 0] rfl)
            · replace h := (if_pos c_61).symm.trans h
              refine lv_iconst (v := 1) hx hb dL_candidates_161 (by decide) ?_
              refine lv_goto (tgt := 166) hx hb dL_candidates_162 (by decide) ?_
              refine lv_istore (lv' := [(8, .int 1), (7, .int r_54), (0, .ref x0), (1, .ref p1), (2, .int a2), (3, .int v3), (5, .int v5), (6, .int v6)]) hx hb dL_candidates_166 hl (by decide) rfl (fun ls hl => ?_)
              refine lv_iconst (v := 0) hx hb dL_candidates_168 (by decide) ?_
              refine lv_istore (lv' := [(9, .int 0), (8, .int 1), (7, .int r_54), (0, .ref x0), (1, .ref p1), (2, .int a2), (3, .int v3), (5, .int v5), (6, .int v6)]) hx hb dL_candidates_169 hl (by decide) rfl (fun ls hl => ?_)
              exact ih.2 v3 v5 v6 1 0 cs cn lc hc lg hg _ _ _ h hP hD hS (lv_sub hl [3, 4, 5, 6, 7, 8, 1, 0] rfl)
      · intro v3 v5 v6 v8 v9 cs cn lc hc lg hg H locs ls h hP hD hS hl
        rw [m_L_candidates_125] at h
        replace h := (if_neg (by decide)).symm.trans h
        refine lv_iload hx hb dL_candidates_171 (lv_at hl 7 rfl) ?_
        refine lv_bipush (v := 12) hx hb dL_candidates_173 (by decide) ?_
        refine lv_icmp_ge (tgt := 216) hx hb dL_candidates_175 (by decide) (fun c_62 => ?_) (fun c_62 => ?_)
        · replace h := (if_pos c_62).symm.trans h
          refine lv_iload hx hb dL_candidates_216 (lv_at hl 4 rfl) ?_
          refine lv_iload hx hb dL_candidates_218 (lv_at hl 6 rfl) ?_
          refine lv_if_eq (tgt := 227) hx hb dL_candidates_220 (by decide) (fun c_63 => ?_) (fun c_63 => ?_)
          · replace h := (if_pos c_63).symm.trans h
            refine lv_iconst (v := 0) hx hb dL_candidates_227 (by decide) ?_
            refine lv_iadd hx hb dL_candidates_228 ?_
            refine lv_istore (lv' := [(5, .int (v5 + 0)), (0, .ref x0), (1, .ref p1), (2, .int a2), (3, .int v3), (6, .int v6), (8, .int v8), (9, .int v9)]) hx hb dL_candidates_229 hl (by decide) rfl (fun ls hl => ?_)
            refine lv_iinc (v := (v6 + 1)) (lv' := [(6, .int (v6 + 1)), (5, .int (v5 + 0)), (0, .ref x0), (1, .ref p1), (2, .int a2), (3, .int v3), (8, .int v8), (9, .int v9)]) hx hb dL_candidates_231 hl (k := 5) rfl rfl (by decide) rfl (fun ls hl => ?_)
            refine lv_goto (tgt := 125) hx hb dL_candidates_234 (by decide) ?_
            exact ih.1 v3 (v5 + 0) (v6 + 1) cs cn lc hc lg hg _ _ _ h hP hD hS (lv_sub hl [2, 3, 4, 5, 1, 0] rfl)
          · replace h := (if_neg c_63).symm.trans h
            refine lv_iconst (v := 1) hx hb dL_candidates_223 (by decide) ?_
            refine lv_goto (tgt := 228) hx hb dL_candidates_224 (by decide) ?_
            refine lv_iadd hx hb dL_candidates_228 ?_
            refine lv_istore (lv' := [(5, .int (v5 + 1)), (0, .ref x0), (1, .ref p1), (2, .int a2), (3, .int v3), (6, .int v6), (8, .int v8), (9, .int v9)]) hx hb dL_candidates_229 hl (by decide) rfl (fun ls hl => ?_)
            refine lv_iinc (v := (v6 + 1)) (lv' := [(6, .int (v6 + 1)), (5, .int (v5 + 1)), (0, .ref x0), (1, .ref p1), (2, .int a2), (3, .int v3), (8, .int v8), (9, .int v9)]) hx hb dL_candidates_231 hl (k := 5) rfl rfl (by decide) rfl (fun ls hl => ?_)
            refine lv_goto (tgt := 125) hx hb dL_candidates_234 (by decide) ?_
            exact ih.1 v3 (v5 + 1) (v6 + 1) cs cn lc hc lg hg _ _ _ h hP hD hS (lv_sub hl [2, 3, 4, 5, 1, 0] rfl)
        · replace h := (if_neg c_62).symm.trans h
          refine lv_iload hx hb dL_candidates_178 (lv_at hl 6 rfl) ?_
          refine lv_if_eq (tgt := 216) hx hb dL_candidates_180 (by decide) (fun c_64 => ?_) (fun c_64 => ?_)
          · replace h := (if_pos c_64).symm.trans h
            refine lv_iload hx hb dL_candidates_216 (lv_at hl 4 rfl) ?_
            refine lv_iload hx hb dL_candidates_218 (lv_at hl 6 rfl) ?_
            refine lv_if_eq (tgt := 227) hx hb dL_candidates_220 (by decide) (fun c_65 => ?_) (fun c_65 => ?_)
            · refine lv_iconst (v := 0) hx hb dL_candidates_227 (by decide) ?_
              refine lv_iadd hx hb dL_candidates_228 ?_
              refine lv_istore (lv' := [(5, .int (v5 + 0)), (0, .ref x0), (1, .ref p1), (2, .int a2), (3, .int v3), (6, .int v6), (8, .int v8), (9, .int v9)]) hx hb dL_candidates_229 hl (by decide) rfl (fun ls hl => ?_)
              refine lv_iinc (v := (v6 + 1)) (lv' := [(6, .int (v6 + 1)), (5, .int (v5 + 0)), (0, .ref x0), (1, .ref p1), (2, .int a2), (3, .int v3), (8, .int v8), (9, .int v9)]) hx hb dL_candidates_231 hl (k := 5) rfl rfl (by decide) rfl (fun ls hl => ?_)
              refine lv_goto (tgt := 125) hx hb dL_candidates_234 (by decide) ?_
              exact ih.1 v3 (v5 + 0) (v6 + 1) cs cn lc hc lg hg _ _ _ h hP hD hS (lv_sub hl [2, 3, 4, 5, 1, 0] rfl)
            · exact absurd c_64 c_65
          · replace h := (if_neg c_64).symm.trans h
            refine lv_iload hx hb dL_candidates_183 (lv_at hl 5 rfl) ?_
            refine lv_iload hx hb dL_candidates_185 (lv_at hl 7 rfl) ?_
            refine lv_ishr hx hb dL_candidates_187 ?_
            refine lv_iconst (v := 1) hx hb dL_candidates_188 (by decide) ?_
            refine lv_iand hx hb dL_candidates_189 ?_
            refine lv_if_eq (tgt := 203) hx hb dL_candidates_190 (by decide) (fun c_66 => ?_) (fun c_66 => ?_)
            · replace h := (if_pos c_66).symm.trans h
              refine lv_iconst (v := 1) hx hb dL_candidates_203 (by decide) ?_
              refine lv_goto (tgt := 208) hx hb dL_candidates_204 (by decide) ?_
              refine lv_istore (lv' := [(8, .int 1), (0, .ref x0), (1, .ref p1), (2, .int a2), (3, .int v3), (5, .int v5), (6, .int v6), (9, .int v9)]) hx hb dL_candidates_208 hl (by decide) rfl (fun ls hl => ?_)
              refine lv_iinc (v := (v9 + 1)) (lv' := [(9, .int (v9 + 1)), (8, .int 1), (0, .ref x0), (1, .ref p1), (2, .int a2), (3, .int v3), (5, .int v5), (6, .int v6)]) hx hb dL_candidates_210 hl (k := 7) rfl rfl (by decide) rfl (fun ls hl => ?_)
              refine lv_goto (tgt := 171) hx hb dL_candidates_213 (by decide) ?_
              exact ih.2 v3 v5 v6 1 (v9 + 1) cs cn lc hc lg hg _ _ _ h hP hD hS (lv_sub hl [2, 3, 4, 5, 6, 7, 1, 0] rfl)
            · replace h := (if_neg c_66).symm.trans h
              refine lv_iload hx hb dL_candidates_193 (lv_at hl 5 rfl) ?_
              refine lv_aload_n hx hb dL_candidates_195 rfl (lv_at hl 1 rfl) ?_
              refine lv_iload hx hb dL_candidates_196 (lv_at hl 7 rfl) ?_
              obtain ⟨h_67, h⟩ := ix_some h
              refine va_iald hx hb hK hP 10 0 rfl rfl h_67 dL_candidates_198 ?_
              refine lv_iand hx hb dL_candidates_199 ?_
              refine lv_if_ne (tgt := 207) hx hb dL_candidates_200 (by decide) (fun c_68 => ?_) (fun c_68 => ?_)
              · replace h := (if_neg c_68).symm.trans h
                refine lv_iconst (v := 0) hx hb dL_candidates_207 (by decide) ?_
                refine lv_istore (lv' := [(8, .int 0), (0, .ref x0), (1, .ref p1), (2, .int a2), (3, .int v3), (5, .int v5), (6, .int v6), (9, .int v9)]) hx hb dL_candidates_208 hl (by decide) rfl (fun ls hl => ?_)
                refine lv_iinc (v := (v9 + 1)) (lv' := [(9, .int (v9 + 1)), (8, .int 0), (0, .ref x0), (1, .ref p1), (2, .int a2), (3, .int v3), (5, .int v5), (6, .int v6)]) hx hb dL_candidates_210 hl (k := 7) rfl rfl (by decide) rfl (fun ls hl => ?_)
                refine lv_goto (tgt := 171) hx hb dL_candidates_213 (by decide) ?_
                exact ih.2 v3 v5 v6 0 (v9 + 1) cs cn lc hc lg hg _ _ _ h hP hD hS (lv_sub hl [2, 3, 4, 5, 6, 7, 1, 0] rfl)
              · replace h := (if_pos c_68).symm.trans h
                refine lv_iconst (v := 1) hx hb dL_candidates_203 (by decide) ?_
                refine lv_goto (tgt := 208) hx hb dL_candidates_204 (by decide) ?_
                refine lv_istore (lv' := [(8, .int 1), (0, .ref x0), (1, .ref p1), (2, .int a2), (3, .int v3), (5, .int v5), (6, .int v6), (9, .int v9)]) hx hb dL_candidates_208 hl (by decide) rfl (fun ls hl => ?_)
                refine lv_iinc (v := (v9 + 1)) (lv' := [(9, .int (v9 + 1)), (8, .int 1), (0, .ref x0), (1, .ref p1), (2, .int a2), (3, .int v3), (5, .int v5), (6, .int v6)]) hx hb dL_candidates_210 hl (k := 7) rfl rfl (by decide) rfl (fun ls hl => ?_)
                refine lv_goto (tgt := 171) hx hb dL_candidates_213 (by decide) ?_
                exact ih.2 v3 v5 v6 1 (v9 + 1) cs cn lc hc lg hg _ _ _ h hP hD hS (lv_sub hl [2, 3, 4, 5, 6, 7, 1, 0] rfl)
  have L11 : ∀ (n : Nat), (∀ (v3 : Int32) (v4 : Int32) (v5 : Int32) (cs : Nat → Int32) (cn : Int32) (lc : Nat → Int64) (hc : Nat → Int64) (lg : Nat → Int64) (hg : Nat → Int64) (H : Heap) (locs : List Loc) (ls : Array Slot), m_L_candidates_11 fu g op su b1 a2 n 0 v3 v4 v5 0 0 cs cn lc hc lg hg = some (r0, cs', cn', lc', hc', lg', hg') → va_P D vwCl (wX cI cJ x0 x1 x2 x3 x4 x5 x6 x7 x8 x9 g rm op rc ec su pe qt rs rn cs cn lc hc lg hg ++ [(p1, .inl (cI, 12, .inl b1))]) H → va_D A (wX cI cJ x0 x1 x2 x3 x4 x5 x6 x7 x8 x9 g rm op rc ec su pe qt rs rn cs cn lc hc lg hg ++ [(p1, .inl (cI, 12, .inl b1))]) → va_S A s.heap H locs → lv_has ls 10 [(0, .ref x0), (1, .ref p1), (2, .int a2), (3, .int v3), (4, .int v4), (5, .int v5)] → W p l e (headSpec wsL_candidates ({ frames := 8, cells := 2, slots := 12, locals := 133 })).room s m ([.ref x0, .ref p1, .int a2] : List Value).toArray below meth c H locs 0 0 (MQ below (va_Qi (fun (r : Int32) (_ : Unit) => r = r0) (fun (_ : Unit) t => bx_Post D [(cI, .int), (cJ, .long)] (wX cI cJ x0 x1 x2 x3 x4 x5 x6 x7 x8 x9 g rm op rc ec su pe qt rs rn cs' cn' lc' hc' lg' hg' ++ [(p1, .inl (cI, 12, .inl b1))]) A t) A) ([.ref x0, .ref p1, .int a2] : List Value).toArray s 2 12 A) (F0 m 11 ls [])) ∧ (∀ (v3 : Int32) (v5 : Int32) (v6 : Int32) (v8 : Int32) (cs : Nat → Int32) (cn : Int32) (lc : Nat → Int64) (hc : Nat → Int64) (lg : Nat → Int64) (hg : Nat → Int64) (H : Heap) (locs : List Loc) (ls : Array Slot), m_L_candidates_11 fu g op su b1 a2 n 1 v3 0 v5 v6 v8 cs cn lc hc lg hg = some (r0, cs', cn', lc', hc', lg', hg') → va_P D vwCl (wX cI cJ x0 x1 x2 x3 x4 x5 x6 x7 x8 x9 g rm op rc ec su pe qt rs rn cs cn lc hc lg hg ++ [(p1, .inl (cI, 12, .inl b1))]) H → va_D A (wX cI cJ x0 x1 x2 x3 x4 x5 x6 x7 x8 x9 g rm op rc ec su pe qt rs rn cs cn lc hc lg hg ++ [(p1, .inl (cI, 12, .inl b1))]) → va_S A s.heap H locs → lv_has ls 10 [(0, .ref x0), (1, .ref p1), (2, .int a2), (3, .int v3), (5, .int v5), (6, .int v6), (8, .int v8)] → W p l e (headSpec wsL_candidates ({ frames := 8, cells := 2, slots := 12, locals := 133 })).room s m ([.ref x0, .ref p1, .int a2] : List Value).toArray below meth c H locs 0 0 (MQ below (va_Qi (fun (r : Int32) (_ : Unit) => r = r0) (fun (_ : Unit) t => bx_Post D [(cI, .int), (cJ, .long)] (wX cI cJ x0 x1 x2 x3 x4 x5 x6 x7 x8 x9 g rm op rc ec su pe qt rs rn cs' cn' lc' hc' lg' hg' ++ [(p1, .inl (cI, 12, .inl b1))]) A t) A) ([.ref x0, .ref p1, .int a2] : List Value).toArray s 2 12 A) (F0 m 73 ls [])) := by
    intro n
    induction n with
    | zero =>
      refine ⟨?_, ?_⟩
      · intro v3 v4 v5 cs cn lc hc lg hg H locs ls h
        rw [m_L_candidates_11] at h
        cases h
      · intro v3 v5 v6 v8 cs cn lc hc lg hg H locs ls h
        rw [m_L_candidates_11] at h
        cases h
    | succ n ih =>
      refine ⟨?_, ?_⟩
      · intro v3 v4 v5 cs cn lc hc lg hg H locs ls h hP hD hS hl
        rw [m_L_candidates_11] at h
        replace h := (if_pos rfl).symm.trans h
        refine lv_iload hx hb dL_candidates_11 (lv_at hl 5 rfl) ?_
        refine lv_iload_n hx hb dL_candidates_13 rfl (lv_at hl 3 rfl) ?_
        refine lv_icmp_ge (tgt := 119) hx hb dL_candidates_14 (by decide) (fun c_9 => ?_) (fun c_9 => ?_)
        · replace h := (if_pos c_9).symm.trans h
          refine lv_iconst (v := 0) hx hb dL_candidates_119 (by decide) ?_
          refine lv_istore (lv' := [(5, .int 0), (0, .ref x0), (1, .ref p1), (2, .int a2), (3, .int v3), (4, .int v4)]) hx hb dL_candidates_120 hl (by decide) rfl (fun ls hl => ?_)
          refine lv_iconst (v := 1) hx hb dL_candidates_122 (by decide) ?_
          refine lv_istore (lv' := [(6, .int 1), (5, .int 0), (0, .ref x0), (1, .ref p1), (2, .int a2), (3, .int v3), (4, .int v4)]) hx hb dL_candidates_123 hl (by decide) rfl (fun ls hl => ?_)
          exact (L125 fu).1 v3 0 1 cs cn lc hc lg hg _ _ _ h hP hD hS (lv_sub hl [2, 3, 4, 5, 1, 0] rfl)
        · replace h := (if_neg c_9).symm.trans h
          refine lv_aload_n hx hb dL_candidates_17 rfl (lv_at hl 0 rfl) ?_
          refine lv_iload hx hb dL_candidates_18 (lv_at hl 5 rfl) ?_
          obtain ⟨r_10, cs_11, cn_12, lc_13, hc_14, lg_15, hg_16, e_17, h⟩ := br6_some h
          refine gl_W0 (As := [.ref x0, .int v5]) (rest := []) (wc := wX cI cJ x0 x1 x2 x3 x4 x5 x6 x7 x8 x9 g rm op rc ec su pe qt rs rn cs cn lc hc lg hg) (w1 := wX cI cJ x0 x1 x2 x3 x4 x5 x6 x7 x8 x9 g rm op rc ec su pe qt rs rn cs_11 cn_12 lc_13 hc_14 lg_15 hg_16) (wr := [(p1, .inl (cI, 12, .inl b1))]) ⟨hx, hb, hml, hown, hts⟩ (c0_L_candidate l D cI cJ x0 x1 x2 x3 x4 x5 x6 x7 x8 x9 _ g rm op rc ec su pe qt rs rn cs cn lc hc lg hg fu v5 r_10 cs_11 cn_12 lc_13 hc_14 lg_15 hg_16 e_17) (vx_cwSW 2 hts gL_candidates_L_candidate rfl rfl rfl (by decide +kernel) ⟨Nat.le_of_ble_eq_true rfl, Nat.le_of_ble_eq_true rfl⟩) hK hP hD hS hA [0, 1, 2, 3, 4, 5, 6, 7, 8, 9] [10] rfl rfl (by decide) (by decide) rfl rfl rfl hl.1 rfl (lv_room (Nat.le_of_ble_eq_true rfl)) dL_candidates_20 ⟨Nat.le_of_ble_eq_true rfl, Nat.le_of_ble_eq_true rfl⟩ (fun H locs hP hD hS => ?_)
          replace hP := hP.sub (ws' := wX cI cJ x0 x1 x2 x3 x4 x5 x6 x7 x8 x9 g rm op rc ec su pe qt rs rn cs_11 cn_12 lc_13 hc_14 lg_15 hg_16 ++ [(p1, .inl (cI, 12, .inl b1))]) [1, 2, 3, 4, 5, 6, 7, 8, 9, 10, 0] rfl
          replace hD := hD.sub (ws' := wX cI cJ x0 x1 x2 x3 x4 x5 x6 x7 x8 x9 g rm op rc ec su pe qt rs rn cs_11 cn_12 lc_13 hc_14 lg_15 hg_16 ++ [(p1, .inl (cI, 12, .inl b1))]) [1, 2, 3, 4, 5, 6, 7, 8, 9, 10, 0] (by decide) rfl
          refine lv_istore (lv' := [(6, .int r_10), (0, .ref x0), (1, .ref p1), (2, .int a2), (3, .int v3), (4, .int v4), (5, .int v5)]) hx hb dL_candidates_23 hl (by decide) rfl (fun ls hl => ?_)
          refine lv_aload_n hx hb dL_candidates_25 rfl (lv_at hl 1 rfl) ?_
          refine lv_iload hx hb dL_candidates_26 (lv_at hl 0 rfl) ?_
          obtain ⟨r_18, e_19, h⟩ := br0_some h
          refine gl_W0 (As := [.ref x0, .int r_10]) (rest := []) (wc := wX cI cJ x0 x1 x2 x3 x4 x5 x6 x7 x8 x9 g rm op rc ec su pe qt rs rn cs_11 cn_12 lc_13 hc_14 lg_15 hg_16) (w1 := wX cI cJ x0 x1 x2 x3 x4 x5 x6 x7 x8 x9 g rm op rc ec su pe qt rs rn cs_11 cn_12 lc_13 hc_14 lg_15 hg_16) (wr := [(p1, .inl (cI, 12, .inl b1))]) ⟨hx, hb, hml, hown, hts⟩ (c0_L_holders l D cI cJ x0 x1 x2 x3 x4 x5 x6 x7 x8 x9 _ g rm op rc ec su pe qt rs rn cs_11 cn_12 lc_13 hc_14 lg_15 hg_16 fu r_10 r_18 e_19) (vx_cwSW 2 hts gL_candidates_L_holders rfl rfl rfl (by decide +kernel) ⟨Nat.le_of_ble_eq_true rfl, Nat.le_of_ble_eq_true rfl⟩) hK hP hD hS hA [0, 1, 2, 3, 4, 5, 6, 7, 8, 9] [10] rfl rfl (by decide) (by decide) rfl rfl rfl hl.1 rfl (lv_room (Nat.le_of_ble_eq_true rfl)) dL_candidates_28 ⟨Nat.le_of_ble_eq_true rfl, Nat.le_of_ble_eq_true rfl⟩ (fun H locs hP hD hS => ?_)
          replace hP := hP.sub (ws' := wX cI cJ x0 x1 x2 x3 x4 x5 x6 x7 x8 x9 g rm op rc ec su pe qt rs rn cs_11 cn_12 lc_13 hc_14 lg_15 hg_16 ++ [(p1, .inl (cI, 12, .inl b1))]) [1, 2, 3, 4, 5, 6, 7, 8, 9, 10, 0] rfl
          replace hD := hD.sub (ws' := wX cI cJ x0 x1 x2 x3 x4 x5 x6 x7 x8 x9 g rm op rc ec su pe qt rs rn cs_11 cn_12 lc_13 hc_14 lg_15 hg_16 ++ [(p1, .inl (cI, 12, .inl b1))]) [1, 2, 3, 4, 5, 6, 7, 8, 9, 10, 0] (by decide) rfl
          refine lv_istore (lv' := [(7, .int r_18), (6, .int r_10), (0, .ref x0), (1, .ref p1), (2, .int a2), (3, .int v3), (4, .int v4), (5, .int v5)]) hx hb dL_candidates_31 hl (by decide) rfl (fun ls hl => ?_)
          refine lv_iload hx hb dL_candidates_33 (lv_at hl 1 rfl) ?_
          refine lv_iload hx hb dL_candidates_35 (lv_at hl 6 rfl) ?_
          refine lv_icmp_le (tgt := 68) hx hb dL_candidates_37 (by decide) (fun c_20 => ?_) (fun c_20 => ?_)
          · replace h := (if_pos c_20).symm.trans h
            refine lv_iconst (v := 0) hx hb dL_candidates_68 (by decide) ?_
            cases h
            refine W.widen (k := 2) (n := 12) (Nat.le_of_ble_eq_true rfl) (Nat.le_of_ble_eq_true rfl) ?_
            exact W.zret hx hb hr rfl (fun t ht hW => ⟨⟨_, (), rfl, rfl, by rw [ht]; exact hP, va_K.moved hW.alike hK, hD⟩, hS.F ht⟩) hS.2.2 dL_candidates_69
          · replace h := (if_neg c_20).symm.trans h
            refine lv_iload hx hb dL_candidates_40 (lv_at hl 1 rfl) ?_
            refine lv_sipush (v := 4095) hx hb dL_candidates_42 (by decide) ?_
            refine lv_icmp_gt (tgt := 68) hx hb dL_candidates_45 (by decide) (fun c_21 => ?_) (fun c_21 => ?_)
            · replace h := (if_pos c_21).symm.trans h
              refine lv_iconst (v := 0) hx hb dL_candidates_68 (by decide) ?_
              cases h
              refine W.widen (k := 2) (n := 12) (Nat.le_of_ble_eq_true rfl) (Nat.le_of_ble_eq_true rfl) ?_
              exact W.zret hx hb hr rfl (fun t ht hW => ⟨⟨_, (), rfl, rfl, by rw [ht]; exact hP, va_K.moved hW.alike hK, hD⟩, hS.F ht⟩) hS.2.2 dL_candidates_69
            · replace h := (if_neg c_21).symm.trans h
              refine lv_aload_n hx hb dL_candidates_48 rfl (lv_at hl 2 rfl) ?_
              refine lv_iload hx hb dL_candidates_49 (lv_at hl 0 rfl) ?_
              obtain ⟨r_22, e_23, h⟩ := bnd1_some h
              refine gl_Si (As := [.ref x0, .int r_18]) (rest := []) (wc := wX cI cJ x0 x1 x2 x3 x4 x5 x6 x7 x8 x9 g rm op rc ec su pe qt rs rn cs_11 cn_12 lc_13 hc_14 lg_15 hg_16) (w1 := wX cI cJ x0 x1 x2 x3 x4 x5 x6 x7 x8 x9 g rm op rc ec su pe qt rs rn cs_11 cn_12 lc_13 hc_14 lg_15 hg_16) (wr := [(p1, .inl (cI, 12, .inl b1))]) ⟨hx, hb, hml, hown, hts⟩ (c_L_shared l D cI cJ x0 x1 x2 x3 x4 x5 x6 x7 x8 x9 _ g rm op rc ec su pe qt rs rn cs_11 cn_12 lc_13 hc_14 lg_15 hg_16 fu r_18 r_22 e_23) (va_cwS 2 hts gL_candidates_L_shared rfl rfl rfl (by decide +kernel) ⟨Nat.le_of_ble_eq_true rfl, Nat.le_of_ble_eq_true rfl⟩) hK hP hD hS hA [0, 1, 2, 3, 4, 5, 6, 7, 8, 9] [10] rfl rfl (by decide) (by decide) rfl rfl rfl hl.1 rfl (lv_room (Nat.le_of_ble_eq_true rfl)) dL_candidates_51 ⟨Nat.le_of_ble_eq_true rfl, Nat.le_of_ble_eq_true rfl⟩ (fun H locs hP hD hS => ?_)
              replace hP := hP.sub (ws' := wX cI cJ x0 x1 x2 x3 x4 x5 x6 x7 x8 x9 g rm op rc ec su pe qt rs rn cs_11 cn_12 lc_13 hc_14 lg_15 hg_16 ++ [(p1, .inl (cI, 12, .inl b1))]) [1, 2, 3, 4, 5, 6, 7, 8, 9, 10, 0] rfl
              replace hD := hD.sub (ws' := wX cI cJ x0 x1 x2 x3 x4 x5 x6 x7 x8 x9 g rm op rc ec su pe qt rs rn cs_11 cn_12 lc_13 hc_14 lg_15 hg_16 ++ [(p1, .inl (cI, 12, .inl b1))]) [1, 2, 3, 4, 5, 6, 7, 8, 9, 10, 0] (by decide) rfl
              refine lv_iload hx hb dL_candidates_54 (lv_at hl 1 rfl) ?_
              refine lv_icmp_ne (tgt := 68) hx hb dL_candidates_56 (by decide) (fun c_24 => ?_) (fun c_24 => ?_)
              · replace h := (if_neg c_24).symm.trans h
                refine lv_iconst (v := 0) hx hb dL_candidates_68 (by decide) ?_
                cases h
                refine W.widen (k := 2) (n := 12) (Nat.le_of_ble_eq_true rfl) (Nat.le_of_ble_eq_true rfl) ?_
                exact W.zret hx hb hr rfl (fun t ht hW => ⟨⟨_, (), rfl, rfl, by rw [ht]; exact hP, va_K.moved hW.alike hK, hD⟩, hS.F ht⟩) hS.2.2 dL_candidates_69
              · replace h := (if_pos c_24).symm.trans h
                refine lv_iload hx hb dL_candidates_59 (lv_at hl 0 rfl) ?_
                obtain ⟨r_25, e_26, h⟩ := bnd1_some h
                refine gl_Si0 (As := [.int r_18]) (rest := []) ⟨hx, hb, hml, hown, hts⟩ (c_L_size l D _ fu r_18 r_25 e_26) (va_cwS 1 hts gL_candidates_L_size rfl rfl rfl (by decide +kernel) ⟨Nat.le_of_ble_eq_true rfl, Nat.le_of_ble_eq_true rfl⟩) hK hP hD hS hA rfl rfl hl.1 rfl (lv_room (Nat.le_of_ble_eq_true rfl)) dL_candidates_61 ⟨Nat.le_of_ble_eq_true rfl, Nat.le_of_ble_eq_true rfl⟩ (fun H locs hP hD hS => ?_)
                refine lv_iload_n hx hb dL_candidates_64 rfl (lv_at hl 4 rfl) ?_
                refine lv_icmp_ge (tgt := 70) hx hb dL_candidates_65 (by decide) (fun c_27 => ?_) (fun c_27 => ?_)
                · replace h := (if_pos c_27).symm.trans h
                  refine lv_iconst (v := 0) hx hb dL_candidates_70 (by decide) ?_
                  refine lv_istore (lv' := [(8, .int 0), (7, .int r_18), (6, .int r_10), (0, .ref x0), (1, .ref p1), (2, .int a2), (3, .int v3), (4, .int v4), (5, .int v5)]) hx hb dL_candidates_71 hl (by decide) rfl (fun ls hl => ?_)
                  exact ih.2 v3 v5 r_10 0 cs_11 cn_12 lc_13 hc_14 lg_15 hg_16 _ _ _ h hP hD hS (lv_sub hl [3, 4, 5, 6, 8, 2, 0] rfl)
                · replace h := (if_neg c_27).symm.trans h
                  refine lv_iconst (v := 0) hx hb dL_candidates_68 (by decide) ?_
                  cases h
                  refine W.widen (k := 2) (n := 12) (Nat.le_of_ble_eq_true rfl) (Nat.le_of_ble_eq_true rfl) ?_
                  exact W.zret hx hb hr rfl (fun t ht hW => ⟨⟨_, (), rfl, rfl, by rw [ht]; exact hP, va_K.moved hW.alike hK, hD⟩, hS.F ht⟩) hS.2.2 dL_candidates_69
      · intro v3 v5 v6 v8 cs cn lc hc lg hg H locs ls h hP hD hS hl
        rw [m_L_candidates_11] at h
        replace h := (if_neg (by decide)).symm.trans h
        refine lv_iload hx hb dL_candidates_73 (lv_at hl 6 rfl) ?_
        refine lv_bipush (v := 12) hx hb dL_candidates_75 (by decide) ?_
        refine lv_icmp_ge (tgt := 109) hx hb dL_candidates_77 (by decide) (fun c_28 => ?_) (fun c_28 => ?_)
        · replace h := (if_pos c_28).symm.trans h
          refine lv_iload hx hb dL_candidates_109 (lv_at hl 5 rfl) ?_
          refine lv_istore (lv' := [(4, .int v6), (0, .ref x0), (1, .ref p1), (2, .int a2), (3, .int v3), (5, .int v5), (6, .int v6), (8, .int v8)]) hx hb dL_candidates_111 hl (by decide) rfl (fun ls hl => ?_)
          refine lv_iinc (v := (v5 + 1)) (lv' := [(5, .int (v5 + 1)), (4, .int v6), (0, .ref x0), (1, .ref p1), (2, .int a2), (3, .int v3), (6, .int v6), (8, .int v8)]) hx hb dL_candidates_113 hl (k := 5) rfl rfl (by decide) rfl (fun ls hl => ?_)
          refine lv_goto (tgt := 11) hx hb dL_candidates_116 (by decide) ?_
          exact ih.1 v3 v6 (v5 + 1) cs cn lc hc lg hg _ _ _ h hP hD hS (lv_sub hl [2, 3, 4, 5, 1, 0] rfl)
        · replace h := (if_neg c_28).symm.trans h
          refine lv_iload hx hb dL_candidates_80 (lv_at hl 5 rfl) ?_
          refine lv_iload hx hb dL_candidates_82 (lv_at hl 6 rfl) ?_
          refine lv_ishr hx hb dL_candidates_84 ?_
          refine lv_iconst (v := 1) hx hb dL_candidates_85 (by decide) ?_
          refine lv_iand hx hb dL_candidates_86 ?_
          refine lv_iconst (v := 1) hx hb dL_candidates_87 (by decide) ?_
          refine lv_icmp_ne (tgt := 103) hx hb dL_candidates_88 (by decide) (fun c_29 => ?_) (fun c_29 => ?_)
          · replace h := (if_neg c_29).symm.trans h
            refine lv_iinc (v := (v8 + 1)) (lv' := [(8, .int (v8 + 1)), (0, .ref x0), (1, .ref p1), (2, .int a2), (3, .int v3), (5, .int v5), (6, .int v6)]) hx hb dL_candidates_103 hl (k := 6) rfl rfl (by decide) rfl (fun ls hl => ?_)
            refine lv_goto (tgt := 73) hx hb dL_candidates_106 (by decide) ?_
            exact ih.2 v3 v5 v6 (v8 + 1) cs cn lc hc lg hg _ _ _ h hP hD hS (lv_sub hl [1, 2, 3, 4, 5, 6, 0] rfl)
          · replace h := (if_pos c_29).symm.trans h
            refine lv_iload hx hb dL_candidates_91 (lv_at hl 5 rfl) ?_
            refine lv_aload_n hx hb dL_candidates_93 rfl (lv_at hl 1 rfl) ?_
            refine lv_iload hx hb dL_candidates_94 (lv_at hl 6 rfl) ?_
            obtain ⟨h_30, h⟩ := ix_some h
            refine va_iald hx hb hK hP 10 0 rfl rfl h_30 dL_candidates_96 ?_
            refine lv_iand hx hb dL_candidates_97 ?_
            refine lv_if_eq (tgt := 103) hx hb dL_candidates_98 (by decide) (fun c_31 => ?_) (fun c_31 => ?_)
            · replace h := (if_pos c_31).symm.trans h
              refine lv_iinc (v := (v8 + 1)) (lv' := [(8, .int (v8 + 1)), (0, .ref x0), (1, .ref p1), (2, .int a2), (3, .int v3), (5, .int v5), (6, .int v6)]) hx hb dL_candidates_103 hl (k := 6) rfl rfl (by decide) rfl (fun ls hl => ?_)
              refine lv_goto (tgt := 73) hx hb dL_candidates_106 (by decide) ?_
              exact ih.2 v3 v5 v6 (v8 + 1) cs cn lc hc lg hg _ _ _ h hP hD hS (lv_sub hl [1, 2, 3, 4, 5, 6, 0] rfl)
            · replace h := (if_neg c_31).symm.trans h
              refine lv_iconst (v := 0) hx hb dL_candidates_101 (by decide) ?_
              cases h
              refine W.widen (k := 2) (n := 12) (Nat.le_of_ble_eq_true rfl) (Nat.le_of_ble_eq_true rfl) ?_
              exact W.zret hx hb hr rfl (fun t ht hW => ⟨⟨_, (), rfl, rfl, by rw [ht]; exact hP, va_K.moved hW.alike hK, hD⟩, hS.F ht⟩) hS.2.2 dL_candidates_102
  rw [m_L_candidates] at h
  refine lv_aload_n hx hb dL_candidates_0 rfl (lv_at hl 0 rfl) ?_
  obtain ⟨r_1, cs_2, cn_3, lc_4, hc_5, lg_6, hg_7, e_8, h⟩ := bnd7_some h
  refine gl_Vi (As := []) (rest := []) (wc := wX cI cJ x0 x1 x2 x3 x4 x5 x6 x7 x8 x9 g rm op rc ec su pe qt rs rn cs cn lc hc lg hg) (w1 := wX cI cJ x0 x1 x2 x3 x4 x5 x6 x7 x8 x9 g rm op rc ec su pe qt rs rn cs_2 cn_3 lc_4 hc_5 lg_6 hg_7) (wr := [(p1, .inl (cI, 12, .inl b1))]) ⟨hx, hb, hml, hown, hts⟩ (c_X0_candidates l D cI cJ x0 x1 x2 x3 x4 x5 x6 x7 x8 x9 _ g rm op rc ec su pe qt rs rn cs cn lc hc lg hg fu  r_1 cs_2 cn_3 lc_4 hc_5 lg_6 hg_7 e_8) (cwV 0 hts gL_candidates_X0_candidates rfl rfl rfl (by decide +kernel) ⟨Nat.le_of_ble_eq_true rfl, Nat.le_of_ble_eq_true rfl⟩) hK hP hD hS hA [0, 1, 2, 3, 4, 5, 6, 7, 8, 9] [10] rfl rfl (by decide) (by decide) rfl rfl rfl rfl rfl hl.1 rfl (lv_room (Nat.le_of_ble_eq_true rfl)) dL_candidates_1 ⟨Nat.le_of_ble_eq_true rfl, Nat.le_of_ble_eq_true rfl⟩ (fun H locs hP hD hS => ?_)
  replace hP := hP.sub (ws' := wX cI cJ x0 x1 x2 x3 x4 x5 x6 x7 x8 x9 g rm op rc ec su pe qt rs rn cs_2 cn_3 lc_4 hc_5 lg_6 hg_7 ++ [(p1, .inl (cI, 12, .inl b1))]) [1, 2, 3, 4, 5, 6, 7, 8, 9, 10, 0] rfl
  replace hD := hD.sub (ws' := wX cI cJ x0 x1 x2 x3 x4 x5 x6 x7 x8 x9 g rm op rc ec su pe qt rs rn cs_2 cn_3 lc_4 hc_5 lg_6 hg_7 ++ [(p1, .inl (cI, 12, .inl b1))]) [1, 2, 3, 4, 5, 6, 7, 8, 9, 10, 0] (by decide) rfl
  refine lv_istore_n (lv' := [(3, .int r_1), (0, .ref x0), (1, .ref p1), (2, .int a2)]) hx hb dL_candidates_4 rfl hl (by decide) rfl (fun ls hl => ?_)
  refine lv_iconst (v := 0) hx hb dL_candidates_5 (by decide) ?_
  refine lv_istore (lv' := [(4, .int 0), (3, .int r_1), (0, .ref x0), (1, .ref p1), (2, .int a2)]) hx hb dL_candidates_6 hl (by decide) rfl (fun ls hl => ?_)
  refine lv_iconst (v := 0) hx hb dL_candidates_8 (by decide) ?_
  refine lv_istore (lv' := [(5, .int 0), (4, .int 0), (3, .int r_1), (0, .ref x0), (1, .ref p1), (2, .int a2)]) hx hb dL_candidates_9 hl (by decide) rfl (fun ls hl => ?_)
  exact (L11 fu).1 r_1 0 0 cs_2 cn_3 lc_4 hc_5 lg_6 hg_7 _ _ _ h hP hD hS (lv_sub hl [3, 4, 5, 2, 1, 0] rfl)
