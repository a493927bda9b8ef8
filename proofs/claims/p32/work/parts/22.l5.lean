-- laid
def m_L_laid_4 (fu : Nat) (g : Nat → Int32) (op : Nat → Int32) (su : Int32) (rs : Nat → Int32) (rn : Int32) : Nat → Int32 → Int32 → (Nat → Int32) → (Int32) → (Nat → Int64) → (Nat → Int64) → (Nat → Int64) → (Nat → Int64) → Option ((Int32) × (Nat → Int32) × (Int32) × (Nat → Int64) × (Nat → Int64) × (Nat → Int64) × (Nat → Int64))
  | 0, _, _, _, _, _, _, _, _ => none
  | n + 1, v1, v2, cs, cn, lc, hc, lg, hg => (bnd7 (m_X0_candidates fu g op su cs cn lc hc lg hg) (fun r_1 cs_2 cn_3 lc_4 hc_5 lg_6 hg_7 => (if r_1 ≤ v2 then (if v1 = (m_X0_roles rn) then (bw0 "java/lang/IndexOutOfBoundsException" "java/lang/IndexOutOfBoundsException" (m_X0_role rs rn v1) (fun r_11 => (if (wr1 (-2) r_11) = (-2) then some (1, cs_2, cn_3, lc_4, hc_5, lg_6, hg_7) else some (0, cs_2, cn_3, lc_4, hc_5, lg_6, hg_7)))) else some (0, cs_2, cn_3, lc_4, hc_5, lg_6, hg_7)) else (if (m_X0_roles rn) ≤ v1 then (if v1 = (m_X0_roles rn) then (bw0 "java/lang/IndexOutOfBoundsException" "java/lang/IndexOutOfBoundsException" (m_X0_role rs rn v1) (fun r_17 => (if (wr1 (-2) r_17) = (-2) then some (1, cs_2, cn_3, lc_4, hc_5, lg_6, hg_7) else some (0, cs_2, cn_3, lc_4, hc_5, lg_6, hg_7)))) else some (0, cs_2, cn_3, lc_4, hc_5, lg_6, hg_7)) else (br6 (m_X0_candidate fu g op su cs_2 cn_3 lc_4 hc_5 lg_6 hg_7 v2) (fun r_21 cs_22 cn_23 lc_24 hc_25 lg_26 hg_27 => (br0 (m_X0_role rs rn v1) (fun r_29 => (if r_21 = r_29 then (m_L_laid_4 fu g op su rs rn n (v1 + 1) (v2 + 1) cs_22 cn_23 lc_24 hc_25 lg_26 hg_27) else (m_L_laid_4 fu g op su rs rn n (v1 + 0) (v2 + 1) cs_22 cn_23 lc_24 hc_25 lg_26 hg_27))))))))))
def m_L_laid (fu : Nat) (g : Nat → Int32) (op : Nat → Int32) (su : Int32) (rs : Nat → Int32) (rn : Int32) (cs : Nat → Int32) (cn : Int32) (lc : Nat → Int64) (hc : Nat → Int64) (lg : Nat → Int64) (hg : Nat → Int64) : Option ((Int32) × (Nat → Int32) × (Int32) × (Nat → Int64) × (Nat → Int64) × (Nat → Int64) × (Nat → Int64)) := (m_L_laid_4 fu g op su rs rn fu 0 0 cs cn lc hc lg hg)
set_option maxHeartbeats 8000000 in
set_option maxRecDepth 100000 in
theorem c_L_laid (l : Launch) (hst : l.stackTraces = false) (D : va_G) (cI cJ : ClassId) (x0 x1 x2 x3 x4 x5 x6 x7 x8 x9 : Nat) (sz : Nat) (g : Nat → Int32) (rm : Nat → Int32) (op : Nat → Int32) (rc : Int32) (ec : Int32) (su : Int32) (pe : Int32) (qt : Int32) (rs : Nat → Int32) (rn : Int32) (cs : Nat → Int32) (cn : Int32) (lc : Nat → Int64) (hc : Nat → Int64) (lg : Nat → Int64) (hg : Nat → Int64) (fu : Nat) (r0 : Int32) (cs' : Nat → Int32) (cn' : Int32) (lc' : Nat → Int64) (hc' : Nat → Int64) (lg' : Nat → Int64) (hg' : Nat → Int64) (h : m_L_laid fu g op su rs rn cs cn lc hc lg hg = some (r0, cs', cn', lc', hc', lg', hg')) : Met l yL_laid wsL_laid ({ frames := 8, cells := 1, slots := 6, locals := 133 }) (va_Pc [.ref x0] (bx_PreL D [(cI, .int), (cJ, .long)] (wX cI cJ x0 x1 x2 x3 x4 x5 x6 x7 x8 x9 g rm op rc ec su pe qt rs rn cs cn lc hc lg hg) sz)) (va_Qi (fun (r : Int32) (_ : Unit) => r = r0) (fun (_ : Unit) t => bx_Post D [(cI, .int), (cJ, .long)] (wX cI cJ x0 x1 x2 x3 x4 x5 x6 x7 x8 x9 g rm op rc ec su pe qt rs rn cs' cn' lc' hc' lg' hg') (va_A (wX cI cJ x0 x1 x2 x3 x4 x5 x6 x7 x8 x9 g rm op rc ec su pe qt rs rn cs cn lc hc lg hg) sz) t) (va_A (wX cI cJ x0 x1 x2 x3 x4 x5 x6 x7 x8 x9 g rm op rc ec su pe qt rs rn cs cn lc hc lg hg) sz)) 1 6 (va_A (wX cI cJ x0 x1 x2 x3 x4 x5 x6 x7 x8 x9 g rm op rc ec su pe qt rs rn cs cn lc hc lg hg) sz) := by
  refine Met.ofW (cc := cL_laid) (maxL := 3) (ret := (some .boolean)) (by decide) rfl ?_
  intro p e s m args below meth c s₁ B hml hv
  obtain ⟨rfl, hsz, hP, hK, hD0, hT⟩ := hv
  have hx := B.exec
  have hb := B.bytes
  have hr := B.returns
  have hts := atoms_spec (ws := wsL_laid) B.pre
  have hown : s.vm.findClass RL = some m.cls := findClass_of_methodNamed B.named
  have hlocks := B.notSynchronized
  subst hsz
  have hD := hD0.self (sz := s.heap.size)
  generalize hAe : va_A (wX cI cJ x0 x1 x2 x3 x4 x5 x6 x7 x8 x9 g rm op rc ec su pe qt rs rn cs cn lc hc lg hg) s.heap.size = A at hD hT ⊢
  have hA : ∀ q : Nat, s.heap.size ≤ q → A q := fun q h9 => by rw [← hAe]; exact Or.inr h9
  have hS : va_S A s.heap s.heap [] := va_S.rf
  have hl := lv_entry ([.ref x0]) (n := 3) (Nat.le_of_ble_eq_true rfl)
  rw [lg_entry_eq]
  generalize (lg_sl ([.ref x0]) ++ List.replicate (3 - (lg_sl ([.ref x0])).length) Slot.unset).toArray = ls at hl ⊢
  have hl : lv_has ls 3 [(0, .ref x0)] := hl
  have L4 : ∀ (n : Nat) (v1 : Int32) (v2 : Int32) (cs : Nat → Int32) (cn : Int32) (lc : Nat → Int64) (hc : Nat → Int64) (lg : Nat → Int64) (hg : Nat → Int64) (H : Heap) (locs : List Loc) (ls : Array Slot), m_L_laid_4 fu g op su rs rn n v1 v2 cs cn lc hc lg hg = some (r0, cs', cn', lc', hc', lg', hg') → va_P D vwCl (wX cI cJ x0 x1 x2 x3 x4 x5 x6 x7 x8 x9 g rm op rc ec su pe qt rs rn cs cn lc hc lg hg) H → va_D A (wX cI cJ x0 x1 x2 x3 x4 x5 x6 x7 x8 x9 g rm op rc ec su pe qt rs rn cs cn lc hc lg hg) → va_S A s.heap H locs → lv_has ls 3 [(0, .ref x0), (1, .int v1), (2, .int v2)] → W p l e (headSpec wsL_laid ({ frames := 8, cells := 1, slots := 6, locals := 133 })).room s m ([.ref x0] : List Value).toArray below meth c H locs 0 0 (MQ below (va_Qi (fun (r : Int32) (_ : Unit) => r = r0) (fun (_ : Unit) t => bx_Post D [(cI, .int), (cJ, .long)] (wX cI cJ x0 x1 x2 x3 x4 x5 x6 x7 x8 x9 g rm op rc ec su pe qt rs rn cs' cn' lc' hc' lg' hg') A t) A) ([.ref x0] : List Value).toArray s 1 6 A) (F0 m 4 ls []) := by
    intro n
    induction n with
    | zero =>
      intro v1 v2 cs cn lc hc lg hg H locs ls h
      rw [m_L_laid_4] at h
      cases h
    | succ n ih =>
      intro v1 v2 cs cn lc hc lg hg H locs ls h hP hD hS hl
      rw [m_L_laid_4] at h
      refine lv_iload_n hx hb dL_laid_4 rfl (lv_at hl 2 rfl) ?_
      refine lv_aload_n hx hb dL_laid_5 rfl (lv_at hl 0 rfl) ?_
      obtain ⟨r_1, cs_2, cn_3, lc_4, hc_5, lg_6, hg_7, e_8, h⟩ := bnd7_some h
      refine gl_Vi (As := []) (rest := [.int v2]) (wc := wX cI cJ x0 x1 x2 x3 x4 x5 x6 x7 x8 x9 g rm op rc ec su pe qt rs rn cs cn lc hc lg hg) (w1 := wX cI cJ x0 x1 x2 x3 x4 x5 x6 x7 x8 x9 g rm op rc ec su pe qt rs rn cs_2 cn_3 lc_4 hc_5 lg_6 hg_7) (wr := []) ⟨hx, hb, hml, hown, hts⟩ (c_X0_candidates l D cI cJ x0 x1 x2 x3 x4 x5 x6 x7 x8 x9 _ g rm op rc ec su pe qt rs rn cs cn lc hc lg hg fu  r_1 cs_2 cn_3 lc_4 hc_5 lg_6 hg_7 e_8) (cwV 0 hts gL_laid_X0_candidates rfl rfl rfl (by decide +kernel) ⟨Nat.le_of_ble_eq_true rfl, Nat.le_of_ble_eq_true rfl⟩) hK hP hD hS hA [0, 1, 2, 3, 4, 5, 6, 7, 8, 9] [] rfl rfl (by decide) (by decide) rfl rfl rfl rfl rfl hl.1 rfl (lv_room (Nat.le_of_ble_eq_true rfl)) dL_laid_6 ⟨Nat.le_of_ble_eq_true rfl, Nat.le_of_ble_eq_true rfl⟩ (fun H locs hP hD hS => ?_)
      have hP : va_P D vwCl (wX cI cJ x0 x1 x2 x3 x4 x5 x6 x7 x8 x9 g rm op rc ec su pe qt rs rn cs_2 cn_3 lc_4 hc_5 lg_6 hg_7) H := hP
      have hD : va_D A (wX cI cJ x0 x1 x2 x3 x4 x5 x6 x7 x8 x9 g rm op rc ec su pe qt rs rn cs_2 cn_3 lc_4 hc_5 lg_6 hg_7) := hD
      refine lv_icmp_ge (tgt := 47) hx hb dL_laid_9 (by decide) (fun c_9 => ?_) (fun c_9 => ?_)
      · replace h := (if_pos c_9).symm.trans h
        refine lv_iload_n hx hb dL_laid_47 rfl (lv_at hl 1 rfl) ?_
        refine lv_aload_n hx hb dL_laid_48 rfl (lv_at hl 0 rfl) ?_
        refine gl_Vi (As := []) (rest := [.int v1]) (wc := wX cI cJ x0 x1 x2 x3 x4 x5 x6 x7 x8 x9 g rm op rc ec su pe qt rs rn cs_2 cn_3 lc_4 hc_5 lg_6 hg_7) (w1 := wX cI cJ x0 x1 x2 x3 x4 x5 x6 x7 x8 x9 g rm op rc ec su pe qt rs rn cs_2 cn_3 lc_4 hc_5 lg_6 hg_7) (wr := []) ⟨hx, hb, hml, hown, hts⟩ (c_X0_roles l D cI cJ x0 x1 x2 x3 x4 x5 x6 x7 x8 x9 _ g rm op rc ec su pe qt rs rn cs_2 cn_3 lc_4 hc_5 lg_6 hg_7 ) (cwV 0 hts gL_laid_X0_roles rfl rfl rfl (by decide +kernel) ⟨Nat.le_of_ble_eq_true rfl, Nat.le_of_ble_eq_true rfl⟩) hK hP hD hS hA [0, 1, 2, 3, 4, 5, 6, 7, 8, 9] [] rfl rfl (by decide) (by decide) rfl rfl rfl rfl rfl hl.1 rfl (lv_room (Nat.le_of_ble_eq_true rfl)) dL_laid_49 ⟨Nat.le_of_ble_eq_true rfl, Nat.le_of_ble_eq_true rfl⟩ (fun H locs hP hD hS => ?_)
        have hP : va_P D vwCl (wX cI cJ x0 x1 x2 x3 x4 x5 x6 x7 x8 x9 g rm op rc ec su pe qt rs rn cs_2 cn_3 lc_4 hc_5 lg_6 hg_7) H := hP
        have hD : va_D A (wX cI cJ x0 x1 x2 x3 x4 x5 x6 x7 x8 x9 g rm op rc ec su pe qt rs rn cs_2 cn_3 lc_4 hc_5 lg_6 hg_7) := hD
        refine lv_icmp_ne (tgt := 69) hx hb dL_laid_52 (by decide) (fun c_10 => ?_) (fun c_10 => ?_)
        · replace h := (if_neg c_10).symm.trans h
          refine lv_iconst (v := 0) hx hb dL_laid_69 (by decide) ?_
          cases h
          refine W.widen (k := 1) (n := 6) (Nat.le_of_ble_eq_true rfl) (Nat.le_of_ble_eq_true rfl) ?_
          exact W.zret hx hb hr rfl (fun t ht hW => ⟨⟨_, (), rfl, rfl, by rw [ht]; exact hP, va_K.moved hW.alike hK, hD⟩, hS.F ht⟩) hS.2.2 dL_laid_70
        · replace h := (if_pos c_10).symm.trans h
          refine lv_aload_n hx hb dL_laid_55 rfl (lv_at hl 0 rfl) ?_
          refine lv_iload_n hx hb dL_laid_56 rfl (lv_at hl 1 rfl) ?_
          obtain ⟨r_11, e_12, hE_13, h⟩ := bw0_some h
          refine gl_W1 (As := [.ref x0, .int v1]) (rest := []) (wc := wX cI cJ x0 x1 x2 x3 x4 x5 x6 x7 x8 x9 g rm op rc ec su pe qt rs rn cs_2 cn_3 lc_4 hc_5 lg_6 hg_7) (w1 := wX cI cJ x0 x1 x2 x3 x4 x5 x6 x7 x8 x9 g rm op rc ec su pe qt rs rn cs_2 cn_3 lc_4 hc_5 lg_6 hg_7) (wr := []) ⟨hx, hb, hml, hown, hts⟩ (c_L_role l hst D cI cJ x0 x1 x2 x3 x4 x5 x6 x7 x8 x9 _ g rm op rc ec su pe qt rs rn cs_2 cn_3 lc_4 hc_5 lg_6 hg_7 v1 r_11 e_12 hE_13) (vx_cwSW 2 hts gL_laid_L_role rfl rfl rfl (by decide +kernel) ⟨Nat.le_of_ble_eq_true rfl, Nat.le_of_ble_eq_true rfl⟩) hK hP hD hS hA hT [0, 1, 2, 3, 4, 5, 6, 7, 8, 9] [] rfl rfl (by decide) (by decide) rfl rfl rfl hl.1 rfl (lv_room (Nat.le_of_ble_eq_true rfl)) dL_laid_57 ⟨Nat.le_of_ble_eq_true rfl, Nat.le_of_ble_eq_true rfl⟩ (fun H locs hP hD hS => ?_)
          have hP : va_P D vwCl (wX cI cJ x0 x1 x2 x3 x4 x5 x6 x7 x8 x9 g rm op rc ec su pe qt rs rn cs_2 cn_3 lc_4 hc_5 lg_6 hg_7) H := hP
          have hD : va_D A (wX cI cJ x0 x1 x2 x3 x4 x5 x6 x7 x8 x9 g rm op rc ec su pe qt rs rn cs_2 cn_3 lc_4 hc_5 lg_6 hg_7) := hD
          refine lv_bipush (v := (-2)) hx hb dL_laid_60 (by decide) ?_
          refine lv_icmp_ne (tgt := 69) hx hb dL_laid_62 (by decide) (fun c_14 => ?_) (fun c_14 => ?_)
          · replace h := (if_neg c_14).symm.trans h
            refine lv_iconst (v := 0) hx hb dL_laid_69 (by decide) ?_
            cases h
            exact W.zret hx hb hr rfl (fun t ht hW => ⟨⟨_, (), rfl, rfl, by rw [ht]; exact hP, va_K.moved hW.alike hK, hD⟩, hS.F ht⟩) hS.2.2 dL_laid_70
          · replace h := (if_pos c_14).symm.trans h
            refine lv_iconst (v := 1) hx hb dL_laid_65 (by decide) ?_
            refine lv_goto (tgt := 70) hx hb dL_laid_66 (by decide) ?_
            cases h
            exact W.zret hx hb hr rfl (fun t ht hW => ⟨⟨_, (), rfl, rfl, by rw [ht]; exact hP, va_K.moved hW.alike hK, hD⟩, hS.F ht⟩) hS.2.2 dL_laid_70
      · replace h := (if_neg c_9).symm.trans h
        refine lv_iload_n hx hb dL_laid_12 rfl (lv_at hl 1 rfl) ?_
        refine lv_aload_n hx hb dL_laid_13 rfl (lv_at hl 0 rfl) ?_
        refine gl_Vi (As := []) (rest := [.int v1]) (wc := wX cI cJ x0 x1 x2 x3 x4 x5 x6 x7 x8 x9 g rm op rc ec su pe qt rs rn cs_2 cn_3 lc_4 hc_5 lg_6 hg_7) (w1 := wX cI cJ x0 x1 x2 x3 x4 x5 x6 x7 x8 x9 g rm op rc ec su pe qt rs rn cs_2 cn_3 lc_4 hc_5 lg_6 hg_7) (wr := []) ⟨hx, hb, hml, hown, hts⟩ (c_X0_roles l D cI cJ x0 x1 x2 x3 x4 x5 x6 x7 x8 x9 _ g rm op rc ec su pe qt rs rn cs_2 cn_3 lc_4 hc_5 lg_6 hg_7 ) (cwV 0 hts gL_laid_X0_roles rfl rfl rfl (by decide +kernel) ⟨Nat.le_of_ble_eq_true rfl, Nat.le_of_ble_eq_true rfl⟩) hK hP hD hS hA [0, 1, 2, 3, 4, 5, 6, 7, 8, 9] [] rfl rfl (by decide) (by decide) rfl rfl rfl rfl rfl hl.1 rfl (lv_room (Nat.le_of_ble_eq_true rfl)) dL_laid_14 ⟨Nat.le_of_ble_eq_true rfl, Nat.le_of_ble_eq_true rfl⟩ (fun H locs hP hD hS => ?_)
        have hP : va_P D vwCl (wX cI cJ x0 x1 x2 x3 x4 x5 x6 x7 x8 x9 g rm op rc ec su pe qt rs rn cs_2 cn_3 lc_4 hc_5 lg_6 hg_7) H := hP
        have hD : va_D A (wX cI cJ x0 x1 x2 x3 x4 x5 x6 x7 x8 x9 g rm op rc ec su pe qt rs rn cs_2 cn_3 lc_4 hc_5 lg_6 hg_7) := hD
        refine lv_icmp_ge (tgt := 47) hx hb dL_laid_17 (by decide) (fun c_15 => ?_) (fun c_15 => ?_)
        · replace h := (if_pos c_15).symm.trans h
          refine lv_iload_n hx hb dL_laid_47 rfl (lv_at hl 1 rfl) ?_
          refine lv_aload_n hx hb dL_laid_48 rfl (lv_at hl 0 rfl) ?_
          refine gl_Vi (As := []) (rest := [.int v1]) (wc := wX cI cJ x0 x1 x2 x3 x4 x5 x6 x7 x8 x9 g rm op rc ec su pe qt rs rn cs_2 cn_3 lc_4 hc_5 lg_6 hg_7) (w1 := wX cI cJ x0 x1 x2 x3 x4 x5 x6 x7 x8 x9 g rm op rc ec su pe qt rs rn cs_2 cn_3 lc_4 hc_5 lg_6 hg_7) (wr := []) ⟨hx, hb, hml, hown, hts⟩ (c_X0_roles l D cI cJ x0 x1 x2 x3 x4 x5 x6 x7 x8 x9 _ g rm op rc ec su pe qt rs rn cs_2 cn_3 lc_4 hc_5 lg_6 hg_7 ) (cwV 0 hts gL_laid_X0_roles rfl rfl rfl (by decide +kernel) ⟨Nat.le_of_ble_eq_true rfl, Nat.le_of_ble_eq_true rfl⟩) hK hP hD hS hA [0, 1, 2, 3, 4, 5, 6, 7, 8, 9] [] rfl rfl (by decide) (by decide) rfl rfl rfl rfl rfl hl.1 rfl (lv_room (Nat.le_of_ble_eq_true rfl)) dL_laid_49 ⟨Nat.le_of_ble_eq_true rfl, Nat.le_of_ble_eq_true rfl⟩ (fun H locs hP hD hS => ?_)
          have hP : va_P D vwCl (wX cI cJ x0 x1 x2 x3 x4 x5 x6 x7 x8 x9 g rm op rc ec su pe qt rs rn cs_2 cn_3 lc_4 hc_5 lg_6 hg_7) H := hP
          have hD : va_D A (wX cI cJ x0 x1 x2 x3 x4 x5 x6 x7 x8 x9 g rm op rc ec su pe qt rs rn cs_2 cn_3 lc_4 hc_5 lg_6 hg_7) := hD
          refine lv_icmp_ne (tgt := 69) hx hb dL_laid_52 (by decide) (fun c_16 => ?_) (fun c_16 => ?_)
          · replace h := (if_neg c_16).symm.trans h
            refine lv_iconst (v := 0) hx hb dL_laid_69 (by decide) ?_
            cases h
            refine W.widen (k := 1) (n := 6) (Nat.le_of_ble_eq_true rfl) (Nat.le_of_ble_eq_true rfl) ?_
            exact W.zret hx hb hr rfl (fun t ht hW => ⟨⟨_, (), rfl, rfl, by rw [ht]; exact hP, va_K.moved hW.alike hK, hD⟩, hS.F ht⟩) hS.2.2 dL_laid_70
          · replace h := (if_pos c_16).symm.trans h
            refine lv_aload_n hx hb dL_laid_55 rfl (lv_at hl 0 rfl) ?_
            refine lv_iload_n hx hb dL_laid_56 rfl (lv_at hl 1 rfl) ?_
            obtain ⟨r_17, e_18, hE_19, h⟩ := bw0_some h
            refine gl_W1 (As := [.ref x0, .int v1]) (rest := []) (wc := wX cI cJ x0 x1 x2 x3 x4 x5 x6 x7 x8 x9 g rm op rc ec su pe qt rs rn cs_2 cn_3 lc_4 hc_5 lg_6 hg_7) (w1 := wX cI cJ x0 x1 x2 x3 x4 x5 x6 x7 x8 x9 g rm op rc ec su pe qt rs rn cs_2 cn_3 lc_4 hc_5 lg_6 hg_7) (wr := []) ⟨hx, hb, hml, hown, hts⟩ (c_L_role l hst D cI cJ x0 x1 x2 x3 x4 x5 x6 x7 x8 x9 _ g rm op rc ec su pe qt rs rn cs_2 cn_3 lc_4 hc_5 lg_6 hg_7 v1 r_17 e_18 hE_19) (vx_cwSW 2 hts gL_laid_L_role rfl rfl rfl (by decide +kernel) ⟨Nat.le_of_ble_eq_true rfl, Nat.le_of_ble_eq_true rfl⟩) hK hP hD hS hA hT [0, 1, 2, 3, 4, 5, 6, 7, 8, 9] [] rfl rfl (by decide) (by decide) rfl rfl rfl hl.1 rfl (lv_room (Nat.le_of_ble_eq_true rfl)) dL_laid_57 ⟨Nat.le_of_ble_eq_true rfl, Nat.le_of_ble_eq_true rfl⟩ (fun H locs hP hD hS => ?_)
            have hP : va_P D vwCl (wX cI cJ x0 x1 x2 x3 x4 x5 x6 x7 x8 x9 g rm op rc ec su pe qt rs rn cs_2 cn_3 lc_4 hc_5 lg_6 hg_7) H := hP
            have hD : va_D A (wX cI cJ x0 x1 x2 x3 x4 x5 x6 x7 x8 x9 g rm op rc ec su pe qt rs rn cs_2 cn_3 lc_4 hc_5 lg_6 hg_7) := hD
            refine lv_bipush (v := (-2)) hx hb dL_laid_60 (by decide) ?_
            refine lv_icmp_ne (tgt := 69) hx hb dL_laid_62 (by decide) (fun c_20 => ?_) (fun c_20 => ?_)
            · replace h := (if_neg c_20).symm.trans h
              refine lv_iconst (v := 0) hx hb dL_laid_69 (by decide) ?_
              cases h
              exact W.zret hx hb hr rfl (fun t ht hW => ⟨⟨_, (), rfl, rfl, by rw [ht]; exact hP, va_K.moved hW.alike hK, hD⟩, hS.F ht⟩) hS.2.2 dL_laid_70
            · replace h := (if_pos c_20).symm.trans h
              refine lv_iconst (v := 1) hx hb dL_laid_65 (by decide) ?_
              refine lv_goto (tgt := 70) hx hb dL_laid_66 (by decide) ?_
              cases h
              exact W.zret hx hb hr rfl (fun t ht hW => ⟨⟨_, (), rfl, rfl, by rw [ht]; exact hP, va_K.moved hW.alike hK, hD⟩, hS.F ht⟩) hS.2.2 dL_laid_70
        · replace h := (if_neg c_15).symm.trans h
          refine lv_iload_n hx hb dL_laid_20 rfl (lv_at hl 1 rfl) ?_
          refine lv_aload_n hx hb dL_laid_21 rfl (lv_at hl 0 rfl) ?_
          refine lv_iload_n hx hb dL_laid_22 rfl (lv_at hl 2 rfl) ?_
          obtain ⟨r_21, cs_22, cn_23, lc_24, hc_25, lg_26, hg_27, e_28, h⟩ := br6_some h
          refine gl_W0 (As := [.ref x0, .int v2]) (rest := [.int v1]) (wc := wX cI cJ x0 x1 x2 x3 x4 x5 x6 x7 x8 x9 g rm op rc ec su pe qt rs rn cs_2 cn_3 lc_4 hc_5 lg_6 hg_7) (w1 := wX cI cJ x0 x1 x2 x3 x4 x5 x6 x7 x8 x9 g rm op rc ec su pe qt rs rn cs_22 cn_23 lc_24 hc_25 lg_26 hg_27) (wr := []) ⟨hx, hb, hml, hown, hts⟩ (c0_L_candidate l D cI cJ x0 x1 x2 x3 x4 x5 x6 x7 x8 x9 _ g rm op rc ec su pe qt rs rn cs_2 cn_3 lc_4 hc_5 lg_6 hg_7 fu v2 r_21 cs_22 cn_23 lc_24 hc_25 lg_26 hg_27 e_28) (vx_cwSW 2 hts gL_laid_L_candidate rfl rfl rfl (by decide +kernel) ⟨Nat.le_of_ble_eq_true rfl, Nat.le_of_ble_eq_true rfl⟩) hK hP hD hS hA [0, 1, 2, 3, 4, 5, 6, 7, 8, 9] [] rfl rfl (by decide) (by decide) rfl rfl rfl hl.1 rfl (lv_room (Nat.le_of_ble_eq_true rfl)) dL_laid_23 ⟨Nat.le_of_ble_eq_true rfl, Nat.le_of_ble_eq_true rfl⟩ (fun H locs hP hD hS => ?_)
          have hP : va_P D vwCl (wX cI cJ x0 x1 x2 x3 x4 x5 x6 x7 x8 x9 g rm op rc ec su pe qt rs rn cs_22 cn_23 lc_24 hc_25 lg_26 hg_27) H := hP
          have hD : va_D A (wX cI cJ x0 x1 x2 x3 x4 x5 x6 x7 x8 x9 g rm op rc ec su pe qt rs rn cs_22 cn_23 lc_24 hc_25 lg_26 hg_27) := hD
          refine lv_aload_n hx hb dL_laid_26 rfl (lv_at hl 0 rfl) ?_
          refine lv_iload_n hx hb dL_laid_27 rfl (lv_at hl 1 rfl) ?_
          obtain ⟨r_29, e_30, h⟩ := br0_some h
          refine gl_W0 (As := [.ref x0, .int v1]) (rest := [.int r_21, .int v1]) (wc := wX cI cJ x0 x1 x2 x3 x4 x5 x6 x7 x8 x9 g rm op rc ec su pe qt rs rn cs_22 cn_23 lc_24 hc_25 lg_26 hg_27) (w1 := wX cI cJ x0 x1 x2 x3 x4 x5 x6 x7 x8 x9 g rm op rc ec su pe qt rs rn cs_22 cn_23 lc_24 hc_25 lg_26 hg_27) (wr := []) ⟨hx, hb, hml, hown, hts⟩ (c0_L_role l D cI cJ x0 x1 x2 x3 x4 x5 x6 x7 x8 x9 _ g rm op rc ec su pe qt rs rn cs_22 cn_23 lc_24 hc_25 lg_26 hg_27 v1 r_29 e_30) (vx_cwSW 2 hts gL_laid_L_role rfl rfl rfl (by decide +kernel) ⟨Nat.le_of_ble_eq_true rfl, Nat.le_of_ble_eq_true rfl⟩) hK hP hD hS hA [0, 1, 2, 3, 4, 5, 6, 7, 8, 9] [] rfl rfl (by decide) (by decide) rfl rfl rfl hl.1 rfl (lv_room (Nat.le_of_ble_eq_true rfl)) dL_laid_28 ⟨Nat.le_of_ble_eq_true rfl, Nat.le_of_ble_eq_true rfl⟩ (fun H locs hP hD hS => ?_)
          have hP : va_P D vwCl (wX cI cJ x0 x1 x2 x3 x4 x5 x6 x7 x8 x9 g rm op rc ec su pe qt rs rn cs_22 cn_23 lc_24 hc_25 lg_26 hg_27) H := hP
          have hD : va_D A (wX cI cJ x0 x1 x2 x3 x4 x5 x6 x7 x8 x9 g rm op rc ec su pe qt rs rn cs_22 cn_23 lc_24 hc_25 lg_26 hg_27) := hD
          refine lv_icmp_ne (tgt := 38) hx hb dL_laid_31 (by decide) (fun c_31 => ?_) (fun c_31 => ?_)
          · replace h := (if_neg c_31).symm.trans h
            refine lv_iconst (v := 0) hx hb dL_laid_38 (by decide) ?_
            refine lv_iadd hx hb dL_laid_39 ?_
            refine lv_istore_n (lv' := [(1, .int (v1 + 0)), (0, .ref x0), (2, .int v2)]) hx hb dL_laid_40 rfl hl (by decide) rfl (fun ls hl => ?_)
            refine lv_iinc (v := (v2 + 1)) (lv' := [(2, .int (v2 + 1)), (1, .int (v1 + 0)), (0, .ref x0)]) hx hb dL_laid_41 hl (k := 2) rfl rfl (by decide) rfl (fun ls hl => ?_)
            refine lv_goto (tgt := 4) hx hb dL_laid_44 (by decide) ?_
            exact ih (v1 + 0) (v2 + 1) cs_22 cn_23 lc_24 hc_25 lg_26 hg_27 _ _ _ h hP hD hS (lv_sub hl [2, 1, 0] rfl)
          · replace h := (if_pos c_31).symm.trans h
            refine lv_iconst (v := 1) hx hb dL_laid_34 (by decide) ?_
            refine lv_goto (tgt := 39) hx hb dL_laid_35 (by decide) ?_
            refine lv_iadd hx hb dL_laid_39 ?_
            refine lv_istore_n (lv' := [(1, .int (v1 + 1)), (0, .ref x0), (2, .int v2)]) hx hb dL_laid_40 rfl hl (by decide) rfl (fun ls hl => ?_)
            refine lv_iinc (v := (v2 + 1)) (lv' := [(2, .int (v2 + 1)), (1, .int (v1 + 1)), (0, .ref x0)]) hx hb dL_laid_41 hl (k := 2) rfl rfl (by decide) rfl (fun ls hl => ?_)
            refine lv_goto (tgt := 4) hx hb dL_laid_44 (by decide) ?_
            exact ih (v1 + 1) (v2 + 1) cs_22 cn_23 lc_24 hc_25 lg_26 hg_27 _ _ _ h hP hD hS (lv_sub hl [2, 1, 0] rfl)
  rw [m_L_laid] at h
  refine lv_iconst (v := 0) hx hb dL_laid_0 (by decide) ?_
  refine lv_istore_n (lv' := [(1, .int 0), (0, .ref x0)]) hx hb dL_laid_1 rfl hl (by decide) rfl (fun ls hl => ?_)
  refine lv_iconst (v := 0) hx hb dL_laid_2 (by decide) ?_
  refine lv_istore_n (lv' := [(2, .int 0), (1, .int 0), (0, .ref x0)]) hx hb dL_laid_3 rfl hl (by decide) rfl (fun ls hl => ?_)
  exact L4 fu 0 0 cs cn lc hc lg hg _ _ _ h hP hD hS (lv_sub hl [2, 1, 0] rfl)
-- left
def m_L_left_90 (fu : Nat) (g : Nat → Int32) (op : Nat → Int32) (rc : Int32) (ec : Int32) (su : Int32) (qt : Int32) (rs : Nat → Int32) (rn : Int32) (b4 : Nat → Int32) (b5 : Nat → Int32) (a1 : Int32) (a2 : Int32) (a3 : Int32) : Nat → Int32 → Int32 → (Nat → Int32) → (Int32) → (Nat → Int64) → (Nat → Int64) → (Nat → Int64) → (Nat → Int64) → Option ((Int32) × (Nat → Int32) × (Int32) × (Nat → Int64) × (Nat → Int64) × (Nat → Int64) × (Nat → Int64))
  | 0, _, _, _, _, _, _, _, _ => none
  | n + 1, v6, v7, cs, cn, lc, hc, lg, hg => (if 8 ≤ v7 then (if a3 = v6 then (if (m_X0_quarter qt) = ((b4 (Int32.toNatClampNeg 32)) + 1) then some (1, cs, cn, lc, hc, lg, hg) else some (0, cs, cn, lc, hc, lg, hg)) else some (0, cs, cn, lc, hc, lg, hg)) else (ix (8 + v7) 40 (bnd1 (m_L_size fu (b4 (Int32.toNatClampNeg (8 + v7)))) (fun r_82 => (br0 (m_X0_permissions g v7) (fun r_84 => (ix v7 40 (if r_84 = ((b4 (Int32.toNatClampNeg v7)) &&& ((b4 (Int32.toNatClampNeg (8 + v7))) ^^^ (-1))) then (m_L_left_90 fu g op rc ec su qt rs rn b4 b5 a1 a2 a3 n (v6 + r_82) (v7 + 1) cs cn lc hc lg hg) else some (0, cs, cn, lc, hc, lg, hg)))))))))
def m_L_left (fu : Nat) (g : Nat → Int32) (op : Nat → Int32) (rc : Int32) (ec : Int32) (su : Int32) (qt : Int32) (rs : Nat → Int32) (rn : Int32) (cs : Nat → Int32) (cn : Int32) (lc : Nat → Int64) (hc : Nat → Int64) (lg : Nat → Int64) (hg : Nat → Int64) (b4 : Nat → Int32) (b5 : Nat → Int32) (a1 : Int32) (a2 : Int32) (a3 : Int32) : Option ((Int32) × (Nat → Int32) × (Int32) × (Nat → Int64) × (Nat → Int64) × (Nat → Int64) × (Nat → Int64)) := (if a1 = 10 then (bw6 "java/lang/IllegalStateException" "java/lang/IllegalStateException" (m_X0_leastCost fu g op rc ec su cs cn lc hc lg hg) (fun r_2 cs_3 cn_4 lc_5 hc_6 lg_7 hg_8 => (bnd1 (m_X0_cost fu g rc ec rs rn) (fun r_11 => (if a3 = r_11 then (bnd7 (m_L_laid fu g op su rs rn cs_3 cn_4 lc_5 hc_6 lg_7 hg_8) (fun r_14 cs_15 cn_16 lc_17 hc_18 lg_19 hg_20 => (if r_14 = 0 then some (0, cs_15, cn_16, lc_17, hc_18, lg_19, hg_20) else (if (wr1 (-4) r_2) < 0 then (bnd1 (m_X0_grants fu g) (fun r_24 => (if ((b5 (Int32.toNatClampNeg 1)) * r_24) < a3 then some (0, cs_15, cn_16, lc_17, hc_18, lg_19, hg_20) else some (1, cs_15, cn_16, lc_17, hc_18, lg_19, hg_20)))) else (if a1 = 11 then (if a3 = (wr1 (-4) r_2) then (bnd1 (m_X0_grants fu g) (fun r_33 => (if ((b5 (Int32.toNatClampNeg 1)) * r_33) < a3 then some (0, cs_15, cn_16, lc_17, hc_18, lg_19, hg_20) else some (1, cs_15, cn_16, lc_17, hc_18, lg_19, hg_20)))) else some (0, cs_15, cn_16, lc_17, hc_18, lg_19, hg_20)) else (if a3 < (wr1 (-4) r_2) then some (0, cs_15, cn_16, lc_17, hc_18, lg_19, hg_20) else (bnd1 (m_X0_grants fu g) (fun r_29 => (if ((b5 (Int32.toNatClampNeg 1)) * r_29) < a3 then some (0, cs_15, cn_16, lc_17, hc_18, lg_19, hg_20) else some (1, cs_15, cn_16, lc_17, hc_18, lg_19, hg_20)))))))))) else some (0, cs_3, cn_4, lc_5, hc_6, lg_7, hg_8)))))) else (if a1 = 11 then (bw6 "java/lang/IllegalStateException" "java/lang/IllegalStateException" (m_X0_leastCost fu g op rc ec su cs cn lc hc lg hg) (fun r_48 cs_49 cn_50 lc_51 hc_52 lg_53 hg_54 => (bnd1 (m_X0_cost fu g rc ec rs rn) (fun r_57 => (if a3 = r_57 then (bnd7 (m_L_laid fu g op su rs rn cs_49 cn_50 lc_51 hc_52 lg_53 hg_54) (fun r_60 cs_61 cn_62 lc_63 hc_64 lg_65 hg_66 => (if r_60 = 0 then some (0, cs_61, cn_62, lc_63, hc_64, lg_65, hg_66) else (if (wr1 (-4) r_48) < 0 then (bnd1 (m_X0_grants fu g) (fun r_70 => (if ((b5 (Int32.toNatClampNeg 1)) * r_70) < a3 then some (0, cs_61, cn_62, lc_63, hc_64, lg_65, hg_66) else some (1, cs_61, cn_62, lc_63, hc_64, lg_65, hg_66)))) else (if a3 = (wr1 (-4) r_48) then (bnd1 (m_X0_grants fu g) (fun r_75 => (if ((b5 (Int32.toNatClampNeg 1)) * r_75) < a3 then some (0, cs_61, cn_62, lc_63, hc_64, lg_65, hg_66) else some (1, cs_61, cn_62, lc_63, hc_64, lg_65, hg_66)))) else some (0, cs_61, cn_62, lc_63, hc_64, lg_65, hg_66)))))) else some (0, cs_49, cn_50, lc_51, hc_52, lg_53, hg_54)))))) else (if a1 = 9 then (m_L_left_90 fu g op rc ec su qt rs rn b4 b5 a1 a2 a3 fu 0 0 cs cn lc hc lg hg) else (if a1 = 12 then (if a3 = (b4 (Int32.toNatClampNeg 33)) then (if (m_X0_roles rn) = 0 then some (1, cs, cn, lc, hc, lg, hg) else some (0, cs, cn, lc, hc, lg, hg)) else some (0, cs, cn, lc, hc, lg, hg)) else (if (m_X0_quarter qt) = (b4 (Int32.toNatClampNeg 32)) then (if (m_X0_roles rn) = (b4 (Int32.toNatClampNeg 33)) then (if a1 ≤ 3 then (if 12 < a3 then some (0, cs, cn, lc, hc, lg, hg) else some (1, cs, cn, lc, hc, lg, hg)) else (bnd1 (m_X0_grants fu g) (fun r_43 => (if r_43 = (b4 (Int32.toNatClampNeg 35)) then some (1, cs, cn, lc, hc, lg, hg) else some (0, cs, cn, lc, hc, lg, hg))))) else some (0, cs, cn, lc, hc, lg, hg)) else some (0, cs, cn, lc, hc, lg, hg))))))
set_option maxHeartbeats 8000000 in
set_option maxRecDepth 100000 in
theorem c_L_left (l : Launch) (hst : l.stackTraces = false) (D : va_G) (cI cJ : ClassId) (x0 x1 x2 x3 x4 x5 x6 x7 x8 x9 : Nat) (p4 p5 : Nat) (sz : Nat) (g : Nat → Int32) (rm : Nat → Int32) (op : Nat → Int32) (rc : Int32) (ec : Int32) (su : Int32) (pe : Int32) (qt : Int32) (rs : Nat → Int32) (rn : Int32) (cs : Nat → Int32) (cn : Int32) (lc : Nat → Int64) (hc : Nat → Int64) (lg : Nat → Int64) (hg : Nat → Int64) (b4 : Nat → Int32) (b5 : Nat → Int32) (fu : Nat) (a1 : Int32) (a2 : Int32) (a3 : Int32) (r0 : Int32) (cs' : Nat → Int32) (cn' : Int32) (lc' : Nat → Int64) (hc' : Nat → Int64) (lg' : Nat → Int64) (hg' : Nat → Int64) (h : m_L_left fu g op rc ec su qt rs rn cs cn lc hc lg hg b4 b5 a1 a2 a3 = some (r0, cs', cn', lc', hc', lg', hg')) : Met l yL_left wsL_left ({ frames := 9, cells := 2, slots := 12, locals := 155 }) (va_Pc [.ref x0, .int a1, .int a2, .int a3, .ref p4, .ref p5] (bx_PreL D [(cI, .int), (cJ, .long)] (wX cI cJ x0 x1 x2 x3 x4 x5 x6 x7 x8 x9 g rm op rc ec su pe qt rs rn cs cn lc hc lg hg ++ [(p4, .inl (cI, 40, .inl b4)), (p5, .inl (cI, 4, .inl b5))]) sz)) (va_Qi (fun (r : Int32) (_ : Unit) => r = r0) (fun (_ : Unit) t => bx_Post D [(cI, .int), (cJ, .long)] (wX cI cJ x0 x1 x2 x3 x4 x5 x6 x7 x8 x9 g rm op rc ec su pe qt rs rn cs' cn' lc' hc' lg' hg' ++ [(p4, .inl (cI, 40, .inl b4)), (p5, .inl (cI, 4, .inl b5))]) (va_A (wX cI cJ x0 x1 x2 x3 x4 x5 x6 x7 x8 x9 g rm op rc ec su pe qt rs rn cs cn lc hc lg hg ++ [(p4, .inl (cI, 40, .inl b4)), (p5, .inl (cI, 4, .inl b5))]) sz) t) (va_A (wX cI cJ x0 x1 x2 x3 x4 x5 x6 x7 x8 x9 g rm op rc ec su pe qt rs rn cs cn lc hc lg hg ++ [(p4, .inl (cI, 40, .inl b4)), (p5, .inl (cI, 4, .inl b5))]) sz)) 2 12 (va_A (wX cI cJ x0 x1 x2 x3 x4 x5 x6 x7 x8 x9 g rm op rc ec su pe qt rs rn cs cn lc hc lg hg ++ [(p4, .inl (cI, 40, .inl b4)), (p5, .inl (cI, 4, .inl b5))]) sz) := by
  refine Met.ofW (cc := cL_left) (maxL := 8) (ret := (some .boolean)) (by decide) rfl ?_
  intro p e s m args below meth c s₁ B hml hv
  obtain ⟨rfl, hsz, hP, hK, hD0, hT⟩ := hv
  have hx := B.exec
  have hb := B.bytes
  have hr := B.returns
  have hts := atoms_spec (ws := wsL_left) B.pre
  have hown : s.vm.findClass RL = some m.cls := findClass_of_methodNamed B.named
  have hlocks := B.notSynchronized
  subst hsz
  have hD := hD0.self (sz := s.heap.size)
  generalize hAe : va_A (wX cI cJ x0 x1 x2 x3 x4 x5 x6 x7 x8 x9 g rm op rc ec su pe qt rs rn cs cn lc hc lg hg ++ [(p4, .inl (cI, 40, .inl b4)), (p5, .inl (cI, 4, .inl b5))]) s.heap.size = A at hD hT ⊢
  have hA : ∀ q : Nat, s.heap.size ≤ q → A q := fun q h9 => by rw [← hAe]; exact Or.inr h9
  have hS : va_S A s.heap s.heap [] := va_S.rf
  have hl := lv_entry ([.ref x0, .int a1, .int a2, .int a3, .ref p4, .ref p5]) (n := 8) (Nat.le_of_ble_eq_true rfl)
  rw [lg_entry_eq]
  generalize (lg_sl ([.ref x0, .int a1, .int a2, .int a3, .ref p4, .ref p5]) ++ List.replicate (8 - (lg_sl ([.ref x0, .int a1, .int a2, .int a3, .ref p4, .ref p5])).length) Slot.unset).toArray = ls at hl ⊢
  have hl : lv_has ls 8 [(0, .ref x0), (1, .int a1), (2, .int a2), (3, .int a3), (4, .ref p4), (5, .ref p5)] := hl
  have L90 : ∀ (n : Nat) (v6 : Int32) (v7 : Int32) (cs : Nat → Int32) (cn : Int32) (lc : Nat → Int64) (hc : Nat → Int64) (lg : Nat → Int64) (hg : Nat → Int64) (H : Heap) (locs : List Loc) (ls : Array Slot), m_L_left_90 fu g op rc ec su qt rs rn b4 b5 a1 a2 a3 n v6 v7 cs cn lc hc lg hg = some (r0, cs', cn', lc', hc', lg', hg') → va_P D vwCl (wX cI cJ x0 x1 x2 x3 x4 x5 x6 x7 x8 x9 g rm op rc ec su pe qt rs rn cs cn lc hc lg hg ++ [(p4, .inl (cI, 40, .inl b4)), (p5, .inl (cI, 4, .inl b5))]) H → va_D A (wX cI cJ x0 x1 x2 x3 x4 x5 x6 x7 x8 x9 g rm op rc ec su pe qt rs rn cs cn lc hc lg hg ++ [(p4, .inl (cI, 40, .inl b4)), (p5, .inl (cI, 4, .inl b5))]) → va_S A s.heap H locs → lv_has ls 8 [(0, .ref x0), (3, .int a3), (4, .ref p4), (6, .int v6), (7, .int v7)] → W p l e (headSpec wsL_left ({ frames := 9, cells := 2, slots := 12, locals := 155 })).room s m ([.ref x0, .int a1, .int a2, .int a3, .ref p4, .ref p5] : List Value).toArray below meth c H locs 0 0 (MQ below (va_Qi (fun (r : Int32) (_ : Unit) => r = r0) (fun (_ : Unit) t => bx_Post D [(cI, .int), (cJ, .long)] (wX cI cJ x0 x1 x2 x3 x4 x5 x6 x7 x8 x9 g rm op rc ec su pe qt rs rn cs' cn' lc' hc' lg' hg' ++ [(p4, .inl (cI, 40, .inl b4)), (p5, .inl (cI, 4, .inl b5))]) A t) A) ([.ref x0, .int a1, .int a2, .int a3, .ref p4, .ref p5] : List Value).toArray s 2 12 A) (F0 m 90 ls []) := by
    intro n
    induction n with
    | zero =>
      intro v6 v7 cs cn lc hc lg hg H locs ls h
      rw [m_L_left_90] at h
      cases h
    | succ n ih =>
      intro v6 v7 cs cn lc hc lg hg H locs ls h hP hD hS hl
      rw [m_L_left_90] at h
      refine lv_iload hx hb dL_left_90 (lv_at hl 4 rfl) ?_
      refine lv_bipush (v := 8) hx hb dL_left_92 (by decide) ?_
      refine lv_icmp_ge (tgt := 146) hx hb dL_left_94 (by decide) (fun c_78 => ?_) (fun c_78 => ?_)
      · replace h := (if_pos c_78).symm.trans h
        refine lv_iload_n hx hb dL_left_146 rfl (lv_at hl 1 rfl) ?_
        refine lv_iload hx hb dL_left_147 (lv_at hl 3 rfl) ?_
        refine lv_icmp_ne (tgt := 170) hx hb dL_left_149 (by decide) (fun c_79 => ?_) (fun c_79 => ?_)
        · replace h := (if_neg c_79).symm.trans h
          refine lv_iconst (v := 0) hx hb dL_left_170 (by decide) ?_
          cases h
          refine W.widen (k := 2) (n := 12) (Nat.le_of_ble_eq_true rfl) (Nat.le_of_ble_eq_true rfl) ?_
          exact W.zret hx hb hr rfl (fun t ht hW => ⟨⟨_, (), rfl, rfl, by rw [ht]; exact hP, va_K.moved hW.alike hK, hD⟩, hS.F ht⟩) hS.2.2 dL_left_171
        · replace h := (if_pos c_79).symm.trans h
          refine lv_aload_n hx hb dL_left_152 rfl (lv_at hl 0 rfl) ?_
          refine gl_Vi (As := []) (rest := []) (wc := wX cI cJ x0 x1 x2 x3 x4 x5 x6 x7 x8 x9 g rm op rc ec su pe qt rs rn cs cn lc hc lg hg) (w1 := wX cI cJ x0 x1 x2 x3 x4 x5 x6 x7 x8 x9 g rm op rc ec su pe qt rs rn cs cn lc hc lg hg) (wr := [(p4, .inl (cI, 40, .inl b4)), (p5, .inl (cI, 4, .inl b5))]) ⟨hx, hb, hml, hown, hts⟩ (c_X0_quarter l D cI cJ x0 x1 x2 x3 x4 x5 x6 x7 x8 x9 _ g rm op rc ec su pe qt rs rn cs cn lc hc lg hg ) (cwV 0 hts gL_left_X0_quarter rfl rfl rfl (by decide +kernel) ⟨Nat.le_of_ble_eq_true rfl, Nat.le_of_ble_eq_true rfl⟩) hK hP hD hS hA [0, 1, 2, 3, 4, 5, 6, 7, 8, 9] [10, 11] rfl rfl (by decide) (by decide) rfl rfl rfl rfl rfl hl.1 rfl (lv_room (Nat.le_of_ble_eq_true rfl)) dL_left_153 ⟨Nat.le_of_ble_eq_true rfl, Nat.le_of_ble_eq_true rfl⟩ (fun H locs hP hD hS => ?_)
          replace hP := hP.sub (ws' := wX cI cJ x0 x1 x2 x3 x4 x5 x6 x7 x8 x9 g rm op rc ec su pe qt rs rn cs cn lc hc lg hg ++ [(p4, .inl (cI, 40, .inl b4)), (p5, .inl (cI, 4, .inl b5))]) [2, 3, 4, 5, 6, 7, 8, 9, 10, 11, 0, 1] rfl
          replace hD := hD.sub (ws' := wX cI cJ x0 x1 x2 x3 x4 x5 x6 x7 x8 x9 g rm op rc ec su pe qt rs rn cs cn lc hc lg hg ++ [(p4, .inl (cI, 40, .inl b4)), (p5, .inl (cI, 4, .inl b5))]) [2, 3, 4, 5, 6, 7, 8, 9, 10, 11, 0, 1] (by decide) rfl
          refine lv_aload hx hb dL_left_156 (lv_at hl 2 rfl) ?_
          refine lv_bipush (v := 32) hx hb dL_left_158 (by decide) ?_
          refine va_iald hx hb hK hP 10 0 rfl rfl (show ¬ ((32 : Int32) < 0 ∨ 40 ≤ Int32.toNatClampNeg 32) by decide) dL_left_160 ?_
          refine lv_iconst (v := 1) hx hb dL_left_161 (by decide) ?_
          refine lv_iadd hx hb dL_left_162 ?_
          refine lv_icmp_ne (tgt := 170) hx hb dL_left_163 (by decide) (fun c_80 => ?_) (fun c_80 => ?_)
          · replace h := (if_neg c_80).symm.trans h
            refine lv_iconst (v := 0) hx hb dL_left_170 (by decide) ?_
            cases h
            refine W.widen (k := 2) (n := 12) (Nat.le_of_ble_eq_true rfl) (Nat.le_of_ble_eq_true rfl) ?_
            exact W.zret hx hb hr rfl (fun t ht hW => ⟨⟨_, (), rfl, rfl, by rw [ht]; exact hP, va_K.moved hW.alike hK, hD⟩, hS.F ht⟩) hS.2.2 dL_left_171
          · replace h := (if_pos c_80).symm.trans h
            refine lv_iconst (v := 1) hx hb dL_left_166 (by decide) ?_
            refine lv_goto (tgt := 171) hx hb dL_left_167 (by decide) ?_
            cases h
            refine W.widen (k := 2) (n := 12) (Nat.le_of_ble_eq_true rfl) (Nat.le_of_ble_eq_true rfl) ?_
            exact W.zret hx hb hr rfl (fun t ht hW => ⟨⟨_, (), rfl, rfl, by rw [ht]; exact hP, va_K.moved hW.alike hK, hD⟩, hS.F ht⟩) hS.2.2 dL_left_171
      · replace h := (if_neg c_78).symm.trans h
        refine lv_iload hx hb dL_left_97 (lv_at hl 3 rfl) ?_
        refine lv_aload hx hb dL_left_99 (lv_at hl 2 rfl) ?_
        refine lv_bipush (v := 8) hx hb dL_left_101 (by decide) ?_
        refine lv_iload hx hb dL_left_103 (lv_at hl 4 rfl) ?_
        refine lv_iadd hx hb dL_left_105 ?_
        obtain ⟨h_81, h⟩ := ix_some h
        refine va_iald hx hb hK hP 10 0 rfl rfl h_81 dL_left_106 ?_
        obtain ⟨r_82, e_83, h⟩ := bnd1_some h
        refine gl_Si0 (As := [.int (b4 (Int32.toNatClampNeg (8 + v7)))]) (rest := [.int v6]) ⟨hx, hb, hml, hown, hts⟩ (c_L_size l D _ fu (b4 (Int32.toNatClampNeg (8 + v7))) r_82 e_83) (va_cwS 1 hts gL_left_L_size rfl rfl rfl (by decide +kernel) ⟨Nat.le_of_ble_eq_true rfl, Nat.le_of_ble_eq_true rfl⟩) hK hP hD hS hA rfl rfl hl.1 rfl (lv_room (Nat.le_of_ble_eq_true rfl)) dL_left_107 ⟨Nat.le_of_ble_eq_true rfl, Nat.le_of_ble_eq_true rfl⟩ (fun H locs hP hD hS => ?_)
        refine lv_iadd hx hb dL_left_110 ?_
        refine lv_istore (lv' := [(6, .int (v6 + r_82)), (0, .ref x0), (3, .int a3), (4, .ref p4), (7, .int v7)]) hx hb dL_left_111 hl (by decide) rfl (fun ls hl => ?_)
        refine lv_aload_n hx hb dL_left_113 rfl (lv_at hl 1 rfl) ?_
        refine lv_iload hx hb dL_left_114 (lv_at hl 4 rfl) ?_
        obtain ⟨r_84, e_85, h⟩ := br0_some h
        refine gl_Vi (As := [.int v7]) (rest := []) (wc := wX cI cJ x0 x1 x2 x3 x4 x5 x6 x7 x8 x9 g rm op rc ec su pe qt rs rn cs cn lc hc lg hg) (w1 := wX cI cJ x0 x1 x2 x3 x4 x5 x6 x7 x8 x9 g rm op rc ec su pe qt rs rn cs cn lc hc lg hg) (wr := [(p4, .inl (cI, 40, .inl b4)), (p5, .inl (cI, 4, .inl b5))]) ⟨hx, hb, hml, hown, hts⟩ (c0_X0_permissions l D cI cJ x0 x1 x2 x3 x4 x5 x6 x7 x8 x9 _ g rm op rc ec su pe qt rs rn cs cn lc hc lg hg v7 r_84 e_85) (cwV 1 hts gL_left_X0_permissions rfl rfl rfl (by decide +kernel) ⟨Nat.le_of_ble_eq_true rfl, Nat.le_of_ble_eq_true rfl⟩) hK hP hD hS hA [0, 1, 2, 3, 4, 5, 6, 7, 8, 9] [10, 11] rfl rfl (by decide) (by decide) rfl rfl rfl rfl rfl hl.1 rfl (lv_room (Nat.le_of_ble_eq_true rfl)) dL_left_116 ⟨Nat.le_of_ble_eq_true rfl, Nat.le_of_ble_eq_true rfl⟩ (fun H locs hP hD hS => ?_)
        replace hP := hP.sub (ws' := wX cI cJ x0 x1 x2 x3 x4 x5 x6 x7 x8 x9 g rm op rc ec su pe qt rs rn cs cn lc hc lg hg ++ [(p4, .inl (cI, 40, .inl b4)), (p5, .inl (cI, 4, .inl b5))]) [2, 3, 4, 5, 6, 7, 8, 9, 10, 11, 0, 1] rfl
        replace hD := hD.sub (ws' := wX cI cJ x0 x1 x2 x3 x4 x5 x6 x7 x8 x9 g rm op rc ec su pe qt rs rn cs cn lc hc lg hg ++ [(p4, .inl (cI, 40, .inl b4)), (p5, .inl (cI, 4, .inl b5))]) [2, 3, 4, 5, 6, 7, 8, 9, 10, 11, 0, 1] (by decide) rfl
        refine lv_aload hx hb dL_left_119 (lv_at hl 3 rfl) ?_
        refine lv_iload hx hb dL_left_121 (lv_at hl 4 rfl) ?_
        obtain ⟨h_86, h⟩ := ix_some h
        refine va_iald hx hb hK hP 10 0 rfl rfl h_86 dL_left_123 ?_
        refine lv_aload hx hb dL_left_124 (lv_at hl 3 rfl) ?_
        refine lv_bipush (v := 8) hx hb dL_left_126 (by decide) ?_
        refine lv_iload hx hb dL_left_128 (lv_at hl 4 rfl) ?_
        refine lv_iadd hx hb dL_left_130 ?_
        refine va_iald hx hb hK hP 10 0 rfl rfl h_81 dL_left_131 ?_
        refine lv_iconst (v := (-1)) hx hb dL_left_132 (by decide) ?_
        refine lv_ixor hx hb dL_left_133 ?_
        refine lv_iand hx hb dL_left_134 ?_
        refine lv_icmp_eq (tgt := 140) hx hb dL_left_135 (by decide) (fun c_87 => ?_) (fun c_87 => ?_)
        · replace h := (if_pos c_87).symm.trans h
          refine lv_iinc (v := (v7 + 1)) (lv' := [(7, .int (v7 + 1)), (6, .int (v6 + r_82)), (0, .ref x0), (3, .int a3), (4, .ref p4)]) hx hb dL_left_140 hl (k := 4) rfl rfl (by decide) rfl (fun ls hl => ?_)
          refine lv_goto (tgt := 90) hx hb dL_left_143 (by decide) ?_
          exact ih (v6 + r_82) (v7 + 1) cs cn lc hc lg hg _ _ _ h hP hD hS (lv_sub hl [2, 3, 4, 1, 0] rfl)
        · replace h := (if_neg c_87).symm.trans h
          refine lv_iconst (v := 0) hx hb dL_left_138 (by decide) ?_
          cases h
          refine W.widen (k := 2) (n := 12) (Nat.le_of_ble_eq_true rfl) (Nat.le_of_ble_eq_true rfl) ?_
          exact W.zret hx hb hr rfl (fun t ht hW => ⟨⟨_, (), rfl, rfl, by rw [ht]; exact hP, va_K.moved hW.alike hK, hD⟩, hS.F ht⟩) hS.2.2 dL_left_139
  rw [m_L_left] at h
  refine lv_iload_n hx hb dL_left_0 rfl (lv_at hl 1 rfl) ?_
  refine lv_bipush (v := 10) hx hb dL_left_1 (by decide) ?_
  refine lv_icmp_eq (tgt := 12) hx hb dL_left_3 (by decide) (fun c_1 => ?_) (fun c_1 => ?_)
  · replace h := (if_pos c_1).symm.trans h
    refine lv_aload_n hx hb dL_left_12 rfl (lv_at hl 0 rfl) ?_
    obtain ⟨r_2, cs_3, cn_4, lc_5, hc_6, lg_7, hg_8, e_9, hE_10, h⟩ := bw6_some h
    refine gl_W1 (As := [.ref x0]) (rest := []) (wc := wX cI cJ x0 x1 x2 x3 x4 x5 x6 x7 x8 x9 g rm op rc ec su pe qt rs rn cs cn lc hc lg hg) (w1 := wX cI cJ x0 x1 x2 x3 x4 x5 x6 x7 x8 x9 g rm op rc ec su pe qt rs rn cs_3 cn_4 lc_5 hc_6 lg_7 hg_8) (wr := [(p4, .inl (cI, 40, .inl b4)), (p5, .inl (cI, 4, .inl b5))]) ⟨hx, hb, hml, hown, hts⟩ (c_L_least l hst D cI cJ x0 x1 x2 x3 x4 x5 x6 x7 x8 x9 _ g rm op rc ec su pe qt rs rn cs cn lc hc lg hg fu  r_2 cs_3 cn_4 lc_5 hc_6 lg_7 hg_8 e_9 hE_10) (vx_cwSW 1 hts gL_left_L_least rfl rfl rfl (by decide +kernel) ⟨Nat.le_of_ble_eq_true rfl, Nat.le_of_ble_eq_true rfl⟩) hK hP hD hS hA hT [0, 1, 2, 3, 4, 5, 6, 7, 8, 9] [10, 11] rfl rfl (by decide) (by decide) rfl rfl rfl hl.1 rfl (lv_room (Nat.le_of_ble_eq_true rfl)) dL_left_13 ⟨Nat.le_of_ble_eq_true rfl, Nat.le_of_ble_eq_true rfl⟩ (fun H locs hP hD hS => ?_)
    replace hP := hP.sub (ws' := wX cI cJ x0 x1 x2 x3 x4 x5 x6 x7 x8 x9 g rm op rc ec su pe qt rs rn cs_3 cn_4 lc_5 hc_6 lg_7 hg_8 ++ [(p4, .inl (cI, 40, .inl b4)), (p5, .inl (cI, 4, .inl b5))]) [2, 3, 4, 5, 6, 7, 8, 9, 10, 11, 0, 1] rfl
    replace hD := hD.sub (ws' := wX cI cJ x0 x1 x2 x3 x4 x5 x6 x7 x8 x9 g rm op rc ec su pe qt rs rn cs_3 cn_4 lc_5 hc_6 lg_7 hg_8 ++ [(p4, .inl (cI, 40, .inl b4)), (p5, .inl (cI, 4, .inl b5))]) [2, 3, 4, 5, 6, 7, 8, 9, 10, 11, 0, 1] (by decide) rfl
    refine lv_istore (lv' := [(6, .int (wr1 (-4) r_2)), (0, .ref x0), (1, .int a1), (2, .int a2), (3, .int a3), (4, .ref p4), (5, .ref p5)]) hx hb dL_left_16 hl (by decide) rfl (fun ls hl => ?_)
    refine lv_iload_n hx hb dL_left_18 rfl (lv_at hl 4 rfl) ?_
    refine lv_aload_n hx hb dL_left_19 rfl (lv_at hl 1 rfl) ?_
    obtain ⟨r_11, e_12, h⟩ := bnd1_some h
    refine gl_Vi (As := []) (rest := [.int a3]) (wc := wX cI cJ x0 x1 x2 x3 x4 x5 x6 x7 x8 x9 g rm op rc ec su pe qt rs rn cs_3 cn_4 lc_5 hc_6 lg_7 hg_8) (w1 := wX cI cJ x0 x1 x2 x3 x4 x5 x6 x7 x8 x9 g rm op rc ec su pe qt rs rn cs_3 cn_4 lc_5 hc_6 lg_7 hg_8) (wr := [(p4, .inl (cI, 40, .inl b4)), (p5, .inl (cI, 4, .inl b5))]) ⟨hx, hb, hml, hown, hts⟩ (c_X0_cost l D cI cJ x0 x1 x2 x3 x4 x5 x6 x7 x8 x9 _ g rm op rc ec su pe qt rs rn cs_3 cn_4 lc_5 hc_6 lg_7 hg_8 fu  r_11 e_12) (cwV 0 hts gL_left_X0_cost rfl rfl rfl (by decide +kernel) ⟨Nat.le_of_ble_eq_true rfl, Nat.le_of_ble_eq_true rfl⟩) hK hP hD hS hA [0, 1, 2, 3, 4, 5, 6, 7, 8, 9] [10, 11] rfl rfl (by decide) (by decide) rfl rfl rfl rfl rfl hl.1 rfl (lv_room (Nat.le_of_ble_eq_true rfl)) dL_left_20 ⟨Nat.le_of_ble_eq_true rfl, Nat.le_of_ble_eq_true rfl⟩ (fun H locs hP hD hS => ?_)
    replace hP := hP.sub (ws' := wX cI cJ x0 x1 x2 x3 x4 x5 x6 x7 x8 x9 g rm op rc ec su pe qt rs rn cs_3 cn_4 lc_5 hc_6 lg_7 hg_8 ++ [(p4, .inl (cI, 40, .inl b4)), (p5, .inl (cI, 4, .inl b5))]) [2, 3, 4, 5, 6, 7, 8, 9, 10, 11, 0, 1] rfl
    replace hD := hD.sub (ws' := wX cI cJ x0 x1 x2 x3 x4 x5 x6 x7 x8 x9 g rm op rc ec su pe qt rs rn cs_3 cn_4 lc_5 hc_6 lg_7 hg_8 ++ [(p4, .inl (cI, 40, .inl b4)), (p5, .inl (cI, 4, .inl b5))]) [2, 3, 4, 5, 6, 7, 8, 9, 10, 11, 0, 1] (by decide) rfl
    refine lv_icmp_ne (tgt := 76) hx hb dL_left_23 (by decide) (fun c_13 => ?_) (fun c_13 => ?_)
    · replace h := (if_neg c_13).symm.trans h
      refine lv_iconst (v := 0) hx hb dL_left_76 (by decide) ?_
      cases h
      refine W.widen (k := 2) (n := 12) (Nat.le_of_ble_eq_true rfl) (Nat.le_of_ble_eq_true rfl) ?_
      exact W.zret hx hb hr rfl (fun t ht hW => ⟨⟨_, (), rfl, rfl, by rw [ht]; exact hP, va_K.moved hW.alike hK, hD⟩, hS.F ht⟩) hS.2.2 dL_left_77
    · replace h := (if_pos c_13).symm.trans h
      refine lv_aload_n hx hb dL_left_26 rfl (lv_at hl 1 rfl) ?_
      obtain ⟨r_14, cs_15, cn_16, lc_17, hc_18, lg_19, hg_20, e_21, h⟩ := bnd7_some h
      refine gl_L (As := [.ref x0]) (rest := []) (wc := wX cI cJ x0 x1 x2 x3 x4 x5 x6 x7 x8 x9 g rm op rc ec su pe qt rs rn cs_3 cn_4 lc_5 hc_6 lg_7 hg_8) (w1 := wX cI cJ x0 x1 x2 x3 x4 x5 x6 x7 x8 x9 g rm op rc ec su pe qt rs rn cs_15 cn_16 lc_17 hc_18 lg_19 hg_20) (wr := [(p4, .inl (cI, 40, .inl b4)), (p5, .inl (cI, 4, .inl b5))]) ⟨hx, hb, hml, hown, hts⟩ (c_L_laid l hst D cI cJ x0 x1 x2 x3 x4 x5 x6 x7 x8 x9 _ g rm op rc ec su pe qt rs rn cs_3 cn_4 lc_5 hc_6 lg_7 hg_8 fu  r_14 cs_15 cn_16 lc_17 hc_18 lg_19 hg_20 e_21) (va_cwS 1 hts gL_left_L_laid rfl rfl rfl (by decide +kernel) ⟨Nat.le_of_ble_eq_true rfl, Nat.le_of_ble_eq_true rfl⟩) hK hP hD hS hA hT [0, 1, 2, 3, 4, 5, 6, 7, 8, 9] [10, 11] rfl rfl (by decide) (by decide) rfl rfl rfl hl.1 rfl (lv_room (Nat.le_of_ble_eq_true rfl)) dL_left_27 ⟨Nat.le_of_ble_eq_true rfl, Nat.le_of_ble_eq_true rfl⟩ (fun H locs hP hD hS => ?_)
      replace hP := hP.sub (ws' := wX cI cJ x0 x1 x2 x3 x4 x5 x6 x7 x8 x9 g rm op rc ec su pe qt rs rn cs_15 cn_16 lc_17 hc_18 lg_19 hg_20 ++ [(p4, .inl (cI, 40, .inl b4)), (p5, .inl (cI, 4, .inl b5))]) [2, 3, 4, 5, 6, 7, 8, 9, 10, 11, 0, 1] rfl
      replace hD := hD.sub (ws' := wX cI cJ x0 x1 x2 x3 x4 x5 x6 x7 x8 x9 g rm op rc ec su pe qt rs rn cs_15 cn_16 lc_17 hc_18 lg_19 hg_20 ++ [(p4, .inl (cI, 40, .inl b4)), (p5, .inl (cI, 4, .inl b5))]) [2, 3, 4, 5, 6, 7, 8, 9, 10, 11, 0, 1] (by decide) rfl
      refine lv_if_eq (tgt := 76) hx hb dL_left_30 (by decide) (fun c_22 => ?_) (fun c_22 => ?_)
      · replace h := (if_pos c_22).symm.trans h
        refine lv_iconst (v := 0) hx hb dL_left_76 (by decide) ?_
        cases h
        exact W.zret hx hb hr rfl (fun t ht hW => ⟨⟨_, (), rfl, rfl, by rw [ht]; exact hP, va_K.moved hW.alike hK, hD⟩, hS.F ht⟩) hS.2.2 dL_left_77
      · replace h := (if_neg c_22).symm.trans h
        refine lv_iload hx hb dL_left_33 (lv_at hl 0 rfl) ?_
        refine lv_if_lt (tgt := 59) hx hb dL_left_35 (by decide) (fun c_23 => ?_) (fun c_23 => ?_)
        · replace h := (if_pos c_23).symm.trans h
          refine lv_iload_n hx hb dL_left_59 rfl (lv_at hl 4 rfl) ?_
          refine lv_aload hx hb dL_left_60 (lv_at hl 6 rfl) ?_
          refine lv_iconst (v := 1) hx hb dL_left_62 (by decide) ?_
          refine va_iald hx hb hK hP 11 0 rfl rfl (show ¬ ((1 : Int32) < 0 ∨ 4 ≤ Int32.toNatClampNeg 1) by decide) dL_left_63 ?_
          refine lv_aload_n hx hb dL_left_64 rfl (lv_at hl 1 rfl) ?_
          obtain ⟨r_24, e_25, h⟩ := bnd1_some h
          refine gl_Vi (As := []) (rest := [.int (b5 (Int32.toNatClampNeg 1)), .int a3]) (wc := wX cI cJ x0 x1 x2 x3 x4 x5 x6 x7 x8 x9 g rm op rc ec su pe qt rs rn cs_15 cn_16 lc_17 hc_18 lg_19 hg_20) (w1 := wX cI cJ x0 x1 x2 x3 x4 x5 x6 x7 x8 x9 g rm op rc ec su pe qt rs rn cs_15 cn_16 lc_17 hc_18 lg_19 hg_20) (wr := [(p4, .inl (cI, 40, .inl b4)), (p5, .inl (cI, 4, .inl b5))]) ⟨hx, hb, hml, hown, hts⟩ (c_X0_grants l D cI cJ x0 x1 x2 x3 x4 x5 x6 x7 x8 x9 _ g rm op rc ec su pe qt rs rn cs_15 cn_16 lc_17 hc_18 lg_19 hg_20 fu  r_24 e_25) (cwV 0 hts gL_left_X0_grants rfl rfl rfl (by decide +kernel) ⟨Nat.le_of_ble_eq_true rfl, Nat.le_of_ble_eq_true rfl⟩) hK hP hD hS hA [0, 1, 2, 3, 4, 5, 6, 7, 8, 9] [10, 11] rfl rfl (by decide) (by decide) rfl rfl rfl rfl rfl hl.1 rfl (lv_room (Nat.le_of_ble_eq_true rfl)) dL_left_65 ⟨Nat.le_of_ble_eq_true rfl, Nat.le_of_ble_eq_true rfl⟩ (fun H locs hP hD hS => ?_)
          replace hP := hP.sub (ws' := wX cI cJ x0 x1 x2 x3 x4 x5 x6 x7 x8 x9 g rm op rc ec su pe qt rs rn cs_15 cn_16 lc_17 hc_18 lg_19 hg_20 ++ [(p4, .inl (cI, 40, .inl b4)), (p5, .inl (cI, 4, .inl b5))]) [2, 3, 4, 5, 6, 7, 8, 9, 10, 11, 0, 1] rfl
          replace hD := hD.sub (ws' := wX cI cJ x0 x1 x2 x3 x4 x5 x6 x7 x8 x9 g rm op rc ec su pe qt rs rn cs_15 cn_16 lc_17 hc_18 lg_19 hg_20 ++ [(p4, .inl (cI, 40, .inl b4)), (p5, .inl (cI, 4, .inl b5))]) [2, 3, 4, 5, 6, 7, 8, 9, 10, 11, 0, 1] (by decide) rfl
          refine lv_imul hx hb dL_left_68 ?_
          refine lv_icmp_gt (tgt := 76) hx hb dL_left_69 (by decide) (fun c_26 => ?_) (fun c_26 => ?_)
          · replace h := (if_pos c_26).symm.trans h
            refine lv_iconst (v := 0) hx hb dL_left_76 (by decide) ?_
            cases h
            exact W.zret hx hb hr rfl (fun t ht hW => ⟨⟨_, (), rfl, rfl, by rw [ht]; exact hP, va_K.moved hW.alike hK, hD⟩, hS.F ht⟩) hS.2.2 dL_left_77
          · replace h := (if_neg c_26).symm.trans h
            refine lv_iconst (v := 1) hx hb dL_left_72 (by decide) ?_
            refine lv_goto (tgt := 77) hx hb dL_left_73 (by decide) ?_
            cases h
            exact W.zret hx hb hr rfl (fun t ht hW => ⟨⟨_, (), rfl, rfl, by rw [ht]; exact hP, va_K.moved hW.alike hK, hD⟩, hS.F ht⟩) hS.2.2 dL_left_77
        · replace h := (if_neg c_23).symm.trans h
          refine lv_iload_n hx hb dL_left_38 rfl (lv_at hl 2 rfl) ?_
          refine lv_bipush (v := 11) hx hb dL_left_39 (by decide) ?_
          refine lv_icmp_ne (tgt := 53) hx hb dL_left_41 (by decide) (fun c_27 => ?_) (fun c_27 => ?_)
          · replace h := (if_neg c_27).symm.trans h
            refine lv_iload_n hx hb dL_left_53 rfl (lv_at hl 4 rfl) ?_
            refine lv_iload hx hb dL_left_54 (lv_at hl 0 rfl) ?_
            refine lv_icmp_lt (tgt := 76) hx hb dL_left_56 (by decide) (fun c_28 => ?_) (fun c_28 => ?_)
            · replace h := (if_pos c_28).symm.trans h
              refine lv_iconst (v := 0) hx hb dL_left_76 (by decide) ?_
              cases h
              exact W.zret hx hb hr rfl (fun t ht hW => ⟨⟨_, (), rfl, rfl, by rw [ht]; exact hP, va_K.moved hW.alike hK, hD⟩, hS.F ht⟩) hS.2.2 dL_left_77
            · replace h := (if_neg c_28).symm.trans h
              refine lv_iload_n hx hb dL_left_59 rfl (lv_at hl 4 rfl) ?_
              refine lv_aload hx hb dL_left_60 (lv_at hl 6 rfl) ?_
              refine lv_iconst (v := 1) hx hb dL_left_62 (by decide) ?_
              refine va_iald hx hb hK hP 11 0 rfl rfl (show ¬ ((1 : Int32) < 0 ∨ 4 ≤ Int32.toNatClampNeg 1) by decide) dL_left_63 ?_
              refine lv_aload_n hx hb dL_left_64 rfl (lv_at hl 1 rfl) ?_
              obtain ⟨r_29, e_30, h⟩ := bnd1_some h
              refine gl_Vi (As := []) (rest := [.int (b5 (Int32.toNatClampNeg 1)), .int a3]) (wc := wX cI cJ x0 x1 x2 x3 x4 x5 x6 x7 x8 x9 g rm op rc ec su pe qt rs rn cs_15 cn_16 lc_17 hc_18 lg_19 hg_20) (w1 := wX cI cJ x0 x1 x2 x3 x4 x5 x6 x7 x8 x9 g rm op rc ec su pe qt rs rn cs_15 cn_16 lc_17 hc_18 lg_19 hg_20) (wr := [(p4, .inl (cI, 40, .inl b4)), (p5, .inl (cI, 4, .inl b5))]) ⟨hx, hb, hml, hown, hts⟩ (c_X0_grants l D cI cJ x0 x1 x2 x3 x4 x5 x6 x7 x8 x9 _ g rm op rc ec su pe qt rs rn cs_15 cn_16 lc_17 hc_18 lg_19 hg_20 fu  r_29 e_30) (cwV 0 hts gL_left_X0_grants rfl rfl rfl (by decide +kernel) ⟨Nat.le_of_ble_eq_true rfl, Nat.le_of_ble_eq_true rfl⟩) hK hP hD hS hA [0, 1, 2, 3, 4, 5, 6, 7, 8, 9] [10, 11] rfl rfl (by decide) (by decide) rfl rfl rfl rfl rfl hl.1 rfl (lv_room (Nat.le_of_ble_eq_true rfl)) dL_left_65 ⟨Nat.le_of_ble_eq_true rfl, Nat.le_of_ble_eq_true rfl⟩ (fun H locs hP hD hS => ?_)
              replace hP := hP.sub (ws' := wX cI cJ x0 x1 x2 x3 x4 x5 x6 x7 x8 x9 g rm op rc ec su pe qt rs rn cs_15 cn_16 lc_17 hc_18 lg_19 hg_20 ++ [(p4, .inl (cI, 40, .inl b4)), (p5, .inl (cI, 4, .inl b5))]) [2, 3, 4, 5, 6, 7, 8, 9, 10, 11, 0, 1] rfl
              replace hD := hD.sub (ws' := wX cI cJ x0 x1 x2 x3 x4 x5 x6 x7 x8 x9 g rm op rc ec su pe qt rs rn cs_15 cn_16 lc_17 hc_18 lg_19 hg_20 ++ [(p4, .inl (cI, 40, .inl b4)), (p5, .inl (cI, 4, .inl b5))]) [2, 3, 4, 5, 6, 7, 8, 9, 10, 11, 0, 1] (by decide) rfl
              refine lv_imul hx hb dL_left_68 ?_
              refine lv_icmp_gt (tgt := 76) hx hb dL_left_69 (by decide) (fun c_31 => ?_) (fun c_31 => ?_)
              · replace h := (if_pos c_31).symm.trans h
                refine lv_iconst (v := 0) hx hb dL_left_76 (by decide) ?_
                cases h
                exact W.zret hx hb hr rfl (fun t ht hW => ⟨⟨_, (), rfl, rfl, by rw [ht]; exact hP, va_K.moved hW.alike hK, hD⟩, hS.F ht⟩) hS.2.2 dL_left_77
              · replace h := (if_neg c_31).symm.trans h
                refine lv_iconst (v := 1) hx hb dL_left_72 (by decide) ?_
                refine lv_goto (tgt := 77) hx hb dL_left_73 (by decide) ?_
                cases h
                exact W.zret hx hb hr rfl (fun t ht hW => ⟨⟨_, (), rfl, rfl, by rw [ht]; exact hP, va_K.moved hW.alike hK, hD⟩, hS.F ht⟩) hS.2.2 dL_left_77
          · replace h := (if_pos c_27).symm.trans h
            refine lv_iload_n hx hb dL_left_44 rfl (lv_at hl 4 rfl) ?_
            refine lv_iload hx hb dL_left_45 (lv_at hl 0 rfl) ?_
            refine lv_icmp_ne (tgt := 76) hx hb dL_left_47 (by decide) (fun c_32 => ?_) (fun c_32 => ?_)
            · replace h := (if_neg c_32).symm.trans h
              refine lv_iconst (v := 0) hx hb dL_left_76 (by decide) ?_
              cases h
              exact W.zret hx hb hr rfl (fun t ht hW => ⟨⟨_, (), rfl, rfl, by rw [ht]; exact hP, va_K.moved hW.alike hK, hD⟩, hS.F ht⟩) hS.2.2 dL_left_77
            · replace h := (if_pos c_32).symm.trans h
              refine lv_goto (tgt := 59) hx hb dL_left_50 (by decide) ?_
              refine lv_iload_n hx hb dL_left_59 rfl (lv_at hl 4 rfl) ?_
              refine lv_aload hx hb dL_left_60 (lv_at hl 6 rfl) ?_
              refine lv_iconst (v := 1) hx hb dL_left_62 (by decide) ?_
              refine va_iald hx hb hK hP 11 0 rfl rfl (show ¬ ((1 : Int32) < 0 ∨ 4 ≤ Int32.toNatClampNeg 1) by decide) dL_left_63 ?_
              refine lv_aload_n hx hb dL_left_64 rfl (lv_at hl 1 rfl) ?_
              obtain ⟨r_33, e_34, h⟩ := bnd1_some h
              refine gl_Vi (As := []) (rest := [.int (b5 (Int32.toNatClampNeg 1)), .int a3]) (wc := wX cI cJ x0 x1 x2 x3 x4 x5 x6 x7 x8 x9 g rm op rc ec su pe qt rs rn cs_15 cn_16 lc_17 hc_18 lg_19 hg_20) (w1 := wX cI cJ x0 x1 x2 x3 x4 x5 x6 x7 x8 x9 g rm op rc ec su pe qt rs rn cs_15 cn_16 lc_17 hc_18 lg_19 hg_20) (wr := [(p4, .inl (cI, 40, .inl b4)), (p5, .inl (cI, 4, .inl b5))]) ⟨hx, hb, hml, hown, hts⟩ (c_X0_grants l D cI cJ x0 x1 x2 x3 x4 x5 x6 x7 x8 x9 _ g rm op rc ec su pe qt rs rn cs_15 cn_16 lc_17 hc_18 lg_19 hg_20 fu  r_33 e_34) (cwV 0 hts gL_left_X0_grants rfl rfl rfl (by decide +kernel) ⟨Nat.le_of_ble_eq_true rfl, Nat.le_of_ble_eq_true rfl⟩) hK hP hD hS hA [0, 1, 2, 3, 4, 5, 6, 7, 8, 9] [10, 11] rfl rfl (by decide) (by decide) rfl rfl rfl rfl rfl hl.1 rfl (lv_room (Nat.le_of_ble_eq_true rfl)) dL_left_65 ⟨Nat.le_of_ble_eq_true rfl, Nat.le_of_ble_eq_true rfl⟩ (fun H locs hP hD hS => ?_)
              replace hP := hP.sub (ws' := wX cI cJ x0 x1 x2 x3 x4 x5 x6 x7 x8 x9 g rm op rc ec su pe qt rs rn cs_15 cn_16 lc_17 hc_18 lg_19 hg_20 ++ [(p4, .inl (cI, 40, .inl b4)), (p5, .inl (cI, 4, .inl b5))]) [2, 3, 4, 5, 6, 7, 8, 9, 10, 11, 0, 1] rfl
              replace hD := hD.sub (ws' := wX cI cJ x0 x1 x2 x3 x4 x5 x6 x7 x8 x9 g rm op rc ec su pe qt rs rn cs_15 cn_16 lc_17 hc_18 lg_19 hg_20 ++ [(p4, .inl (cI, 40, .inl b4)), (p5, .inl (cI, 4, .inl b5))]) [2, 3, 4, 5, 6, 7, 8, 9, 10, 11, 0, 1] (by decide) rfl
              refine lv_imul hx hb dL_left_68 ?_
              refine lv_icmp_gt (tgt := 76) hx hb dL_left_69 (by decide) (fun c_35 => ?_) (fun c_35 => ?_)
              · replace h := (if_pos c_35).symm.trans h
                refine lv_iconst (v := 0) hx hb dL_left_76 (by decide) ?_
                cases h
                exact W.zret hx hb hr rfl (fun t ht hW => ⟨⟨_, (), rfl, rfl, by rw [ht]; exact hP, va_K.moved hW.alike hK, hD⟩, hS.F ht⟩) hS.2.2 dL_left_77
              · replace h := (if_neg c_35).symm.trans h
                refine lv_iconst (v := 1) hx hb dL_left_72 (by decide) ?_
                refine lv_goto (tgt := 77) hx hb dL_left_73 (by decide) ?_
                cases h
                exact W.zret hx hb hr rfl (fun t ht hW => ⟨⟨_, (), rfl, rfl, by rw [ht]; exact hP, va_K.moved hW.alike hK, hD⟩, hS.F ht⟩) hS.2.2 dL_left_77
  · replace h := (if_neg c_1).symm.trans h
    refine lv_iload_n hx hb dL_left_6 rfl (lv_at hl 1 rfl) ?_
    refine lv_bipush (v := 11) hx hb dL_left_7 (by decide) ?_
    refine lv_icmp_ne (tgt := 78) hx hb dL_left_9 (by decide) (fun c_36 => ?_) (fun c_36 => ?_)
    · replace h := (if_neg c_36).symm.trans h
      refine lv_iload_n hx hb dL_left_78 rfl (lv_at hl 1 rfl) ?_
      refine lv_bipush (v := 9) hx hb dL_left_79 (by decide) ?_
      refine lv_icmp_ne (tgt := 172) hx hb dL_left_81 (by decide) (fun c_37 => ?_) (fun c_37 => ?_)
      · replace h := (if_neg c_37).symm.trans h
        refine lv_iload_n hx hb dL_left_172 rfl (lv_at hl 1 rfl) ?_
        refine lv_bipush (v := 12) hx hb dL_left_173 (by decide) ?_
        refine lv_icmp_ne (tgt := 200) hx hb dL_left_175 (by decide) (fun c_38 => ?_) (fun c_38 => ?_)
        · replace h := (if_neg c_38).symm.trans h
          refine lv_aload_n hx hb dL_left_200 rfl (lv_at hl 0 rfl) ?_
          refine gl_Vi (As := []) (rest := []) (wc := wX cI cJ x0 x1 x2 x3 x4 x5 x6 x7 x8 x9 g rm op rc ec su pe qt rs rn cs cn lc hc lg hg) (w1 := wX cI cJ x0 x1 x2 x3 x4 x5 x6 x7 x8 x9 g rm op rc ec su pe qt rs rn cs cn lc hc lg hg) (wr := [(p4, .inl (cI, 40, .inl b4)), (p5, .inl (cI, 4, .inl b5))]) ⟨hx, hb, hml, hown, hts⟩ (c_X0_quarter l D cI cJ x0 x1 x2 x3 x4 x5 x6 x7 x8 x9 _ g rm op rc ec su pe qt rs rn cs cn lc hc lg hg ) (cwV 0 hts gL_left_X0_quarter rfl rfl rfl (by decide +kernel) ⟨Nat.le_of_ble_eq_true rfl, Nat.le_of_ble_eq_true rfl⟩) hK hP hD hS hA [0, 1, 2, 3, 4, 5, 6, 7, 8, 9] [10, 11] rfl rfl (by decide) (by decide) rfl rfl rfl rfl rfl hl.1 rfl (lv_room (Nat.le_of_ble_eq_true rfl)) dL_left_201 ⟨Nat.le_of_ble_eq_true rfl, Nat.le_of_ble_eq_true rfl⟩ (fun H locs hP hD hS => ?_)
          replace hP := hP.sub (ws' := wX cI cJ x0 x1 x2 x3 x4 x5 x6 x7 x8 x9 g rm op rc ec su pe qt rs rn cs cn lc hc lg hg ++ [(p4, .inl (cI, 40, .inl b4)), (p5, .inl (cI, 4, .inl b5))]) [2, 3, 4, 5, 6, 7, 8, 9, 10, 11, 0, 1] rfl
          replace hD := hD.sub (ws' := wX cI cJ x0 x1 x2 x3 x4 x5 x6 x7 x8 x9 g rm op rc ec su pe qt rs rn cs cn lc hc lg hg ++ [(p4, .inl (cI, 40, .inl b4)), (p5, .inl (cI, 4, .inl b5))]) [2, 3, 4, 5, 6, 7, 8, 9, 10, 11, 0, 1] (by decide) rfl
          refine lv_aload hx hb dL_left_204 (lv_at hl 4 rfl) ?_
          refine lv_bipush (v := 32) hx hb dL_left_206 (by decide) ?_
          refine va_iald hx hb hK hP 10 0 rfl rfl (show ¬ ((32 : Int32) < 0 ∨ 40 ≤ Int32.toNatClampNeg 32) by decide) dL_left_208 ?_
          refine lv_icmp_ne (tgt := 254) hx hb dL_left_209 (by decide) (fun c_39 => ?_) (fun c_39 => ?_)
          · replace h := (if_neg c_39).symm.trans h
            refine lv_iconst (v := 0) hx hb dL_left_254 (by decide) ?_
            cases h
            refine W.widen (k := 2) (n := 12) (Nat.le_of_ble_eq_true rfl) (Nat.le_of_ble_eq_true rfl) ?_
            exact W.zret hx hb hr rfl (fun t ht hW => ⟨⟨_, (), rfl, rfl, by rw [ht]; exact hP, va_K.moved hW.alike hK, hD⟩, hS.F ht⟩) hS.2.2 dL_left_255
          · replace h := (if_pos c_39).symm.trans h
            refine lv_aload_n hx hb dL_left_212 rfl (lv_at hl 0 rfl) ?_
            refine gl_Vi (As := []) (rest := []) (wc := wX cI cJ x0 x1 x2 x3 x4 x5 x6 x7 x8 x9 g rm op rc ec su pe qt rs rn cs cn lc hc lg hg) (w1 := wX cI cJ x0 x1 x2 x3 x4 x5 x6 x7 x8 x9 g rm op rc ec su pe qt rs rn cs cn lc hc lg hg) (wr := [(p4, .inl (cI, 40, .inl b4)), (p5, .inl (cI, 4, .inl b5))]) ⟨hx, hb, hml, hown, hts⟩ (c_X0_roles l D cI cJ x0 x1 x2 x3 x4 x5 x6 x7 x8 x9 _ g rm op rc ec su pe qt rs rn cs cn lc hc lg hg ) (cwV 0 hts gL_left_X0_roles rfl rfl rfl (by decide +kernel) ⟨Nat.le_of_ble_eq_true rfl, Nat.le_of_ble_eq_true rfl⟩) hK hP hD hS hA [0, 1, 2, 3, 4, 5, 6, 7, 8, 9] [10, 11] rfl rfl (by decide) (by decide) rfl rfl rfl rfl rfl hl.1 rfl (lv_room (Nat.le_of_ble_eq_true rfl)) dL_left_213 ⟨Nat.le_of_ble_eq_true rfl, Nat.le_of_ble_eq_true rfl⟩ (fun H locs hP hD hS => ?_)
            replace hP := hP.sub (ws' := wX cI cJ x0 x1 x2 x3 x4 x5 x6 x7 x8 x9 g rm op rc ec su pe qt rs rn cs cn lc hc lg hg ++ [(p4, .inl (cI, 40, .inl b4)), (p5, .inl (cI, 4, .inl b5))]) [2, 3, 4, 5, 6, 7, 8, 9, 10, 11, 0, 1] rfl
            replace hD := hD.sub (ws' := wX cI cJ x0 x1 x2 x3 x4 x5 x6 x7 x8 x9 g rm op rc ec su pe qt rs rn cs cn lc hc lg hg ++ [(p4, .inl (cI, 40, .inl b4)), (p5, .inl (cI, 4, .inl b5))]) [2, 3, 4, 5, 6, 7, 8, 9, 10, 11, 0, 1] (by decide) rfl
            refine lv_aload hx hb dL_left_216 (lv_at hl 4 rfl) ?_
            refine lv_bipush (v := 33) hx hb dL_left_218 (by decide) ?_
            refine va_iald hx hb hK hP 10 0 rfl rfl (show ¬ ((33 : Int32) < 0 ∨ 40 ≤ Int32.toNatClampNeg 33) by decide) dL_left_220 ?_
            refine lv_icmp_ne (tgt := 254) hx hb dL_left_221 (by decide) (fun c_40 => ?_) (fun c_40 => ?_)
            · replace h := (if_neg c_40).symm.trans h
              refine lv_iconst (v := 0) hx hb dL_left_254 (by decide) ?_
              cases h
              refine W.widen (k := 2) (n := 12) (Nat.le_of_ble_eq_true rfl) (Nat.le_of_ble_eq_true rfl) ?_
              exact W.zret hx hb hr rfl (fun t ht hW => ⟨⟨_, (), rfl, rfl, by rw [ht]; exact hP, va_K.moved hW.alike hK, hD⟩, hS.F ht⟩) hS.2.2 dL_left_255
            · replace h := (if_pos c_40).symm.trans h
              refine lv_iload_n hx hb dL_left_224 rfl (lv_at hl 1 rfl) ?_
              refine lv_iconst (v := 3) hx hb dL_left_225 (by decide) ?_
              refine lv_icmp_le (tgt := 244) hx hb dL_left_226 (by decide) (fun c_41 => ?_) (fun c_41 => ?_)
              · replace h := (if_pos c_41).symm.trans h
                refine lv_iload_n hx hb dL_left_244 rfl (lv_at hl 3 rfl) ?_
                refine lv_bipush (v := 12) hx hb dL_left_245 (by decide) ?_
                refine lv_icmp_gt (tgt := 254) hx hb dL_left_247 (by decide) (fun c_42 => ?_) (fun c_42 => ?_)
                · replace h := (if_pos c_42).symm.trans h
                  refine lv_iconst (v := 0) hx hb dL_left_254 (by decide) ?_
                  cases h
                  refine W.widen (k := 2) (n := 12) (Nat.le_of_ble_eq_true rfl) (Nat.le_of_ble_eq_true rfl) ?_
                  exact W.zret hx hb hr rfl (fun t ht hW => ⟨⟨_, (), rfl, rfl, by rw [ht]; exact hP, va_K.moved hW.alike hK, hD⟩, hS.F ht⟩) hS.2.2 dL_left_255
                · replace h := (if_neg c_42).symm.trans h
                  refine lv_iconst (v := 1) hx hb dL_left_250 (by decide) ?_
                  refine lv_goto (tgt := 255) hx hb dL_left_251 (by decide) ?_
                  cases h
                  refine W.widen (k := 2) (n := 12) (Nat.le_of_ble_eq_true rfl) (Nat.le_of_ble_eq_true rfl) ?_
                  exact W.zret hx hb hr rfl (fun t ht hW => ⟨⟨_, (), rfl, rfl, by rw [ht]; exact hP, va_K.moved hW.alike hK, hD⟩, hS.F ht⟩) hS.2.2 dL_left_255
              · replace h := (if_neg c_41).symm.trans h
                refine lv_aload_n hx hb dL_left_229 rfl (lv_at hl 0 rfl) ?_
                obtain ⟨r_43, e_44, h⟩ := bnd1_some h
                refine gl_Vi (As := []) (rest := []) (wc := wX cI cJ x0 x1 x2 x3 x4 x5 x6 x7 x8 x9 g rm op rc ec su pe qt rs rn cs cn lc hc lg hg) (w1 := wX cI cJ x0 x1 x2 x3 x4 x5 x6 x7 x8 x9 g rm op rc ec su pe qt rs rn cs cn lc hc lg hg) (wr := [(p4, .inl (cI, 40, .inl b4)), (p5, .inl (cI, 4, .inl b5))]) ⟨hx, hb, hml, hown, hts⟩ (c_X0_grants l D cI cJ x0 x1 x2 x3 x4 x5 x6 x7 x8 x9 _ g rm op rc ec su pe qt rs rn cs cn lc hc lg hg fu  r_43 e_44) (cwV 0 hts gL_left_X0_grants rfl rfl rfl (by decide +kernel) ⟨Nat.le_of_ble_eq_true rfl, Nat.le_of_ble_eq_true rfl⟩) hK hP hD hS hA [0, 1, 2, 3, 4, 5, 6, 7, 8, 9] [10, 11] rfl rfl (by decide) (by decide) rfl rfl rfl rfl rfl hl.1 rfl (lv_room (Nat.le_of_ble_eq_true rfl)) dL_left_230 ⟨Nat.le_of_ble_eq_true rfl, Nat.le_of_ble_eq_true rfl⟩ (fun H locs hP hD hS => ?_)
                replace hP := hP.sub (ws' := wX cI cJ x0 x1 x2 x3 x4 x5 x6 x7 x8 x9 g rm op rc ec su pe qt rs rn cs cn lc hc lg hg ++ [(p4, .inl (cI, 40, .inl b4)), (p5, .inl (cI, 4, .inl b5))]) [2, 3, 4, 5, 6, 7, 8, 9, 10, 11, 0, 1] rfl
                replace hD := hD.sub (ws' := wX cI cJ x0 x1 x2 x3 x4 x5 x6 x7 x8 x9 g rm op rc ec su pe qt rs rn cs cn lc hc lg hg ++ [(p4, .inl (cI, 40, .inl b4)), (p5, .inl (cI, 4, .inl b5))]) [2, 3, 4, 5, 6, 7, 8, 9, 10, 11, 0, 1] (by decide) rfl
                refine lv_aload hx hb dL_left_233 (lv_at hl 4 rfl) ?_
                refine lv_bipush (v := 35) hx hb dL_left_235 (by decide) ?_
                refine va_iald hx hb hK hP 10 0 rfl rfl (show ¬ ((35 : Int32) < 0 ∨ 40 ≤ Int32.toNatClampNeg 35) by decide) dL_left_237 ?_
                refine lv_icmp_ne (tgt := 254) hx hb dL_left_238 (by decide) (fun c_45 => ?_) (fun c_45 => ?_)
                · replace h := (if_neg c_45).symm.trans h
                  refine lv_iconst (v := 0) hx hb dL_left_254 (by decide) ?_
                  cases h
                  refine W.widen (k := 2) (n := 12) (Nat.le_of_ble_eq_true rfl) (Nat.le_of_ble_eq_true rfl) ?_
                  exact W.zret hx hb hr rfl (fun t ht hW => ⟨⟨_, (), rfl, rfl, by rw [ht]; exact hP, va_K.moved hW.alike hK, hD⟩, hS.F ht⟩) hS.2.2 dL_left_255
                · replace h := (if_pos c_45).symm.trans h
                  refine lv_goto (tgt := 250) hx hb dL_left_241 (by decide) ?_
                  refine lv_iconst (v := 1) hx hb dL_left_250 (by decide) ?_
                  refine lv_goto (tgt := 255) hx hb dL_left_251 (by decide) ?_
                  cases h
                  refine W.widen (k := 2) (n := 12) (Nat.le_of_ble_eq_true rfl) (Nat.le_of_ble_eq_true rfl) ?_
                  exact W.zret hx hb hr rfl (fun t ht hW => ⟨⟨_, (), rfl, rfl, by rw [ht]; exact hP, va_K.moved hW.alike hK, hD⟩, hS.F ht⟩) hS.2.2 dL_left_255
        · replace h := (if_pos c_38).symm.trans h
          refine lv_iload_n hx hb dL_left_178 rfl (lv_at hl 3 rfl) ?_
          refine lv_aload hx hb dL_left_179 (lv_at hl 4 rfl) ?_
          refine lv_bipush (v := 33) hx hb dL_left_181 (by decide) ?_
          refine va_iald hx hb hK hP 10 0 rfl rfl (show ¬ ((33 : Int32) < 0 ∨ 40 ≤ Int32.toNatClampNeg 33) by decide) dL_left_183 ?_
          refine lv_icmp_ne (tgt := 198) hx hb dL_left_184 (by decide) (fun c_46 => ?_) (fun c_46 => ?_)
          · replace h := (if_neg c_46).symm.trans h
            refine lv_iconst (v := 0) hx hb dL_left_198 (by decide) ?_
            cases h
            refine W.widen (k := 2) (n := 12) (Nat.le_of_ble_eq_true rfl) (Nat.le_of_ble_eq_true rfl) ?_
            exact W.zret hx hb hr rfl (fun t ht hW => ⟨⟨_, (), rfl, rfl, by rw [ht]; exact hP, va_K.moved hW.alike hK, hD⟩, hS.F ht⟩) hS.2.2 dL_left_199
          · replace h := (if_pos c_46).symm.trans h
            refine lv_aload_n hx hb dL_left_187 rfl (lv_at hl 0 rfl) ?_
            refine gl_Vi (As := []) (rest := []) (wc := wX cI cJ x0 x1 x2 x3 x4 x5 x6 x7 x8 x9 g rm op rc ec su pe qt rs rn cs cn lc hc lg hg) (w1 := wX cI cJ x0 x1 x2 x3 x4 x5 x6 x7 x8 x9 g rm op rc ec su pe qt rs rn cs cn lc hc lg hg) (wr := [(p4, .inl (cI, 40, .inl b4)), (p5, .inl (cI, 4, .inl b5))]) ⟨hx, hb, hml, hown, hts⟩ (c_X0_roles l D cI cJ x0 x1 x2 x3 x4 x5 x6 x7 x8 x9 _ g rm op rc ec su pe qt rs rn cs cn lc hc lg hg ) (cwV 0 hts gL_left_X0_roles rfl rfl rfl (by decide +kernel) ⟨Nat.le_of_ble_eq_true rfl, Nat.le_of_ble_eq_true rfl⟩) hK hP hD hS hA [0, 1, 2, 3, 4, 5, 6, 7, 8, 9] [10, 11] rfl rfl (by decide) (by decide) rfl rfl rfl rfl rfl hl.1 rfl (lv_room (Nat.le_of_ble_eq_true rfl)) dL_left_188 ⟨Nat.le_of_ble_eq_true rfl, Nat.le_of_ble_eq_true rfl⟩ (fun H locs hP hD hS => ?_)
            replace hP := hP.sub (ws' := wX cI cJ x0 x1 x2 x3 x4 x5 x6 x7 x8 x9 g rm op rc ec su pe qt rs rn cs cn lc hc lg hg ++ [(p4, .inl (cI, 40, .inl b4)), (p5, .inl (cI, 4, .inl b5))]) [2, 3, 4, 5, 6, 7, 8, 9, 10, 11, 0, 1] rfl
            replace hD := hD.sub (ws' := wX cI cJ x0 x1 x2 x3 x4 x5 x6 x7 x8 x9 g rm op rc ec su pe qt rs rn cs cn lc hc lg hg ++ [(p4, .inl (cI, 40, .inl b4)), (p5, .inl (cI, 4, .inl b5))]) [2, 3, 4, 5, 6, 7, 8, 9, 10, 11, 0, 1] (by decide) rfl
            refine lv_if_ne (tgt := 198) hx hb dL_left_191 (by decide) (fun c_47 => ?_) (fun c_47 => ?_)
            · replace h := (if_neg c_47).symm.trans h
              refine lv_iconst (v := 0) hx hb dL_left_198 (by decide) ?_
              cases h
              refine W.widen (k := 2) (n := 12) (Nat.le_of_ble_eq_true rfl) (Nat.le_of_ble_eq_true rfl) ?_
              exact W.zret hx hb hr rfl (fun t ht hW => ⟨⟨_, (), rfl, rfl, by rw [ht]; exact hP, va_K.moved hW.alike hK, hD⟩, hS.F ht⟩) hS.2.2 dL_left_199
            · replace h := (if_pos c_47).symm.trans h
              refine lv_iconst (v := 1) hx hb dL_left_194 (by decide) ?_
              refine lv_goto (tgt := 199) hx hb dL_left_195 (by decide) ?_
              cases h
              refine W.widen (k := 2) (n := 12) (Nat.le_of_ble_eq_true rfl) (Nat.le_of_ble_eq_true rfl) ?_
              exact W.zret hx hb hr rfl (fun t ht hW => ⟨⟨_, (), rfl, rfl, by rw [ht]; exact hP, va_K.moved hW.alike hK, hD⟩, hS.F ht⟩) hS.2.2 dL_left_199
      · replace h := (if_pos c_37).symm.trans h
        refine lv_iconst (v := 0) hx hb dL_left_84 (by decide) ?_
        refine lv_istore (lv' := [(6, .int 0), (0, .ref x0), (1, .int a1), (2, .int a2), (3, .int a3), (4, .ref p4), (5, .ref p5)]) hx hb dL_left_85 hl (by decide) rfl (fun ls hl => ?_)
        refine lv_iconst (v := 0) hx hb dL_left_87 (by decide) ?_
        refine lv_istore (lv' := [(7, .int 0), (6, .int 0), (0, .ref x0), (1, .int a1), (2, .int a2), (3, .int a3), (4, .ref p4), (5, .ref p5)]) hx hb dL_left_88 hl (by decide) rfl (fun ls hl => ?_)
        exact L90 fu 0 0 cs cn lc hc lg hg _ _ _ h hP hD hS (lv_sub hl [2, 5, 6, 1, 0] rfl)
    · replace h := (if_pos c_36).symm.trans h
      refine lv_aload_n hx hb dL_left_12 rfl (lv_at hl 0 rfl) ?_
      obtain ⟨r_48, cs_49, cn_50, lc_51, hc_52, lg_53, hg_54, e_55, hE_56, h⟩ := bw6_some h
      refine gl_W1 (As := [.ref x0]) (rest := []) (wc := wX cI cJ x0 x1 x2 x3 x4 x5 x6 x7 x8 x9 g rm op rc ec su pe qt rs rn cs cn lc hc lg hg) (w1 := wX cI cJ x0 x1 x2 x3 x4 x5 x6 x7 x8 x9 g rm op rc ec su pe qt rs rn cs_49 cn_50 lc_51 hc_52 lg_53 hg_54) (wr := [(p4, .inl (cI, 40, .inl b4)), (p5, .inl (cI, 4, .inl b5))]) ⟨hx, hb, hml, hown, hts⟩ (c_L_least l hst D cI cJ x0 x1 x2 x3 x4 x5 x6 x7 x8 x9 _ g rm op rc ec su pe qt rs rn cs cn lc hc lg hg fu  r_48 cs_49 cn_50 lc_51 hc_52 lg_53 hg_54 e_55 hE_56) (vx_cwSW 1 hts gL_left_L_least rfl rfl rfl (by decide +kernel) ⟨Nat.le_of_ble_eq_true rfl, Nat.le_of_ble_eq_true rfl⟩) hK hP hD hS hA hT [0, 1, 2, 3, 4, 5, 6, 7, 8, 9] [10, 11] rfl rfl (by decide) (by decide) rfl rfl rfl hl.1 rfl (lv_room (Nat.le_of_ble_eq_true rfl)) dL_left_13 ⟨Nat.le_of_ble_eq_true rfl, Nat.le_of_ble_eq_true rfl⟩ (fun H locs hP hD hS => ?_)
      replace hP := hP.sub (ws' := wX cI cJ x0 x1 x2 x3 x4 x5 x6 x7 x8 x9 g rm op rc ec su pe qt rs rn cs_49 cn_50 lc_51 hc_52 lg_53 hg_54 ++ [(p4, .inl (cI, 40, .inl b4)), (p5, .inl (cI, 4, .inl b5))]) [2, 3, 4, 5, 6, 7, 8, 9, 10, 11, 0, 1] rfl
      replace hD := hD.sub (ws' := wX cI cJ x0 x1 x2 x3 x4 x5 x6 x7 x8 x9 g rm op rc ec su pe qt rs rn cs_49 cn_50 lc_51 hc_52 lg_53 hg_54 ++ [(p4, .inl (cI, 40, .inl b4)), (p5, .inl (cI, 4, .inl b5))]) [2, 3, 4, 5, 6, 7, 8, 9, 10, 11, 0, 1] (by decide) rfl
      refine lv_istore (lv' := [(6, .int (wr1 (-4) r_48)), (0, .ref x0), (1, .int a1), (2, .int a2), (3, .int a3), (4, .ref p4), (5, .ref p5)]) hx hb dL_left_16 hl (by decide) rfl (fun ls hl => ?_)
      refine lv_iload_n hx hb dL_left_18 rfl (lv_at hl 4 rfl) ?_
      refine lv_aload_n hx hb dL_left_19 rfl (lv_at hl 1 rfl) ?_
      obtain ⟨r_57, e_58, h⟩ := bnd1_some h
      refine gl_Vi (As := []) (rest := [.int a3]) (wc := wX cI cJ x0 x1 x2 x3 x4 x5 x6 x7 x8 x9 g rm op rc ec su pe qt rs rn cs_49 cn_50 lc_51 hc_52 lg_53 hg_54) (w1 := wX cI cJ x0 x1 x2 x3 x4 x5 x6 x7 x8 x9 g rm op rc ec su pe qt rs rn cs_49 cn_50 lc_51 hc_52 lg_53 hg_54) (wr := [(p4, .inl (cI, 40, .inl b4)), (p5, .inl (cI, 4, .inl b5))]) ⟨hx, hb, hml, hown, hts⟩ (c_X0_cost l D cI cJ x0 x1 x2 x3 x4 x5 x6 x7 x8 x9 _ g rm op rc ec su pe qt rs rn cs_49 cn_50 lc_51 hc_52 lg_53 hg_54 fu  r_57 e_58) (cwV 0 hts gL_left_X0_cost rfl rfl rfl (by decide +kernel) ⟨Nat.le_of_ble_eq_true rfl, Nat.le_of_ble_eq_true rfl⟩) hK hP hD hS hA [0, 1, 2, 3, 4, 5, 6, 7, 8, 9] [10, 11] rfl rfl (by decide) (by decide) rfl rfl rfl rfl rfl hl.1 rfl (lv_room (Nat.le_of_ble_eq_true rfl)) dL_left_20 ⟨Nat.le_of_ble_eq_true rfl, Nat.le_of_ble_eq_true rfl⟩ (fun H locs hP hD hS => ?_)
      replace hP := hP.sub (ws' := wX cI cJ x0 x1 x2 x3 x4 x5 x6 x7 x8 x9 g rm op rc ec su pe qt rs rn cs_49 cn_50 lc_51 hc_52 lg_53 hg_54 ++ [(p4, .inl (cI, 40, .inl b4)), (p5, .inl (cI, 4, .inl b5))]) [2, 3, 4, 5, 6, 7, 8, 9, 10, 11, 0, 1] rfl
      replace hD := hD.sub (ws' := wX cI cJ x0 x1 x2 x3 x4 x5 x6 x7 x8 x9 g rm op rc ec su pe qt rs rn cs_49 cn_50 lc_51 hc_52 lg_53 hg_54 ++ [(p4, .inl (cI, 40, .inl b4)), (p5, .inl (cI, 4, .inl b5))]) [2, 3, 4, 5, 6, 7, 8, 9, 10, 11, 0, 1] (by decide) rfl
      refine lv_icmp_ne (tgt := 76) hx hb dL_left_23 (by decide) (fun c_59 => ?_) (fun c_59 => ?_)
      · replace h := (if_neg c_59).symm.trans h
        refine lv_iconst (v := 0) hx hb dL_left_76 (by decide) ?_
        cases h
        refine W.widen (k := 2) (n := 12) (Nat.le_of_ble_eq_true rfl) (Nat.le_of_ble_eq_true rfl) ?_
        exact W.zret hx hb hr rfl (fun t ht hW => ⟨⟨_, (), rfl, rfl, by rw [ht]; exact hP, va_K.moved hW.alike hK, hD⟩, hS.F ht⟩) hS.2.2 dL_left_77
      · replace h := (if_pos c_59).symm.trans h
        refine lv_aload_n hx hb dL_left_26 rfl (lv_at hl 1 rfl) ?_
        obtain ⟨r_60, cs_61, cn_62, lc_63, hc_64, lg_65, hg_66, e_67, h⟩ := bnd7_some h
        refine gl_L (As := [.ref x0]) (rest := []) (wc := wX cI cJ x0 x1 x2 x3 x4 x5 x6 x7 x8 x9 g rm op rc ec su pe qt rs rn cs_49 cn_50 lc_51 hc_52 lg_53 hg_54) (w1 := wX cI cJ x0 x1 x2 x3 x4 x5 x6 x7 x8 x9 g rm op rc ec su pe qt rs rn cs_61 cn_62 lc_63 hc_64 lg_65 hg_66) (wr := [(p4, .inl (cI, 40, .inl b4)), (p5, .inl (cI, 4, .inl b5))]) ⟨hx, hb, hml, hown, hts⟩ (c_L_laid l hst D cI cJ x0 x1 x2 x3 x4 x5 x6 x7 x8 x9 _ g rm op rc ec su pe qt rs rn cs_49 cn_50 lc_51 hc_52 lg_53 hg_54 fu  r_60 cs_61 cn_62 lc_63 hc_64 lg_65 hg_66 e_67) (va_cwS 1 hts gL_left_L_laid rfl rfl rfl (by decide +kernel) ⟨Nat.le_of_ble_eq_true rfl, Nat.le_of_ble_eq_true rfl⟩) hK hP hD hS hA hT [0, 1, 2, 3, 4, 5, 6, 7, 8, 9] [10, 11] rfl rfl (by decide) (by decide) rfl rfl rfl hl.1 rfl (lv_room (Nat.le_of_ble_eq_true rfl)) dL_left_27 ⟨Nat.le_of_ble_eq_true rfl, Nat.le_of_ble_eq_true rfl⟩ (fun H locs hP hD hS => ?_)
        replace hP := hP.sub (ws' := wX cI cJ x0 x1 x2 x3 x4 x5 x6 x7 x8 x9 g rm op rc ec su pe qt rs rn cs_61 cn_62 lc_63 hc_64 lg_65 hg_66 ++ [(p4, .inl (cI, 40, .inl b4)), (p5, .inl (cI, 4, .inl b5))]) [2, 3, 4, 5, 6, 7, 8, 9, 10, 11, 0, 1] rfl
        replace hD := hD.sub (ws' := wX cI cJ x0 x1 x2 x3 x4 x5 x6 x7 x8 x9 g rm op rc ec su pe qt rs rn cs_61 cn_62 lc_63 hc_64 lg_65 hg_66 ++ [(p4, .inl (cI, 40, .inl b4)), (p5, .inl (cI, 4, .inl b5))]) [2, 3, 4, 5, 6, 7, 8, 9, 10, 11, 0, 1] (by decide) rfl
        refine lv_if_eq (tgt := 76) hx hb dL_left_30 (by decide) (fun c_68 => ?_) (fun c_68 => ?_)
        · replace h := (if_pos c_68).symm.trans h
          refine lv_iconst (v := 0) hx hb dL_left_76 (by decide) ?_
          cases h
          exact W.zret hx hb hr rfl (fun t ht hW => ⟨⟨_, (), rfl, rfl, by rw [ht]; exact hP, va_K.moved hW.alike hK, hD⟩, hS.F ht⟩) hS.2.2 dL_left_77
        · replace h := (if_neg c_68).symm.trans h
          refine lv_iload hx hb dL_left_33 (lv_at hl 0 rfl) ?_
          refine lv_if_lt (tgt := 59) hx hb dL_left_35 (by decide) (fun c_69 => ?_) (fun c_69 => ?_)
          · replace h := (if_pos c_69).symm.trans h
            refine lv_iload_n hx hb dL_left_59 rfl (lv_at hl 4 rfl) ?_
            refine lv_aload hx hb dL_left_60 (lv_at hl 6 rfl) ?_
            refine lv_iconst (v := 1) hx hb dL_left_62 (by decide) ?_
            refine va_iald hx hb hK hP 11 0 rfl rfl (show ¬ ((1 : Int32) < 0 ∨ 4 ≤ Int32.toNatClampNeg 1) by decide) dL_left_63 ?_
            refine lv_aload_n hx hb dL_left_64 rfl (lv_at hl 1 rfl) ?_
            obtain ⟨r_70, e_71, h⟩ := bnd1_some h
            refine gl_Vi (As := []) (rest := [.int (b5 (Int32.toNatClampNeg 1)), .int a3]) (wc := wX cI cJ x0 x1 x2 x3 x4 x5 x6 x7 x8 x9 g rm op rc ec su pe qt rs rn cs_61 cn_62 lc_63 hc_64 lg_65 hg_66) (w1 := wX cI cJ x0 x1 x2 x3 x4 x5 x6 x7 x8 x9 g rm op rc ec su pe qt rs rn cs_61 cn_62 lc_63 hc_64 lg_65 hg_66) (wr := [(p4, .inl (cI, 40, .inl b4)), (p5, .inl (cI, 4, .inl b5))]) ⟨hx, hb, hml, hown, hts⟩ (c_X0_grants l D cI cJ x0 x1 x2 x3 x4 x5 x6 x7 x8 x9 _ g rm op rc ec su pe qt rs rn cs_61 cn_62 lc_63 hc_64 lg_65 hg_66 fu  r_70 e_71) (cwV 0 hts gL_left_X0_grants rfl rfl rfl (by decide +kernel) ⟨Nat.le_of_ble_eq_true rfl, Nat.le_of_ble_eq_true rfl⟩) hK hP hD hS hA [0, 1, 2, 3, 4, 5, 6, 7, 8, 9] [10, 11] rfl rfl (by decide) (by decide) rfl rfl rfl rfl rfl hl.1 rfl (lv_room (Nat.le_of_ble_eq_true rfl)) dL_left_65 ⟨Nat.le_of_ble_eq_true rfl, Nat.le_of_ble_eq_true rfl⟩ (fun H locs hP hD hS => ?_)
            replace hP := hP.sub (ws' := wX cI cJ x0 x1 x2 x3 x4 x5 x6 x7 x8 x9 g rm op rc ec su pe qt rs rn cs_61 cn_62 lc_63 hc_64 lg_65 hg_66 ++ [(p4, .inl (cI, 40, .inl b4)), (p5, .inl (cI, 4, .inl b5))]) [2, 3, 4, 5, 6, 7, 8, 9, 10, 11, 0, 1] rfl
            replace hD := hD.sub (ws' := wX cI cJ x0 x1 x2 x3 x4 x5 x6 x7 x8 x9 g rm op rc ec su pe qt rs rn cs_61 cn_62 lc_63 hc_64 lg_65 hg_66 ++ [(p4, .inl (cI, 40, .inl b4)), (p5, .inl (cI, 4, .inl b5))]) [2, 3, 4, 5, 6, 7, 8, 9, 10, 11, 0, 1] (by decide) rfl
            refine lv_imul hx hb dL_left_68 ?_
            refine lv_icmp_gt (tgt := 76) hx hb dL_left_69 (by decide) (fun c_72 => ?_) (fun c_72 => ?_)
            · replace h := (if_pos c_72).symm.trans h
              refine lv_iconst (v := 0) hx hb dL_left_76 (by decide) ?_
              cases h
              exact W.zret hx hb hr rfl (fun t ht hW => ⟨⟨_, (), rfl, rfl, by rw [ht]; exact hP, va_K.moved hW.alike hK, hD⟩, hS.F ht⟩) hS.2.2 dL_left_77
            · replace h := (if_neg c_72).symm.trans h
              refine lv_iconst (v := 1) hx hb dL_left_72 (by decide) ?_
              refine lv_goto (tgt := 77) hx hb dL_left_73 (by decide) ?_
              cases h
              exact W.zret hx hb hr rfl (fun t ht hW => ⟨⟨_, (), rfl, rfl, by rw [ht]; exact hP, va_K.moved hW.alike hK, hD⟩, hS.F ht⟩) hS.2.2 dL_left_77
          · replace h := (if_neg c_69).symm.trans h
            refine lv_iload_n hx hb dL_left_38 rfl (lv_at hl 2 rfl) ?_
            refine lv_bipush (v := 11) hx hb dL_left_39 (by decide) ?_
            refine lv_icmp_ne (tgt := 53) hx hb dL_left_41 (by decide) (fun c_73 => ?_) (fun c_73 => ?_)
            · exact absurd c_36 c_73
            · refine lv_iload_n hx hb dL_left_44 rfl (lv_at hl 4 rfl) ?_
              refine lv_iload hx hb dL_left_45 (lv_at hl 0 rfl) ?_
              refine lv_icmp_ne (tgt := 76) hx hb dL_left_47 (by decide) (fun c_74 => ?_) (fun c_74 => ?_)
              · replace h := (if_neg c_74).symm.trans h
                refine lv_iconst (v := 0) hx hb dL_left_76 (by decide) ?_
                cases h
                exact W.zret hx hb hr rfl (fun t ht hW => ⟨⟨_, (), rfl, rfl, by rw [ht]; exact hP, va_K.moved hW.alike hK, hD⟩, hS.F ht⟩) hS.2.2 dL_left_77
              · replace h := (if_pos c_74).symm.trans h
                refine lv_goto (tgt := 59) hx hb dL_left_50 (by decide) ?_
                refine lv_iload_n hx hb dL_left_59 rfl (lv_at hl 4 rfl) ?_
                refine lv_aload hx hb dL_left_60 (lv_at hl 6 rfl) ?_
                refine lv_iconst (v := 1) hx hb dL_left_62 (by decide) ?_
                refine va_iald hx hb hK hP 11 0 rfl rfl (show ¬ ((1 : Int32) < 0 ∨ 4 ≤ Int32.toNatClampNeg 1) by decide) dL_left_63 ?_
                refine lv_aload_n hx hb dL_left_64 rfl (lv_at hl 1 rfl) ?_
                obtain ⟨r_75, e_76, h⟩ := bnd1_some h
                refine gl_Vi (As := []) (rest := [.int (b5 (Int32.toNatClampNeg 1)), .int a3]) (wc := wX cI cJ x0 x1 x2 x3 x4 x5 x6 x7 x8 x9 g rm op rc ec su pe qt rs rn cs_61 cn_62 lc_63 hc_64 lg_65 hg_66) (w1 := wX cI cJ x0 x1 x2 x3 x4 x5 x6 x7 x8 x9 g rm op rc ec su pe qt rs rn cs_61 cn_62 lc_63 hc_64 lg_65 hg_66) (wr := [(p4, .inl (cI, 40, .inl b4)), (p5, .inl (cI, 4, .inl b5))]) ⟨hx, hb, hml, hown, hts⟩ (c_X0_grants l D cI cJ x0 x1 x2 x3 x4 x5 x6 x7 x8 x9 _ g rm op rc ec su pe qt rs rn cs_61 cn_62 lc_63 hc_64 lg_65 hg_66 fu  r_75 e_76) (cwV 0 hts gL_left_X0_grants rfl rfl rfl (by decide +kernel) ⟨Nat.le_of_ble_eq_true rfl, Nat.le_of_ble_eq_true rfl⟩) hK hP hD hS hA [0, 1, 2, 3, 4, 5, 6, 7, 8, 9] [10, 11] rfl rfl (by decide) (by decide) rfl rfl rfl rfl rfl hl.1 rfl (lv_room (Nat.le_of_ble_eq_true rfl)) dL_left_65 ⟨Nat.le_of_ble_eq_true rfl, Nat.le_of_ble_eq_true rfl⟩ (fun H locs hP hD hS => ?_)
                replace hP := hP.sub (ws' := wX cI cJ x0 x1 x2 x3 x4 x5 x6 x7 x8 x9 g rm op rc ec su pe qt rs rn cs_61 cn_62 lc_63 hc_64 lg_65 hg_66 ++ [(p4, .inl (cI, 40, .inl b4)), (p5, .inl (cI, 4, .inl b5))]) [2, 3, 4, 5, 6, 7, 8, 9, 10, 11, 0, 1] rfl
                replace hD := hD.sub (ws' := wX cI cJ x0 x1 x2 x3 x4 x5 x6 x7 x8 x9 g rm op rc ec su pe qt rs rn cs_61 cn_62 lc_63 hc_64 lg_65 hg_66 ++ [(p4, .inl (cI, 40, .inl b4)), (p5, .inl (cI, 4, .inl b5))]) [2, 3, 4, 5, 6, 7, 8, 9, 10, 11, 0, 1] (by decide) rfl
                refine lv_imul hx hb dL_left_68 ?_
                refine lv_icmp_gt (tgt := 76) hx hb dL_left_69 (by decide) (fun c_77 => ?_) (fun c_77 => ?_)
                · replace h := (if_pos c_77).symm.trans h
                  refine lv_iconst (v := 0) hx hb dL_left_76 (by decide) ?_
                  cases h
                  exact W.zret hx hb hr rfl (fun t ht hW => ⟨⟨_, (), rfl, rfl, by rw [ht]; exact hP, va_K.moved hW.alike hK, hD⟩, hS.F ht⟩) hS.2.2 dL_left_77
                · replace h := (if_neg c_77).symm.trans h
                  refine lv_iconst (v := 1) hx hb dL_left_72 (by decide) ?_
                  refine lv_goto (tgt := 77) hx hb dL_left_73 (by decide) ?_
                  cases h
                  exact W.zret hx hb hr rfl (fun t ht hW => ⟨⟨_, (), rfl, rfl, by rw [ht]; exact hP, va_K.moved hW.alike hK, hD⟩, hS.F ht⟩) hS.2.2 dL_left_77
