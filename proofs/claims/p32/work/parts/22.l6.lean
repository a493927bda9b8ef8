-- act 0
def m_L_act_k0 (fu : Nat) (g : Nat → Int32) (rm : Nat → Int32) (qt : Int32) (a2 : Int32) : Option ((Int32) × (Nat → Int32) × (Nat → Int32)) := (if (m_L_low (a2 >>> (8 &&& 31)) 10) = 0 then (bw2 "java/lang/IndexOutOfBoundsException" "java/lang/IllegalArgumentException" (m_X0_setGrants fu g rm qt (m_L_low a2 9) 4096) (fun r_13 g_14 rm_15 => some ((wr2 "java/lang/IndexOutOfBoundsException" (-2) (-3) r_13), g_14, rm_15))) else (if (m_L_low (a2 >>> (9 &&& 31)) 3) = 0 then (bw2 "java/lang/IndexOutOfBoundsException" "java/lang/IllegalArgumentException" (m_X0_setGrants fu g rm qt (m_L_low a2 9) ((m_L_low (a2 >>> (12 &&& 31)) 4096) &&& 4095)) (fun r_8 g_9 rm_10 => some ((wr2 "java/lang/IndexOutOfBoundsException" (-2) (-3) r_8), g_9, rm_10))) else (bw2 "java/lang/IndexOutOfBoundsException" "java/lang/IllegalArgumentException" (m_X0_setGrants fu g rm qt (m_L_low a2 9) ((m_L_low (a2 >>> (12 &&& 31)) 4096) &&& (m_L_low (a2 >>> (3 &&& 31)) 4096))) (fun r_3 g_4 rm_5 => some ((wr2 "java/lang/IndexOutOfBoundsException" (-2) (-3) r_3), g_4, rm_5)))))
set_option maxHeartbeats 8000000 in
set_option maxRecDepth 100000 in
theorem c_L_act_k0 (l : Launch) (hst : l.stackTraces = false) (D : va_G) (cI cJ : ClassId) (x0 x1 x2 x3 x4 x5 x6 x7 x8 x9 : Nat) (sz : Nat) (g : Nat → Int32) (rm : Nat → Int32) (op : Nat → Int32) (rc : Int32) (ec : Int32) (su : Int32) (pe : Int32) (qt : Int32) (rs : Nat → Int32) (rn : Int32) (cs : Nat → Int32) (cn : Int32) (lc : Nat → Int64) (hc : Nat → Int64) (lg : Nat → Int64) (hg : Nat → Int64) (fu : Nat) (a2 : Int32) (r0 : Int32) (g' : Nat → Int32) (rm' : Nat → Int32) (h : m_L_act_k0 fu g rm qt a2 = some (r0, g', rm')) : Met l yL_act wsL_act ({ frames := 8, cells := 1, slots := 6, locals := 142 }) (va_Pc [.ref x0, .int 0, .int a2] (bx_PreL D [(cI, .int), (cJ, .long)] (wX cI cJ x0 x1 x2 x3 x4 x5 x6 x7 x8 x9 g rm op rc ec su pe qt rs rn cs cn lc hc lg hg) sz)) (va_Qi (fun (r : Int32) (_ : Unit) => r = r0) (fun (_ : Unit) t => bx_Post D [(cI, .int), (cJ, .long)] (wX cI cJ x0 x1 x2 x3 x4 x5 x6 x7 x8 x9 g' rm' op rc ec su pe qt rs rn cs cn lc hc lg hg) (va_A (wX cI cJ x0 x1 x2 x3 x4 x5 x6 x7 x8 x9 g rm op rc ec su pe qt rs rn cs cn lc hc lg hg) sz) t) (va_A (wX cI cJ x0 x1 x2 x3 x4 x5 x6 x7 x8 x9 g rm op rc ec su pe qt rs rn cs cn lc hc lg hg) sz)) 1 6 (va_A (wX cI cJ x0 x1 x2 x3 x4 x5 x6 x7 x8 x9 g rm op rc ec su pe qt rs rn cs cn lc hc lg hg) sz) := by
  refine Met.ofW (cc := cL_act) (maxL := 5) (ret := (some .int)) (by decide) rfl ?_
  intro p e s m args below meth c s₁ B hml hv
  obtain ⟨rfl, hsz, hP, hK, hD0, hT⟩ := hv
  have hx := B.exec
  have hb := B.bytes
  have hr := B.returns
  have hts := atoms_spec (ws := wsL_act) B.pre
  have hown : s.vm.findClass RL = some m.cls := findClass_of_methodNamed B.named
  have hlocks := B.notSynchronized
  subst hsz
  have hD := hD0.self (sz := s.heap.size)
  generalize hAe : va_A (wX cI cJ x0 x1 x2 x3 x4 x5 x6 x7 x8 x9 g rm op rc ec su pe qt rs rn cs cn lc hc lg hg) s.heap.size = A at hD hT ⊢
  have hA : ∀ q : Nat, s.heap.size ≤ q → A q := fun q h9 => by rw [← hAe]; exact Or.inr h9
  have hS : va_S A s.heap s.heap [] := va_S.rf
  have hl := lv_entry ([.ref x0, .int 0, .int a2]) (n := 5) (Nat.le_of_ble_eq_true rfl)
  rw [lg_entry_eq]
  generalize (lg_sl ([.ref x0, .int 0, .int a2]) ++ List.replicate (5 - (lg_sl ([.ref x0, .int 0, .int a2])).length) Slot.unset).toArray = ls at hl ⊢
  have hl : lv_has ls 5 [(0, .ref x0), (1, .int 0), (2, .int a2)] := hl
  rw [m_L_act_k0] at h
  refine lv_iload_n hx hb dL_act_0 rfl (lv_at hl 2 rfl) ?_
  refine lv_bipush (v := 9) hx hb dL_act_1 (by decide) ?_
  refine gl_Si0 (As := [.int a2, .int 9]) (rest := []) ⟨hx, hb, hml, hown, hts⟩ (c_L_low l D _ a2 9 (by decide)) (va_cwS 2 hts gL_act_L_low rfl rfl rfl (by decide +kernel) ⟨Nat.le_of_ble_eq_true rfl, Nat.le_of_ble_eq_true rfl⟩) hK hP hD hS hA rfl rfl hl.1 rfl (lv_room (Nat.le_of_ble_eq_true rfl)) dL_act_3 ⟨Nat.le_of_ble_eq_true rfl, Nat.le_of_ble_eq_true rfl⟩ (fun H locs hP hD hS => ?_)
  refine lv_istore_n (lv' := [(3, .int (m_L_low a2 9)), (0, .ref x0), (1, .int 0), (2, .int a2)]) hx hb dL_act_6 rfl hl (by decide) rfl (fun ls hl => ?_)
  refine lv_iload_n hx hb dL_act_7 rfl (lv_at hl 3 rfl) ?_
  refine lv_iconst (v := 4) hx hb dL_act_8 (by decide) ?_
  refine lv_ishr hx hb dL_act_9 ?_
  refine lv_bipush (v := 13) hx hb dL_act_10 (by decide) ?_
  refine gl_Si0 (As := [.int (a2 >>> (4 &&& 31)), .int 13]) (rest := []) ⟨hx, hb, hml, hown, hts⟩ (c_L_low l D _ (a2 >>> (4 &&& 31)) 13 (by decide)) (va_cwS 2 hts gL_act_L_low rfl rfl rfl (by decide +kernel) ⟨Nat.le_of_ble_eq_true rfl, Nat.le_of_ble_eq_true rfl⟩) hK hP hD hS hA rfl rfl hl.1 rfl (lv_room (Nat.le_of_ble_eq_true rfl)) dL_act_12 ⟨Nat.le_of_ble_eq_true rfl, Nat.le_of_ble_eq_true rfl⟩ (fun H locs hP hD hS => ?_)
  refine lv_istore (lv' := [(4, .int (m_L_low (a2 >>> (4 &&& 31)) 13)), (3, .int (m_L_low a2 9)), (0, .ref x0), (1, .int 0), (2, .int a2)]) hx hb dL_act_15 hl (by decide) rfl (fun ls hl => ?_)
  refine lv_iload_n hx hb dL_act_17 rfl (lv_at hl 3 rfl) ?_
  refine lv_tableIn (off := 62) (tgt := 80) hx hb dL_act_18 (by decide +kernel) (by decide +kernel) (by decide +kernel) (by decide) ?_
  refine lv_aload_n hx hb dL_act_80 rfl (lv_at hl 2 rfl) ?_
  refine lv_iload_n hx hb dL_act_81 rfl (lv_at hl 1 rfl) ?_
  refine lv_iload_n hx hb dL_act_82 rfl (lv_at hl 4 rfl) ?_
  refine lv_bipush (v := 8) hx hb dL_act_83 (by decide) ?_
  refine lv_ishr hx hb dL_act_85 ?_
  refine lv_bipush (v := 10) hx hb dL_act_86 (by decide) ?_
  refine gl_Si0 (As := [.int (a2 >>> (8 &&& 31)), .int 10]) (rest := [.int (m_L_low a2 9), .ref x0]) ⟨hx, hb, hml, hown, hts⟩ (c_L_low l D _ (a2 >>> (8 &&& 31)) 10 (by decide)) (va_cwS 2 hts gL_act_L_low rfl rfl rfl (by decide +kernel) ⟨Nat.le_of_ble_eq_true rfl, Nat.le_of_ble_eq_true rfl⟩) hK hP hD hS hA rfl rfl hl.1 rfl (lv_room (Nat.le_of_ble_eq_true rfl)) dL_act_88 ⟨Nat.le_of_ble_eq_true rfl, Nat.le_of_ble_eq_true rfl⟩ (fun H locs hP hD hS => ?_)
  refine lv_if_ne (tgt := 100) hx hb dL_act_91 (by decide) (fun c_1 => ?_) (fun c_1 => ?_)
  · replace h := (if_neg c_1).symm.trans h
    refine lv_iload_n hx hb dL_act_100 rfl (lv_at hl 4 rfl) ?_
    refine lv_bipush (v := 12) hx hb dL_act_101 (by decide) ?_
    refine lv_ishr hx hb dL_act_103 ?_
    refine lv_sipush (v := 4096) hx hb dL_act_104 (by decide) ?_
    refine gl_Si0 (As := [.int (a2 >>> (12 &&& 31)), .int 4096]) (rest := [.int (m_L_low a2 9), .ref x0]) ⟨hx, hb, hml, hown, hts⟩ (c_L_low l D _ (a2 >>> (12 &&& 31)) 4096 (by decide)) (va_cwS 2 hts gL_act_L_low rfl rfl rfl (by decide +kernel) ⟨Nat.le_of_ble_eq_true rfl, Nat.le_of_ble_eq_true rfl⟩) hK hP hD hS hA rfl rfl hl.1 rfl (lv_room (Nat.le_of_ble_eq_true rfl)) dL_act_107 ⟨Nat.le_of_ble_eq_true rfl, Nat.le_of_ble_eq_true rfl⟩ (fun H locs hP hD hS => ?_)
    refine lv_iload_n hx hb dL_act_110 rfl (lv_at hl 4 rfl) ?_
    refine lv_bipush (v := 9) hx hb dL_act_111 (by decide) ?_
    refine lv_ishr hx hb dL_act_113 ?_
    refine lv_iconst (v := 3) hx hb dL_act_114 (by decide) ?_
    refine gl_Si0 (As := [.int (a2 >>> (9 &&& 31)), .int 3]) (rest := [.int (m_L_low (a2 >>> (12 &&& 31)) 4096), .int (m_L_low a2 9), .ref x0]) ⟨hx, hb, hml, hown, hts⟩ (c_L_low l D _ (a2 >>> (9 &&& 31)) 3 (by decide)) (va_cwS 2 hts gL_act_L_low rfl rfl rfl (by decide +kernel) ⟨Nat.le_of_ble_eq_true rfl, Nat.le_of_ble_eq_true rfl⟩) hK hP hD hS hA rfl rfl hl.1 rfl (lv_room (Nat.le_of_ble_eq_true rfl)) dL_act_115 ⟨Nat.le_of_ble_eq_true rfl, Nat.le_of_ble_eq_true rfl⟩ (fun H locs hP hD hS => ?_)
    refine lv_if_ne (tgt := 127) hx hb dL_act_118 (by decide) (fun c_2 => ?_) (fun c_2 => ?_)
    · replace h := (if_neg c_2).symm.trans h
      refine lv_iload_n hx hb dL_act_127 rfl (lv_at hl 4 rfl) ?_
      refine lv_iconst (v := 3) hx hb dL_act_128 (by decide) ?_
      refine lv_ishr hx hb dL_act_129 ?_
      refine lv_sipush (v := 4096) hx hb dL_act_130 (by decide) ?_
      refine gl_Si0 (As := [.int (a2 >>> (3 &&& 31)), .int 4096]) (rest := [.int (m_L_low (a2 >>> (12 &&& 31)) 4096), .int (m_L_low a2 9), .ref x0]) ⟨hx, hb, hml, hown, hts⟩ (c_L_low l D _ (a2 >>> (3 &&& 31)) 4096 (by decide)) (va_cwS 2 hts gL_act_L_low rfl rfl rfl (by decide +kernel) ⟨Nat.le_of_ble_eq_true rfl, Nat.le_of_ble_eq_true rfl⟩) hK hP hD hS hA rfl rfl hl.1 rfl (lv_room (Nat.le_of_ble_eq_true rfl)) dL_act_133 ⟨Nat.le_of_ble_eq_true rfl, Nat.le_of_ble_eq_true rfl⟩ (fun H locs hP hD hS => ?_)
      refine lv_iand hx hb dL_act_136 ?_
      obtain ⟨r_3, g_4, rm_5, e_6, hE_7, h⟩ := bw2_some h
      refine gl_W1 (As := [.ref x0, .int (m_L_low a2 9), .int ((m_L_low (a2 >>> (12 &&& 31)) 4096) &&& (m_L_low (a2 >>> (3 &&& 31)) 4096))]) (rest := []) (wc := wX cI cJ x0 x1 x2 x3 x4 x5 x6 x7 x8 x9 g rm op rc ec su pe qt rs rn cs cn lc hc lg hg) (w1 := wX cI cJ x0 x1 x2 x3 x4 x5 x6 x7 x8 x9 g_4 rm_5 op rc ec su pe qt rs rn cs cn lc hc lg hg) (wr := []) ⟨hx, hb, hml, hown, hts⟩ (c_L_all l hst D cI cJ x0 x1 x2 x3 x4 x5 x6 x7 x8 x9 _ g rm op rc ec su pe qt rs rn cs cn lc hc lg hg fu (m_L_low a2 9) ((m_L_low (a2 >>> (12 &&& 31)) 4096) &&& (m_L_low (a2 >>> (3 &&& 31)) 4096)) r_3 g_4 rm_5 e_6 hE_7) (vx_cwSW 3 hts gL_act_L_all rfl rfl rfl (by decide +kernel) ⟨Nat.le_of_ble_eq_true rfl, Nat.le_of_ble_eq_true rfl⟩) hK hP hD hS hA hT [0, 1, 2, 3, 4, 5, 6, 7, 8, 9] [] rfl rfl (by decide) (by decide) rfl rfl rfl hl.1 rfl (lv_room (Nat.le_of_ble_eq_true rfl)) dL_act_137 ⟨Nat.le_of_ble_eq_true rfl, Nat.le_of_ble_eq_true rfl⟩ (fun H locs hP hD hS => ?_)
      have hP : va_P D vwCl (wX cI cJ x0 x1 x2 x3 x4 x5 x6 x7 x8 x9 g_4 rm_5 op rc ec su pe qt rs rn cs cn lc hc lg hg) H := hP
      have hD : va_D A (wX cI cJ x0 x1 x2 x3 x4 x5 x6 x7 x8 x9 g_4 rm_5 op rc ec su pe qt rs rn cs cn lc hc lg hg) := hD
      cases h
      exact W.iret hx hb hr (fun t ht hW => ⟨⟨_, (), rfl, rfl, by rw [ht]; exact hP, va_K.moved hW.alike hK, hD⟩, hS.F ht⟩) hS.2.2 dL_act_140
    · replace h := (if_pos c_2).symm.trans h
      refine lv_sipush (v := 4095) hx hb dL_act_121 (by decide) ?_
      refine lv_goto (tgt := 136) hx hb dL_act_124 (by decide) ?_
      refine lv_iand hx hb dL_act_136 ?_
      obtain ⟨r_8, g_9, rm_10, e_11, hE_12, h⟩ := bw2_some h
      refine gl_W1 (As := [.ref x0, .int (m_L_low a2 9), .int ((m_L_low (a2 >>> (12 &&& 31)) 4096) &&& 4095)]) (rest := []) (wc := wX cI cJ x0 x1 x2 x3 x4 x5 x6 x7 x8 x9 g rm op rc ec su pe qt rs rn cs cn lc hc lg hg) (w1 := wX cI cJ x0 x1 x2 x3 x4 x5 x6 x7 x8 x9 g_9 rm_10 op rc ec su pe qt rs rn cs cn lc hc lg hg) (wr := []) ⟨hx, hb, hml, hown, hts⟩ (c_L_all l hst D cI cJ x0 x1 x2 x3 x4 x5 x6 x7 x8 x9 _ g rm op rc ec su pe qt rs rn cs cn lc hc lg hg fu (m_L_low a2 9) ((m_L_low (a2 >>> (12 &&& 31)) 4096) &&& 4095) r_8 g_9 rm_10 e_11 hE_12) (vx_cwSW 3 hts gL_act_L_all rfl rfl rfl (by decide +kernel) ⟨Nat.le_of_ble_eq_true rfl, Nat.le_of_ble_eq_true rfl⟩) hK hP hD hS hA hT [0, 1, 2, 3, 4, 5, 6, 7, 8, 9] [] rfl rfl (by decide) (by decide) rfl rfl rfl hl.1 rfl (lv_room (Nat.le_of_ble_eq_true rfl)) dL_act_137 ⟨Nat.le_of_ble_eq_true rfl, Nat.le_of_ble_eq_true rfl⟩ (fun H locs hP hD hS => ?_)
      have hP : va_P D vwCl (wX cI cJ x0 x1 x2 x3 x4 x5 x6 x7 x8 x9 g_9 rm_10 op rc ec su pe qt rs rn cs cn lc hc lg hg) H := hP
      have hD : va_D A (wX cI cJ x0 x1 x2 x3 x4 x5 x6 x7 x8 x9 g_9 rm_10 op rc ec su pe qt rs rn cs cn lc hc lg hg) := hD
      cases h
      exact W.iret hx hb hr (fun t ht hW => ⟨⟨_, (), rfl, rfl, by rw [ht]; exact hP, va_K.moved hW.alike hK, hD⟩, hS.F ht⟩) hS.2.2 dL_act_140
  · replace h := (if_pos c_1).symm.trans h
    refine lv_sipush (v := 4096) hx hb dL_act_94 (by decide) ?_
    refine lv_goto (tgt := 137) hx hb dL_act_97 (by decide) ?_
    obtain ⟨r_13, g_14, rm_15, e_16, hE_17, h⟩ := bw2_some h
    refine gl_W1 (As := [.ref x0, .int (m_L_low a2 9), .int 4096]) (rest := []) (wc := wX cI cJ x0 x1 x2 x3 x4 x5 x6 x7 x8 x9 g rm op rc ec su pe qt rs rn cs cn lc hc lg hg) (w1 := wX cI cJ x0 x1 x2 x3 x4 x5 x6 x7 x8 x9 g_14 rm_15 op rc ec su pe qt rs rn cs cn lc hc lg hg) (wr := []) ⟨hx, hb, hml, hown, hts⟩ (c_L_all l hst D cI cJ x0 x1 x2 x3 x4 x5 x6 x7 x8 x9 _ g rm op rc ec su pe qt rs rn cs cn lc hc lg hg fu (m_L_low a2 9) 4096 r_13 g_14 rm_15 e_16 hE_17) (vx_cwSW 3 hts gL_act_L_all rfl rfl rfl (by decide +kernel) ⟨Nat.le_of_ble_eq_true rfl, Nat.le_of_ble_eq_true rfl⟩) hK hP hD hS hA hT [0, 1, 2, 3, 4, 5, 6, 7, 8, 9] [] rfl rfl (by decide) (by decide) rfl rfl rfl hl.1 rfl (lv_room (Nat.le_of_ble_eq_true rfl)) dL_act_137 ⟨Nat.le_of_ble_eq_true rfl, Nat.le_of_ble_eq_true rfl⟩ (fun H locs hP hD hS => ?_)
    have hP : va_P D vwCl (wX cI cJ x0 x1 x2 x3 x4 x5 x6 x7 x8 x9 g_14 rm_15 op rc ec su pe qt rs rn cs cn lc hc lg hg) H := hP
    have hD : va_D A (wX cI cJ x0 x1 x2 x3 x4 x5 x6 x7 x8 x9 g_14 rm_15 op rc ec su pe qt rs rn cs cn lc hc lg hg) := hD
    cases h
    exact W.iret hx hb hr (fun t ht hW => ⟨⟨_, (), rfl, rfl, by rw [ht]; exact hP, va_K.moved hW.alike hK, hD⟩, hS.F ht⟩) hS.2.2 dL_act_140
-- act 1
def m_L_act_k1 (fu : Nat) (g : Nat → Int32) (rm : Nat → Int32) (qt : Int32) (a2 : Int32) : Option ((Int32) × (Nat → Int32) × (Nat → Int32)) := (if (m_L_low (a2 >>> (8 &&& 31)) 10) = 0 then (bw2 "java/lang/IndexOutOfBoundsException" "java/lang/IllegalArgumentException" (m_X0_setGrants fu g rm qt (m_L_low a2 9) 4096) (fun r_13 g_14 rm_15 => some ((wr2 "java/lang/IndexOutOfBoundsException" (-2) (-3) r_13), g_14, rm_15))) else (if (m_L_low (a2 >>> (9 &&& 31)) 3) = 0 then (bw2 "java/lang/IndexOutOfBoundsException" "java/lang/IllegalArgumentException" (m_X0_setGrants fu g rm qt (m_L_low a2 9) ((m_L_low (a2 >>> (12 &&& 31)) 4096) &&& 4095)) (fun r_8 g_9 rm_10 => some ((wr2 "java/lang/IndexOutOfBoundsException" (-2) (-3) r_8), g_9, rm_10))) else (bw2 "java/lang/IndexOutOfBoundsException" "java/lang/IllegalArgumentException" (m_X0_setGrants fu g rm qt (m_L_low a2 9) ((m_L_low (a2 >>> (12 &&& 31)) 4096) &&& (m_L_low (a2 >>> (3 &&& 31)) 4096))) (fun r_3 g_4 rm_5 => some ((wr2 "java/lang/IndexOutOfBoundsException" (-2) (-3) r_3), g_4, rm_5)))))
set_option maxHeartbeats 8000000 in
set_option maxRecDepth 100000 in
theorem c_L_act_k1 (l : Launch) (hst : l.stackTraces = false) (D : va_G) (cI cJ : ClassId) (x0 x1 x2 x3 x4 x5 x6 x7 x8 x9 : Nat) (sz : Nat) (g : Nat → Int32) (rm : Nat → Int32) (op : Nat → Int32) (rc : Int32) (ec : Int32) (su : Int32) (pe : Int32) (qt : Int32) (rs : Nat → Int32) (rn : Int32) (cs : Nat → Int32) (cn : Int32) (lc : Nat → Int64) (hc : Nat → Int64) (lg : Nat → Int64) (hg : Nat → Int64) (fu : Nat) (a2 : Int32) (r0 : Int32) (g' : Nat → Int32) (rm' : Nat → Int32) (h : m_L_act_k1 fu g rm qt a2 = some (r0, g', rm')) : Met l yL_act wsL_act ({ frames := 8, cells := 1, slots := 6, locals := 142 }) (va_Pc [.ref x0, .int 1, .int a2] (bx_PreL D [(cI, .int), (cJ, .long)] (wX cI cJ x0 x1 x2 x3 x4 x5 x6 x7 x8 x9 g rm op rc ec su pe qt rs rn cs cn lc hc lg hg) sz)) (va_Qi (fun (r : Int32) (_ : Unit) => r = r0) (fun (_ : Unit) t => bx_Post D [(cI, .int), (cJ, .long)] (wX cI cJ x0 x1 x2 x3 x4 x5 x6 x7 x8 x9 g' rm' op rc ec su pe qt rs rn cs cn lc hc lg hg) (va_A (wX cI cJ x0 x1 x2 x3 x4 x5 x6 x7 x8 x9 g rm op rc ec su pe qt rs rn cs cn lc hc lg hg) sz) t) (va_A (wX cI cJ x0 x1 x2 x3 x4 x5 x6 x7 x8 x9 g rm op rc ec su pe qt rs rn cs cn lc hc lg hg) sz)) 1 6 (va_A (wX cI cJ x0 x1 x2 x3 x4 x5 x6 x7 x8 x9 g rm op rc ec su pe qt rs rn cs cn lc hc lg hg) sz) := by
  refine Met.ofW (cc := cL_act) (maxL := 5) (ret := (some .int)) (by decide) rfl ?_
  intro p e s m args below meth c s₁ B hml hv
  obtain ⟨rfl, hsz, hP, hK, hD0, hT⟩ := hv
  have hx := B.exec
  have hb := B.bytes
  have hr := B.returns
  have hts := atoms_spec (ws := wsL_act) B.pre
  have hown : s.vm.findClass RL = some m.cls := findClass_of_methodNamed B.named
  have hlocks := B.notSynchronized
  subst hsz
  have hD := hD0.self (sz := s.heap.size)
  generalize hAe : va_A (wX cI cJ x0 x1 x2 x3 x4 x5 x6 x7 x8 x9 g rm op rc ec su pe qt rs rn cs cn lc hc lg hg) s.heap.size = A at hD hT ⊢
  have hA : ∀ q : Nat, s.heap.size ≤ q → A q := fun q h9 => by rw [← hAe]; exact Or.inr h9
  have hS : va_S A s.heap s.heap [] := va_S.rf
  have hl := lv_entry ([.ref x0, .int 1, .int a2]) (n := 5) (Nat.le_of_ble_eq_true rfl)
  rw [lg_entry_eq]
  generalize (lg_sl ([.ref x0, .int 1, .int a2]) ++ List.replicate (5 - (lg_sl ([.ref x0, .int 1, .int a2])).length) Slot.unset).toArray = ls at hl ⊢
  have hl : lv_has ls 5 [(0, .ref x0), (1, .int 1), (2, .int a2)] := hl
  rw [m_L_act_k1] at h
  refine lv_iload_n hx hb dL_act_0 rfl (lv_at hl 2 rfl) ?_
  refine lv_bipush (v := 9) hx hb dL_act_1 (by decide) ?_
  refine gl_Si0 (As := [.int a2, .int 9]) (rest := []) ⟨hx, hb, hml, hown, hts⟩ (c_L_low l D _ a2 9 (by decide)) (va_cwS 2 hts gL_act_L_low rfl rfl rfl (by decide +kernel) ⟨Nat.le_of_ble_eq_true rfl, Nat.le_of_ble_eq_true rfl⟩) hK hP hD hS hA rfl rfl hl.1 rfl (lv_room (Nat.le_of_ble_eq_true rfl)) dL_act_3 ⟨Nat.le_of_ble_eq_true rfl, Nat.le_of_ble_eq_true rfl⟩ (fun H locs hP hD hS => ?_)
  refine lv_istore_n (lv' := [(3, .int (m_L_low a2 9)), (0, .ref x0), (1, .int 1), (2, .int a2)]) hx hb dL_act_6 rfl hl (by decide) rfl (fun ls hl => ?_)
  refine lv_iload_n hx hb dL_act_7 rfl (lv_at hl 3 rfl) ?_
  refine lv_iconst (v := 4) hx hb dL_act_8 (by decide) ?_
  refine lv_ishr hx hb dL_act_9 ?_
  refine lv_bipush (v := 13) hx hb dL_act_10 (by decide) ?_
  refine gl_Si0 (As := [.int (a2 >>> (4 &&& 31)), .int 13]) (rest := []) ⟨hx, hb, hml, hown, hts⟩ (c_L_low l D _ (a2 >>> (4 &&& 31)) 13 (by decide)) (va_cwS 2 hts gL_act_L_low rfl rfl rfl (by decide +kernel) ⟨Nat.le_of_ble_eq_true rfl, Nat.le_of_ble_eq_true rfl⟩) hK hP hD hS hA rfl rfl hl.1 rfl (lv_room (Nat.le_of_ble_eq_true rfl)) dL_act_12 ⟨Nat.le_of_ble_eq_true rfl, Nat.le_of_ble_eq_true rfl⟩ (fun H locs hP hD hS => ?_)
  refine lv_istore (lv' := [(4, .int (m_L_low (a2 >>> (4 &&& 31)) 13)), (3, .int (m_L_low a2 9)), (0, .ref x0), (1, .int 1), (2, .int a2)]) hx hb dL_act_15 hl (by decide) rfl (fun ls hl => ?_)
  refine lv_iload_n hx hb dL_act_17 rfl (lv_at hl 3 rfl) ?_
  refine lv_tableIn (off := 62) (tgt := 80) hx hb dL_act_18 (by decide +kernel) (by decide +kernel) (by decide +kernel) (by decide) ?_
  refine lv_aload_n hx hb dL_act_80 rfl (lv_at hl 2 rfl) ?_
  refine lv_iload_n hx hb dL_act_81 rfl (lv_at hl 1 rfl) ?_
  refine lv_iload_n hx hb dL_act_82 rfl (lv_at hl 4 rfl) ?_
  refine lv_bipush (v := 8) hx hb dL_act_83 (by decide) ?_
  refine lv_ishr hx hb dL_act_85 ?_
  refine lv_bipush (v := 10) hx hb dL_act_86 (by decide) ?_
  refine gl_Si0 (As := [.int (a2 >>> (8 &&& 31)), .int 10]) (rest := [.int (m_L_low a2 9), .ref x0]) ⟨hx, hb, hml, hown, hts⟩ (c_L_low l D _ (a2 >>> (8 &&& 31)) 10 (by decide)) (va_cwS 2 hts gL_act_L_low rfl rfl rfl (by decide +kernel) ⟨Nat.le_of_ble_eq_true rfl, Nat.le_of_ble_eq_true rfl⟩) hK hP hD hS hA rfl rfl hl.1 rfl (lv_room (Nat.le_of_ble_eq_true rfl)) dL_act_88 ⟨Nat.le_of_ble_eq_true rfl, Nat.le_of_ble_eq_true rfl⟩ (fun H locs hP hD hS => ?_)
  refine lv_if_ne (tgt := 100) hx hb dL_act_91 (by decide) (fun c_1 => ?_) (fun c_1 => ?_)
  · replace h := (if_neg c_1).symm.trans h
    refine lv_iload_n hx hb dL_act_100 rfl (lv_at hl 4 rfl) ?_
    refine lv_bipush (v := 12) hx hb dL_act_101 (by decide) ?_
    refine lv_ishr hx hb dL_act_103 ?_
    refine lv_sipush (v := 4096) hx hb dL_act_104 (by decide) ?_
    refine gl_Si0 (As := [.int (a2 >>> (12 &&& 31)), .int 4096]) (rest := [.int (m_L_low a2 9), .ref x0]) ⟨hx, hb, hml, hown, hts⟩ (c_L_low l D _ (a2 >>> (12 &&& 31)) 4096 (by decide)) (va_cwS 2 hts gL_act_L_low rfl rfl rfl (by decide +kernel) ⟨Nat.le_of_ble_eq_true rfl, Nat.le_of_ble_eq_true rfl⟩) hK hP hD hS hA rfl rfl hl.1 rfl (lv_room (Nat.le_of_ble_eq_true rfl)) dL_act_107 ⟨Nat.le_of_ble_eq_true rfl, Nat.le_of_ble_eq_true rfl⟩ (fun H locs hP hD hS => ?_)
    refine lv_iload_n hx hb dL_act_110 rfl (lv_at hl 4 rfl) ?_
    refine lv_bipush (v := 9) hx hb dL_act_111 (by decide) ?_
    refine lv_ishr hx hb dL_act_113 ?_
    refine lv_iconst (v := 3) hx hb dL_act_114 (by decide) ?_
    refine gl_Si0 (As := [.int (a2 >>> (9 &&& 31)), .int 3]) (rest := [.int (m_L_low (a2 >>> (12 &&& 31)) 4096), .int (m_L_low a2 9), .ref x0]) ⟨hx, hb, hml, hown, hts⟩ (c_L_low l D _ (a2 >>> (9 &&& 31)) 3 (by decide)) (va_cwS 2 hts gL_act_L_low rfl rfl rfl (by decide +kernel) ⟨Nat.le_of_ble_eq_true rfl, Nat.le_of_ble_eq_true rfl⟩) hK hP hD hS hA rfl rfl hl.1 rfl (lv_room (Nat.le_of_ble_eq_true rfl)) dL_act_115 ⟨Nat.le_of_ble_eq_true rfl, Nat.le_of_ble_eq_true rfl⟩ (fun H locs hP hD hS => ?_)
    refine lv_if_ne (tgt := 127) hx hb dL_act_118 (by decide) (fun c_2 => ?_) (fun c_2 => ?_)
    · replace h := (if_neg c_2).symm.trans h
      refine lv_iload_n hx hb dL_act_127 rfl (lv_at hl 4 rfl) ?_
      refine lv_iconst (v := 3) hx hb dL_act_128 (by decide) ?_
      refine lv_ishr hx hb dL_act_129 ?_
      refine lv_sipush (v := 4096) hx hb dL_act_130 (by decide) ?_
      refine gl_Si0 (As := [.int (a2 >>> (3 &&& 31)), .int 4096]) (rest := [.int (m_L_low (a2 >>> (12 &&& 31)) 4096), .int (m_L_low a2 9), .ref x0]) ⟨hx, hb, hml, hown, hts⟩ (c_L_low l D _ (a2 >>> (3 &&& 31)) 4096 (by decide)) (va_cwS 2 hts gL_act_L_low rfl rfl rfl (by decide +kernel) ⟨Nat.le_of_ble_eq_true rfl, Nat.le_of_ble_eq_true rfl⟩) hK hP hD hS hA rfl rfl hl.1 rfl (lv_room (Nat.le_of_ble_eq_true rfl)) dL_act_133 ⟨Nat.le_of_ble_eq_true rfl, Nat.le_of_ble_eq_true rfl⟩ (fun H locs hP hD hS => ?_)
      refine lv_iand hx hb dL_act_136 ?_
      obtain ⟨r_3, g_4, rm_5, e_6, hE_7, h⟩ := bw2_some h
      refine gl_W1 (As := [.ref x0, .int (m_L_low a2 9), .int ((m_L_low (a2 >>> (12 &&& 31)) 4096) &&& (m_L_low (a2 >>> (3 &&& 31)) 4096))]) (rest := []) (wc := wX cI cJ x0 x1 x2 x3 x4 x5 x6 x7 x8 x9 g rm op rc ec su pe qt rs rn cs cn lc hc lg hg) (w1 := wX cI cJ x0 x1 x2 x3 x4 x5 x6 x7 x8 x9 g_4 rm_5 op rc ec su pe qt rs rn cs cn lc hc lg hg) (wr := []) ⟨hx, hb, hml, hown, hts⟩ (c_L_all l hst D cI cJ x0 x1 x2 x3 x4 x5 x6 x7 x8 x9 _ g rm op rc ec su pe qt rs rn cs cn lc hc lg hg fu (m_L_low a2 9) ((m_L_low (a2 >>> (12 &&& 31)) 4096) &&& (m_L_low (a2 >>> (3 &&& 31)) 4096)) r_3 g_4 rm_5 e_6 hE_7) (vx_cwSW 3 hts gL_act_L_all rfl rfl rfl (by decide +kernel) ⟨Nat.le_of_ble_eq_true rfl, Nat.le_of_ble_eq_true rfl⟩) hK hP hD hS hA hT [0, 1, 2, 3, 4, 5, 6, 7, 8, 9] [] rfl rfl (by decide) (by decide) rfl rfl rfl hl.1 rfl (lv_room (Nat.le_of_ble_eq_true rfl)) dL_act_137 ⟨Nat.le_of_ble_eq_true rfl, Nat.le_of_ble_eq_true rfl⟩ (fun H locs hP hD hS => ?_)
      have hP : va_P D vwCl (wX cI cJ x0 x1 x2 x3 x4 x5 x6 x7 x8 x9 g_4 rm_5 op rc ec su pe qt rs rn cs cn lc hc lg hg) H := hP
      have hD : va_D A (wX cI cJ x0 x1 x2 x3 x4 x5 x6 x7 x8 x9 g_4 rm_5 op rc ec su pe qt rs rn cs cn lc hc lg hg) := hD
      cases h
      exact W.iret hx hb hr (fun t ht hW => ⟨⟨_, (), rfl, rfl, by rw [ht]; exact hP, va_K.moved hW.alike hK, hD⟩, hS.F ht⟩) hS.2.2 dL_act_140
    · replace h := (if_pos c_2).symm.trans h
      refine lv_sipush (v := 4095) hx hb dL_act_121 (by decide) ?_
      refine lv_goto (tgt := 136) hx hb dL_act_124 (by decide) ?_
      refine lv_iand hx hb dL_act_136 ?_
      obtain ⟨r_8, g_9, rm_10, e_11, hE_12, h⟩ := bw2_some h
      refine gl_W1 (As := [.ref x0, .int (m_L_low a2 9), .int ((m_L_low (a2 >>> (12 &&& 31)) 4096) &&& 4095)]) (rest := []) (wc := wX cI cJ x0 x1 x2 x3 x4 x5 x6 x7 x8 x9 g rm op rc ec su pe qt rs rn cs cn lc hc lg hg) (w1 := wX cI cJ x0 x1 x2 x3 x4 x5 x6 x7 x8 x9 g_9 rm_10 op rc ec su pe qt rs rn cs cn lc hc lg hg) (wr := []) ⟨hx, hb, hml, hown, hts⟩ (c_L_all l hst D cI cJ x0 x1 x2 x3 x4 x5 x6 x7 x8 x9 _ g rm op rc ec su pe qt rs rn cs cn lc hc lg hg fu (m_L_low a2 9) ((m_L_low (a2 >>> (12 &&& 31)) 4096) &&& 4095) r_8 g_9 rm_10 e_11 hE_12) (vx_cwSW 3 hts gL_act_L_all rfl rfl rfl (by decide +kernel) ⟨Nat.le_of_ble_eq_true rfl, Nat.le_of_ble_eq_true rfl⟩) hK hP hD hS hA hT [0, 1, 2, 3, 4, 5, 6, 7, 8, 9] [] rfl rfl (by decide) (by decide) rfl rfl rfl hl.1 rfl (lv_room (Nat.le_of_ble_eq_true rfl)) dL_act_137 ⟨Nat.le_of_ble_eq_true rfl, Nat.le_of_ble_eq_true rfl⟩ (fun H locs hP hD hS => ?_)
      have hP : va_P D vwCl (wX cI cJ x0 x1 x2 x3 x4 x5 x6 x7 x8 x9 g_9 rm_10 op rc ec su pe qt rs rn cs cn lc hc lg hg) H := hP
      have hD : va_D A (wX cI cJ x0 x1 x2 x3 x4 x5 x6 x7 x8 x9 g_9 rm_10 op rc ec su pe qt rs rn cs cn lc hc lg hg) := hD
      cases h
      exact W.iret hx hb hr (fun t ht hW => ⟨⟨_, (), rfl, rfl, by rw [ht]; exact hP, va_K.moved hW.alike hK, hD⟩, hS.F ht⟩) hS.2.2 dL_act_140
  · replace h := (if_pos c_1).symm.trans h
    refine lv_sipush (v := 4096) hx hb dL_act_94 (by decide) ?_
    refine lv_goto (tgt := 137) hx hb dL_act_97 (by decide) ?_
    obtain ⟨r_13, g_14, rm_15, e_16, hE_17, h⟩ := bw2_some h
    refine gl_W1 (As := [.ref x0, .int (m_L_low a2 9), .int 4096]) (rest := []) (wc := wX cI cJ x0 x1 x2 x3 x4 x5 x6 x7 x8 x9 g rm op rc ec su pe qt rs rn cs cn lc hc lg hg) (w1 := wX cI cJ x0 x1 x2 x3 x4 x5 x6 x7 x8 x9 g_14 rm_15 op rc ec su pe qt rs rn cs cn lc hc lg hg) (wr := []) ⟨hx, hb, hml, hown, hts⟩ (c_L_all l hst D cI cJ x0 x1 x2 x3 x4 x5 x6 x7 x8 x9 _ g rm op rc ec su pe qt rs rn cs cn lc hc lg hg fu (m_L_low a2 9) 4096 r_13 g_14 rm_15 e_16 hE_17) (vx_cwSW 3 hts gL_act_L_all rfl rfl rfl (by decide +kernel) ⟨Nat.le_of_ble_eq_true rfl, Nat.le_of_ble_eq_true rfl⟩) hK hP hD hS hA hT [0, 1, 2, 3, 4, 5, 6, 7, 8, 9] [] rfl rfl (by decide) (by decide) rfl rfl rfl hl.1 rfl (lv_room (Nat.le_of_ble_eq_true rfl)) dL_act_137 ⟨Nat.le_of_ble_eq_true rfl, Nat.le_of_ble_eq_true rfl⟩ (fun H locs hP hD hS => ?_)
    have hP : va_P D vwCl (wX cI cJ x0 x1 x2 x3 x4 x5 x6 x7 x8 x9 g_14 rm_15 op rc ec su pe qt rs rn cs cn lc hc lg hg) H := hP
    have hD : va_D A (wX cI cJ x0 x1 x2 x3 x4 x5 x6 x7 x8 x9 g_14 rm_15 op rc ec su pe qt rs rn cs cn lc hc lg hg) := hD
    cases h
    exact W.iret hx hb hr (fun t ht hW => ⟨⟨_, (), rfl, rfl, by rw [ht]; exact hP, va_K.moved hW.alike hK, hD⟩, hS.F ht⟩) hS.2.2 dL_act_140
-- act 2
def m_L_act_k2 (g : Nat → Int32) (rm : Nat → Int32) (qt : Int32) (a2 : Int32) : Option ((Int32) × (Nat → Int32) × (Nat → Int32)) := (bw2 "java/lang/IndexOutOfBoundsException" "java/lang/IndexOutOfBoundsException" (m_X0_grant g rm qt (m_L_low a2 9) (m_L_low (a2 >>> (4 &&& 31)) 13)) (fun r_1 g_2 rm_3 => some ((wb1 (-2) r_1), g_2, rm_3)))
set_option maxHeartbeats 8000000 in
set_option maxRecDepth 100000 in
theorem c_L_act_k2 (l : Launch) (hst : l.stackTraces = false) (D : va_G) (cI cJ : ClassId) (x0 x1 x2 x3 x4 x5 x6 x7 x8 x9 : Nat) (sz : Nat) (g : Nat → Int32) (rm : Nat → Int32) (op : Nat → Int32) (rc : Int32) (ec : Int32) (su : Int32) (pe : Int32) (qt : Int32) (rs : Nat → Int32) (rn : Int32) (cs : Nat → Int32) (cn : Int32) (lc : Nat → Int64) (hc : Nat → Int64) (lg : Nat → Int64) (hg : Nat → Int64) (a2 : Int32) (r0 : Int32) (g' : Nat → Int32) (rm' : Nat → Int32) (h : m_L_act_k2 g rm qt a2 = some (r0, g', rm')) : Met l yL_act wsL_act ({ frames := 8, cells := 1, slots := 6, locals := 142 }) (va_Pc [.ref x0, .int 2, .int a2] (bx_PreL D [(cI, .int), (cJ, .long)] (wX cI cJ x0 x1 x2 x3 x4 x5 x6 x7 x8 x9 g rm op rc ec su pe qt rs rn cs cn lc hc lg hg) sz)) (va_Qi (fun (r : Int32) (_ : Unit) => r = r0) (fun (_ : Unit) t => bx_Post D [(cI, .int), (cJ, .long)] (wX cI cJ x0 x1 x2 x3 x4 x5 x6 x7 x8 x9 g' rm' op rc ec su pe qt rs rn cs cn lc hc lg hg) (va_A (wX cI cJ x0 x1 x2 x3 x4 x5 x6 x7 x8 x9 g rm op rc ec su pe qt rs rn cs cn lc hc lg hg) sz) t) (va_A (wX cI cJ x0 x1 x2 x3 x4 x5 x6 x7 x8 x9 g rm op rc ec su pe qt rs rn cs cn lc hc lg hg) sz)) 1 6 (va_A (wX cI cJ x0 x1 x2 x3 x4 x5 x6 x7 x8 x9 g rm op rc ec su pe qt rs rn cs cn lc hc lg hg) sz) := by
  refine Met.ofW (cc := cL_act) (maxL := 5) (ret := (some .int)) (by decide) rfl ?_
  intro p e s m args below meth c s₁ B hml hv
  obtain ⟨rfl, hsz, hP, hK, hD0, hT⟩ := hv
  have hx := B.exec
  have hb := B.bytes
  have hr := B.returns
  have hts := atoms_spec (ws := wsL_act) B.pre
  have hown : s.vm.findClass RL = some m.cls := findClass_of_methodNamed B.named
  have hlocks := B.notSynchronized
  subst hsz
  have hD := hD0.self (sz := s.heap.size)
  generalize hAe : va_A (wX cI cJ x0 x1 x2 x3 x4 x5 x6 x7 x8 x9 g rm op rc ec su pe qt rs rn cs cn lc hc lg hg) s.heap.size = A at hD hT ⊢
  have hA : ∀ q : Nat, s.heap.size ≤ q → A q := fun q h9 => by rw [← hAe]; exact Or.inr h9
  have hS : va_S A s.heap s.heap [] := va_S.rf
  have hl := lv_entry ([.ref x0, .int 2, .int a2]) (n := 5) (Nat.le_of_ble_eq_true rfl)
  rw [lg_entry_eq]
  generalize (lg_sl ([.ref x0, .int 2, .int a2]) ++ List.replicate (5 - (lg_sl ([.ref x0, .int 2, .int a2])).length) Slot.unset).toArray = ls at hl ⊢
  have hl : lv_has ls 5 [(0, .ref x0), (1, .int 2), (2, .int a2)] := hl
  rw [m_L_act_k2] at h
  refine lv_iload_n hx hb dL_act_0 rfl (lv_at hl 2 rfl) ?_
  refine lv_bipush (v := 9) hx hb dL_act_1 (by decide) ?_
  refine gl_Si0 (As := [.int a2, .int 9]) (rest := []) ⟨hx, hb, hml, hown, hts⟩ (c_L_low l D _ a2 9 (by decide)) (va_cwS 2 hts gL_act_L_low rfl rfl rfl (by decide +kernel) ⟨Nat.le_of_ble_eq_true rfl, Nat.le_of_ble_eq_true rfl⟩) hK hP hD hS hA rfl rfl hl.1 rfl (lv_room (Nat.le_of_ble_eq_true rfl)) dL_act_3 ⟨Nat.le_of_ble_eq_true rfl, Nat.le_of_ble_eq_true rfl⟩ (fun H locs hP hD hS => ?_)
  refine lv_istore_n (lv' := [(3, .int (m_L_low a2 9)), (0, .ref x0), (1, .int 2), (2, .int a2)]) hx hb dL_act_6 rfl hl (by decide) rfl (fun ls hl => ?_)
  refine lv_iload_n hx hb dL_act_7 rfl (lv_at hl 3 rfl) ?_
  refine lv_iconst (v := 4) hx hb dL_act_8 (by decide) ?_
  refine lv_ishr hx hb dL_act_9 ?_
  refine lv_bipush (v := 13) hx hb dL_act_10 (by decide) ?_
  refine gl_Si0 (As := [.int (a2 >>> (4 &&& 31)), .int 13]) (rest := []) ⟨hx, hb, hml, hown, hts⟩ (c_L_low l D _ (a2 >>> (4 &&& 31)) 13 (by decide)) (va_cwS 2 hts gL_act_L_low rfl rfl rfl (by decide +kernel) ⟨Nat.le_of_ble_eq_true rfl, Nat.le_of_ble_eq_true rfl⟩) hK hP hD hS hA rfl rfl hl.1 rfl (lv_room (Nat.le_of_ble_eq_true rfl)) dL_act_12 ⟨Nat.le_of_ble_eq_true rfl, Nat.le_of_ble_eq_true rfl⟩ (fun H locs hP hD hS => ?_)
  refine lv_istore (lv' := [(4, .int (m_L_low (a2 >>> (4 &&& 31)) 13)), (3, .int (m_L_low a2 9)), (0, .ref x0), (1, .int 2), (2, .int a2)]) hx hb dL_act_15 hl (by decide) rfl (fun ls hl => ?_)
  refine lv_iload_n hx hb dL_act_17 rfl (lv_at hl 3 rfl) ?_
  refine lv_tableIn (off := 123) (tgt := 141) hx hb dL_act_18 (by decide +kernel) (by decide +kernel) (by decide +kernel) (by decide) ?_
  refine lv_aload_n hx hb dL_act_141 rfl (lv_at hl 2 rfl) ?_
  refine lv_iload_n hx hb dL_act_142 rfl (lv_at hl 1 rfl) ?_
  refine lv_iload hx hb dL_act_143 (lv_at hl 0 rfl) ?_
  refine lv_iconst (v := 1) hx hb dL_act_145 (by decide) ?_
  obtain ⟨r_1, g_2, rm_3, e_4, hE_5, h⟩ := bw2_some h
  refine gl_W1 (As := [.ref x0, .int (m_L_low a2 9), .int (m_L_low (a2 >>> (4 &&& 31)) 13), .int 1]) (rest := []) (wc := wX cI cJ x0 x1 x2 x3 x4 x5 x6 x7 x8 x9 g rm op rc ec su pe qt rs rn cs cn lc hc lg hg) (w1 := wX cI cJ x0 x1 x2 x3 x4 x5 x6 x7 x8 x9 g_2 rm_3 op rc ec su pe qt rs rn cs cn lc hc lg hg) (wr := []) ⟨hx, hb, hml, hown, hts⟩ (c_L_granted1 l hst D cI cJ x0 x1 x2 x3 x4 x5 x6 x7 x8 x9 _ g rm op rc ec su pe qt rs rn cs cn lc hc lg hg (m_L_low a2 9) (m_L_low (a2 >>> (4 &&& 31)) 13) r_1 g_2 rm_3 e_4 hE_5) (vx_cwSW 4 hts gL_act_L_granted rfl rfl rfl (by decide +kernel) ⟨Nat.le_of_ble_eq_true rfl, Nat.le_of_ble_eq_true rfl⟩) hK hP hD hS hA hT [0, 1, 2, 3, 4, 5, 6, 7, 8, 9] [] rfl rfl (by decide) (by decide) rfl rfl rfl hl.1 rfl (lv_room (Nat.le_of_ble_eq_true rfl)) dL_act_146 ⟨Nat.le_of_ble_eq_true rfl, Nat.le_of_ble_eq_true rfl⟩ (fun H locs hP hD hS => ?_)
  have hP : va_P D vwCl (wX cI cJ x0 x1 x2 x3 x4 x5 x6 x7 x8 x9 g_2 rm_3 op rc ec su pe qt rs rn cs cn lc hc lg hg) H := hP
  have hD : va_D A (wX cI cJ x0 x1 x2 x3 x4 x5 x6 x7 x8 x9 g_2 rm_3 op rc ec su pe qt rs rn cs cn lc hc lg hg) := hD
  cases h
  exact W.iret hx hb hr (fun t ht hW => ⟨⟨_, (), rfl, rfl, by rw [ht]; exact hP, va_K.moved hW.alike hK, hD⟩, hS.F ht⟩) hS.2.2 dL_act_149
-- act 3
def m_L_act_k3 (g : Nat → Int32) (a2 : Int32) : Option ((Int32) × (Nat → Int32)) := (bw1 "java/lang/IndexOutOfBoundsException" "java/lang/IndexOutOfBoundsException" (m_X0_revoke g (m_L_low a2 9) (m_L_low (a2 >>> (4 &&& 31)) 13)) (fun r_1 g_2 => some ((wb1 (-2) r_1), g_2)))
set_option maxHeartbeats 8000000 in
set_option maxRecDepth 100000 in
theorem c_L_act_k3 (l : Launch) (hst : l.stackTraces = false) (D : va_G) (cI cJ : ClassId) (x0 x1 x2 x3 x4 x5 x6 x7 x8 x9 : Nat) (sz : Nat) (g : Nat → Int32) (rm : Nat → Int32) (op : Nat → Int32) (rc : Int32) (ec : Int32) (su : Int32) (pe : Int32) (qt : Int32) (rs : Nat → Int32) (rn : Int32) (cs : Nat → Int32) (cn : Int32) (lc : Nat → Int64) (hc : Nat → Int64) (lg : Nat → Int64) (hg : Nat → Int64) (a2 : Int32) (r0 : Int32) (g' : Nat → Int32) (h : m_L_act_k3 g a2 = some (r0, g')) : Met l yL_act wsL_act ({ frames := 8, cells := 1, slots := 6, locals := 142 }) (va_Pc [.ref x0, .int 3, .int a2] (bx_PreL D [(cI, .int), (cJ, .long)] (wX cI cJ x0 x1 x2 x3 x4 x5 x6 x7 x8 x9 g rm op rc ec su pe qt rs rn cs cn lc hc lg hg) sz)) (va_Qi (fun (r : Int32) (_ : Unit) => r = r0) (fun (_ : Unit) t => bx_Post D [(cI, .int), (cJ, .long)] (wX cI cJ x0 x1 x2 x3 x4 x5 x6 x7 x8 x9 g' rm op rc ec su pe qt rs rn cs cn lc hc lg hg) (va_A (wX cI cJ x0 x1 x2 x3 x4 x5 x6 x7 x8 x9 g rm op rc ec su pe qt rs rn cs cn lc hc lg hg) sz) t) (va_A (wX cI cJ x0 x1 x2 x3 x4 x5 x6 x7 x8 x9 g rm op rc ec su pe qt rs rn cs cn lc hc lg hg) sz)) 1 6 (va_A (wX cI cJ x0 x1 x2 x3 x4 x5 x6 x7 x8 x9 g rm op rc ec su pe qt rs rn cs cn lc hc lg hg) sz) := by
  refine Met.ofW (cc := cL_act) (maxL := 5) (ret := (some .int)) (by decide) rfl ?_
  intro p e s m args below meth c s₁ B hml hv
  obtain ⟨rfl, hsz, hP, hK, hD0, hT⟩ := hv
  have hx := B.exec
  have hb := B.bytes
  have hr := B.returns
  have hts := atoms_spec (ws := wsL_act) B.pre
  have hown : s.vm.findClass RL = some m.cls := findClass_of_methodNamed B.named
  have hlocks := B.notSynchronized
  subst hsz
  have hD := hD0.self (sz := s.heap.size)
  generalize hAe : va_A (wX cI cJ x0 x1 x2 x3 x4 x5 x6 x7 x8 x9 g rm op rc ec su pe qt rs rn cs cn lc hc lg hg) s.heap.size = A at hD hT ⊢
  have hA : ∀ q : Nat, s.heap.size ≤ q → A q := fun q h9 => by rw [← hAe]; exact Or.inr h9
  have hS : va_S A s.heap s.heap [] := va_S.rf
  have hl := lv_entry ([.ref x0, .int 3, .int a2]) (n := 5) (Nat.le_of_ble_eq_true rfl)
  rw [lg_entry_eq]
  generalize (lg_sl ([.ref x0, .int 3, .int a2]) ++ List.replicate (5 - (lg_sl ([.ref x0, .int 3, .int a2])).length) Slot.unset).toArray = ls at hl ⊢
  have hl : lv_has ls 5 [(0, .ref x0), (1, .int 3), (2, .int a2)] := hl
  rw [m_L_act_k3] at h
  refine lv_iload_n hx hb dL_act_0 rfl (lv_at hl 2 rfl) ?_
  refine lv_bipush (v := 9) hx hb dL_act_1 (by decide) ?_
  refine gl_Si0 (As := [.int a2, .int 9]) (rest := []) ⟨hx, hb, hml, hown, hts⟩ (c_L_low l D _ a2 9 (by decide)) (va_cwS 2 hts gL_act_L_low rfl rfl rfl (by decide +kernel) ⟨Nat.le_of_ble_eq_true rfl, Nat.le_of_ble_eq_true rfl⟩) hK hP hD hS hA rfl rfl hl.1 rfl (lv_room (Nat.le_of_ble_eq_true rfl)) dL_act_3 ⟨Nat.le_of_ble_eq_true rfl, Nat.le_of_ble_eq_true rfl⟩ (fun H locs hP hD hS => ?_)
  refine lv_istore_n (lv' := [(3, .int (m_L_low a2 9)), (0, .ref x0), (1, .int 3), (2, .int a2)]) hx hb dL_act_6 rfl hl (by decide) rfl (fun ls hl => ?_)
  refine lv_iload_n hx hb dL_act_7 rfl (lv_at hl 3 rfl) ?_
  refine lv_iconst (v := 4) hx hb dL_act_8 (by decide) ?_
  refine lv_ishr hx hb dL_act_9 ?_
  refine lv_bipush (v := 13) hx hb dL_act_10 (by decide) ?_
  refine gl_Si0 (As := [.int (a2 >>> (4 &&& 31)), .int 13]) (rest := []) ⟨hx, hb, hml, hown, hts⟩ (c_L_low l D _ (a2 >>> (4 &&& 31)) 13 (by decide)) (va_cwS 2 hts gL_act_L_low rfl rfl rfl (by decide +kernel) ⟨Nat.le_of_ble_eq_true rfl, Nat.le_of_ble_eq_true rfl⟩) hK hP hD hS hA rfl rfl hl.1 rfl (lv_room (Nat.le_of_ble_eq_true rfl)) dL_act_12 ⟨Nat.le_of_ble_eq_true rfl, Nat.le_of_ble_eq_true rfl⟩ (fun H locs hP hD hS => ?_)
  refine lv_istore (lv' := [(4, .int (m_L_low (a2 >>> (4 &&& 31)) 13)), (3, .int (m_L_low a2 9)), (0, .ref x0), (1, .int 3), (2, .int a2)]) hx hb dL_act_15 hl (by decide) rfl (fun ls hl => ?_)
  refine lv_iload_n hx hb dL_act_17 rfl (lv_at hl 3 rfl) ?_
  refine lv_tableIn (off := 132) (tgt := 150) hx hb dL_act_18 (by decide +kernel) (by decide +kernel) (by decide +kernel) (by decide) ?_
  refine lv_aload_n hx hb dL_act_150 rfl (lv_at hl 2 rfl) ?_
  refine lv_iload_n hx hb dL_act_151 rfl (lv_at hl 1 rfl) ?_
  refine lv_iload hx hb dL_act_152 (lv_at hl 0 rfl) ?_
  refine lv_iconst (v := 0) hx hb dL_act_154 (by decide) ?_
  obtain ⟨r_1, g_2, e_3, hE_4, h⟩ := bw1_some h
  refine gl_W1 (As := [.ref x0, .int (m_L_low a2 9), .int (m_L_low (a2 >>> (4 &&& 31)) 13), .int 0]) (rest := []) (wc := wX cI cJ x0 x1 x2 x3 x4 x5 x6 x7 x8 x9 g rm op rc ec su pe qt rs rn cs cn lc hc lg hg) (w1 := wX cI cJ x0 x1 x2 x3 x4 x5 x6 x7 x8 x9 g_2 rm op rc ec su pe qt rs rn cs cn lc hc lg hg) (wr := []) ⟨hx, hb, hml, hown, hts⟩ (c_L_granted0 l hst D cI cJ x0 x1 x2 x3 x4 x5 x6 x7 x8 x9 _ g rm op rc ec su pe qt rs rn cs cn lc hc lg hg (m_L_low a2 9) (m_L_low (a2 >>> (4 &&& 31)) 13) r_1 g_2 e_3 hE_4) (vx_cwSW 4 hts gL_act_L_granted rfl rfl rfl (by decide +kernel) ⟨Nat.le_of_ble_eq_true rfl, Nat.le_of_ble_eq_true rfl⟩) hK hP hD hS hA hT [0, 1, 2, 3, 4, 5, 6, 7, 8, 9] [] rfl rfl (by decide) (by decide) rfl rfl rfl hl.1 rfl (lv_room (Nat.le_of_ble_eq_true rfl)) dL_act_155 ⟨Nat.le_of_ble_eq_true rfl, Nat.le_of_ble_eq_true rfl⟩ (fun H locs hP hD hS => ?_)
  have hP : va_P D vwCl (wX cI cJ x0 x1 x2 x3 x4 x5 x6 x7 x8 x9 g_2 rm op rc ec su pe qt rs rn cs cn lc hc lg hg) H := hP
  have hD : va_D A (wX cI cJ x0 x1 x2 x3 x4 x5 x6 x7 x8 x9 g_2 rm op rc ec su pe qt rs rn cs cn lc hc lg hg) := hD
  cases h
  exact W.iret hx hb hr (fun t ht hW => ⟨⟨_, (), rfl, rfl, by rw [ht]; exact hP, va_K.moved hW.alike hK, hD⟩, hS.F ht⟩) hS.2.2 dL_act_158
-- act 4
def m_L_act_k4 (op : Nat → Int32) (a2 : Int32) : Option ((Int32) × (Nat → Int32)) := (if (m_L_low (a2 >>> (13 &&& 31)) 3) ≤ 0 then (bw1 "java/lang/IndexOutOfBoundsException" "java/lang/IllegalArgumentException" (m_X0_setConflict op (m_L_low (a2 >>> (4 &&& 31)) 13) (m_L_low (a2 >>> (9 &&& 31)) 12) 0) (fun r_2 op_3 => some ((wb2 "java/lang/IndexOutOfBoundsException" (-2) (-3) r_2), op_3))) else (bw1 "java/lang/IndexOutOfBoundsException" "java/lang/IllegalArgumentException" (m_X0_setConflict op (m_L_low (a2 >>> (4 &&& 31)) 13) (m_L_low (a2 >>> (9 &&& 31)) 12) 1) (fun r_6 op_7 => some ((wb2 "java/lang/IndexOutOfBoundsException" (-2) (-3) r_6), op_7))))
set_option maxHeartbeats 8000000 in
set_option maxRecDepth 100000 in
theorem c_L_act_k4 (l : Launch) (hst : l.stackTraces = false) (D : va_G) (cI cJ : ClassId) (x0 x1 x2 x3 x4 x5 x6 x7 x8 x9 : Nat) (sz : Nat) (g : Nat → Int32) (rm : Nat → Int32) (op : Nat → Int32) (rc : Int32) (ec : Int32) (su : Int32) (pe : Int32) (qt : Int32) (rs : Nat → Int32) (rn : Int32) (cs : Nat → Int32) (cn : Int32) (lc : Nat → Int64) (hc : Nat → Int64) (lg : Nat → Int64) (hg : Nat → Int64) (a2 : Int32) (r0 : Int32) (op' : Nat → Int32) (h : m_L_act_k4 op a2 = some (r0, op')) : Met l yL_act wsL_act ({ frames := 8, cells := 1, slots := 6, locals := 142 }) (va_Pc [.ref x0, .int 4, .int a2] (bx_PreL D [(cI, .int), (cJ, .long)] (wX cI cJ x0 x1 x2 x3 x4 x5 x6 x7 x8 x9 g rm op rc ec su pe qt rs rn cs cn lc hc lg hg) sz)) (va_Qi (fun (r : Int32) (_ : Unit) => r = r0) (fun (_ : Unit) t => bx_Post D [(cI, .int), (cJ, .long)] (wX cI cJ x0 x1 x2 x3 x4 x5 x6 x7 x8 x9 g rm op' rc ec su pe qt rs rn cs cn lc hc lg hg) (va_A (wX cI cJ x0 x1 x2 x3 x4 x5 x6 x7 x8 x9 g rm op rc ec su pe qt rs rn cs cn lc hc lg hg) sz) t) (va_A (wX cI cJ x0 x1 x2 x3 x4 x5 x6 x7 x8 x9 g rm op rc ec su pe qt rs rn cs cn lc hc lg hg) sz)) 1 6 (va_A (wX cI cJ x0 x1 x2 x3 x4 x5 x6 x7 x8 x9 g rm op rc ec su pe qt rs rn cs cn lc hc lg hg) sz) := by
  refine Met.ofW (cc := cL_act) (maxL := 5) (ret := (some .int)) (by decide) rfl ?_
  intro p e s m args below meth c s₁ B hml hv
  obtain ⟨rfl, hsz, hP, hK, hD0, hT⟩ := hv
  have hx := B.exec
  have hb := B.bytes
  have hr := B.returns
  have hts := atoms_spec (ws := wsL_act) B.pre
  have hown : s.vm.findClass RL = some m.cls := findClass_of_methodNamed B.named
  have hlocks := B.notSynchronized
  subst hsz
  have hD := hD0.self (sz := s.heap.size)
  generalize hAe : va_A (wX cI cJ x0 x1 x2 x3 x4 x5 x6 x7 x8 x9 g rm op rc ec su pe qt rs rn cs cn lc hc lg hg) s.heap.size = A at hD hT ⊢
  have hA : ∀ q : Nat, s.heap.size ≤ q → A q := fun q h9 => by rw [← hAe]; exact Or.inr h9
  have hS : va_S A s.heap s.heap [] := va_S.rf
  have hl := lv_entry ([.ref x0, .int 4, .int a2]) (n := 5) (Nat.le_of_ble_eq_true rfl)
  rw [lg_entry_eq]
  generalize (lg_sl ([.ref x0, .int 4, .int a2]) ++ List.replicate (5 - (lg_sl ([.ref x0, .int 4, .int a2])).length) Slot.unset).toArray = ls at hl ⊢
  have hl : lv_has ls 5 [(0, .ref x0), (1, .int 4), (2, .int a2)] := hl
  rw [m_L_act_k4] at h
  refine lv_iload_n hx hb dL_act_0 rfl (lv_at hl 2 rfl) ?_
  refine lv_bipush (v := 9) hx hb dL_act_1 (by decide) ?_
  refine gl_Si0 (As := [.int a2, .int 9]) (rest := []) ⟨hx, hb, hml, hown, hts⟩ (c_L_low l D _ a2 9 (by decide)) (va_cwS 2 hts gL_act_L_low rfl rfl rfl (by decide +kernel) ⟨Nat.le_of_ble_eq_true rfl, Nat.le_of_ble_eq_true rfl⟩) hK hP hD hS hA rfl rfl hl.1 rfl (lv_room (Nat.le_of_ble_eq_true rfl)) dL_act_3 ⟨Nat.le_of_ble_eq_true rfl, Nat.le_of_ble_eq_true rfl⟩ (fun H locs hP hD hS => ?_)
  refine lv_istore_n (lv' := [(3, .int (m_L_low a2 9)), (0, .ref x0), (1, .int 4), (2, .int a2)]) hx hb dL_act_6 rfl hl (by decide) rfl (fun ls hl => ?_)
  refine lv_iload_n hx hb dL_act_7 rfl (lv_at hl 3 rfl) ?_
  refine lv_iconst (v := 4) hx hb dL_act_8 (by decide) ?_
  refine lv_ishr hx hb dL_act_9 ?_
  refine lv_bipush (v := 13) hx hb dL_act_10 (by decide) ?_
  refine gl_Si0 (As := [.int (a2 >>> (4 &&& 31)), .int 13]) (rest := []) ⟨hx, hb, hml, hown, hts⟩ (c_L_low l D _ (a2 >>> (4 &&& 31)) 13 (by decide)) (va_cwS 2 hts gL_act_L_low rfl rfl rfl (by decide +kernel) ⟨Nat.le_of_ble_eq_true rfl, Nat.le_of_ble_eq_true rfl⟩) hK hP hD hS hA rfl rfl hl.1 rfl (lv_room (Nat.le_of_ble_eq_true rfl)) dL_act_12 ⟨Nat.le_of_ble_eq_true rfl, Nat.le_of_ble_eq_true rfl⟩ (fun H locs hP hD hS => ?_)
  refine lv_istore (lv' := [(4, .int (m_L_low (a2 >>> (4 &&& 31)) 13)), (3, .int (m_L_low a2 9)), (0, .ref x0), (1, .int 4), (2, .int a2)]) hx hb dL_act_15 hl (by decide) rfl (fun ls hl => ?_)
  refine lv_iload_n hx hb dL_act_17 rfl (lv_at hl 3 rfl) ?_
  refine lv_tableIn (off := 141) (tgt := 159) hx hb dL_act_18 (by decide +kernel) (by decide +kernel) (by decide +kernel) (by decide) ?_
  refine lv_aload_n hx hb dL_act_159 rfl (lv_at hl 2 rfl) ?_
  refine lv_iload hx hb dL_act_160 (lv_at hl 0 rfl) ?_
  refine lv_iload_n hx hb dL_act_162 rfl (lv_at hl 4 rfl) ?_
  refine lv_bipush (v := 9) hx hb dL_act_163 (by decide) ?_
  refine lv_ishr hx hb dL_act_165 ?_
  refine lv_bipush (v := 12) hx hb dL_act_166 (by decide) ?_
  refine gl_Si0 (As := [.int (a2 >>> (9 &&& 31)), .int 12]) (rest := [.int (m_L_low (a2 >>> (4 &&& 31)) 13), .ref x0]) ⟨hx, hb, hml, hown, hts⟩ (c_L_low l D _ (a2 >>> (9 &&& 31)) 12 (by decide)) (va_cwS 2 hts gL_act_L_low rfl rfl rfl (by decide +kernel) ⟨Nat.le_of_ble_eq_true rfl, Nat.le_of_ble_eq_true rfl⟩) hK hP hD hS hA rfl rfl hl.1 rfl (lv_room (Nat.le_of_ble_eq_true rfl)) dL_act_168 ⟨Nat.le_of_ble_eq_true rfl, Nat.le_of_ble_eq_true rfl⟩ (fun H locs hP hD hS => ?_)
  refine lv_iload_n hx hb dL_act_171 rfl (lv_at hl 4 rfl) ?_
  refine lv_bipush (v := 13) hx hb dL_act_172 (by decide) ?_
  refine lv_ishr hx hb dL_act_174 ?_
  refine lv_iconst (v := 3) hx hb dL_act_175 (by decide) ?_
  refine gl_Si0 (As := [.int (a2 >>> (13 &&& 31)), .int 3]) (rest := [.int (m_L_low (a2 >>> (9 &&& 31)) 12), .int (m_L_low (a2 >>> (4 &&& 31)) 13), .ref x0]) ⟨hx, hb, hml, hown, hts⟩ (c_L_low l D _ (a2 >>> (13 &&& 31)) 3 (by decide)) (va_cwS 2 hts gL_act_L_low rfl rfl rfl (by decide +kernel) ⟨Nat.le_of_ble_eq_true rfl, Nat.le_of_ble_eq_true rfl⟩) hK hP hD hS hA rfl rfl hl.1 rfl (lv_room (Nat.le_of_ble_eq_true rfl)) dL_act_176 ⟨Nat.le_of_ble_eq_true rfl, Nat.le_of_ble_eq_true rfl⟩ (fun H locs hP hD hS => ?_)
  refine lv_if_le (tgt := 186) hx hb dL_act_179 (by decide) (fun c_1 => ?_) (fun c_1 => ?_)
  · replace h := (if_pos c_1).symm.trans h
    refine lv_iconst (v := 0) hx hb dL_act_186 (by decide) ?_
    obtain ⟨r_2, op_3, e_4, hE_5, h⟩ := bw1_some h
    refine gl_W1 (As := [.ref x0, .int (m_L_low (a2 >>> (4 &&& 31)) 13), .int (m_L_low (a2 >>> (9 &&& 31)) 12), .int 0]) (rest := []) (wc := wX cI cJ x0 x1 x2 x3 x4 x5 x6 x7 x8 x9 g rm op rc ec su pe qt rs rn cs cn lc hc lg hg) (w1 := wX cI cJ x0 x1 x2 x3 x4 x5 x6 x7 x8 x9 g rm op_3 rc ec su pe qt rs rn cs cn lc hc lg hg) (wr := []) ⟨hx, hb, hml, hown, hts⟩ (c_L_clash l hst D cI cJ x0 x1 x2 x3 x4 x5 x6 x7 x8 x9 _ g rm op rc ec su pe qt rs rn cs cn lc hc lg hg (m_L_low (a2 >>> (4 &&& 31)) 13) (m_L_low (a2 >>> (9 &&& 31)) 12) 0 r_2 op_3 e_4 hE_5) (vx_cwSW 4 hts gL_act_L_clash rfl rfl rfl (by decide +kernel) ⟨Nat.le_of_ble_eq_true rfl, Nat.le_of_ble_eq_true rfl⟩) hK hP hD hS hA hT [0, 1, 2, 3, 4, 5, 6, 7, 8, 9] [] rfl rfl (by decide) (by decide) rfl rfl rfl hl.1 rfl (lv_room (Nat.le_of_ble_eq_true rfl)) dL_act_187 ⟨Nat.le_of_ble_eq_true rfl, Nat.le_of_ble_eq_true rfl⟩ (fun H locs hP hD hS => ?_)
    have hP : va_P D vwCl (wX cI cJ x0 x1 x2 x3 x4 x5 x6 x7 x8 x9 g rm op_3 rc ec su pe qt rs rn cs cn lc hc lg hg) H := hP
    have hD : va_D A (wX cI cJ x0 x1 x2 x3 x4 x5 x6 x7 x8 x9 g rm op_3 rc ec su pe qt rs rn cs cn lc hc lg hg) := hD
    cases h
    exact W.iret hx hb hr (fun t ht hW => ⟨⟨_, (), rfl, rfl, by rw [ht]; exact hP, va_K.moved hW.alike hK, hD⟩, hS.F ht⟩) hS.2.2 dL_act_190
  · replace h := (if_neg c_1).symm.trans h
    refine lv_iconst (v := 1) hx hb dL_act_182 (by decide) ?_
    refine lv_goto (tgt := 187) hx hb dL_act_183 (by decide) ?_
    obtain ⟨r_6, op_7, e_8, hE_9, h⟩ := bw1_some h
    refine gl_W1 (As := [.ref x0, .int (m_L_low (a2 >>> (4 &&& 31)) 13), .int (m_L_low (a2 >>> (9 &&& 31)) 12), .int 1]) (rest := []) (wc := wX cI cJ x0 x1 x2 x3 x4 x5 x6 x7 x8 x9 g rm op rc ec su pe qt rs rn cs cn lc hc lg hg) (w1 := wX cI cJ x0 x1 x2 x3 x4 x5 x6 x7 x8 x9 g rm op_7 rc ec su pe qt rs rn cs cn lc hc lg hg) (wr := []) ⟨hx, hb, hml, hown, hts⟩ (c_L_clash l hst D cI cJ x0 x1 x2 x3 x4 x5 x6 x7 x8 x9 _ g rm op rc ec su pe qt rs rn cs cn lc hc lg hg (m_L_low (a2 >>> (4 &&& 31)) 13) (m_L_low (a2 >>> (9 &&& 31)) 12) 1 r_6 op_7 e_8 hE_9) (vx_cwSW 4 hts gL_act_L_clash rfl rfl rfl (by decide +kernel) ⟨Nat.le_of_ble_eq_true rfl, Nat.le_of_ble_eq_true rfl⟩) hK hP hD hS hA hT [0, 1, 2, 3, 4, 5, 6, 7, 8, 9] [] rfl rfl (by decide) (by decide) rfl rfl rfl hl.1 rfl (lv_room (Nat.le_of_ble_eq_true rfl)) dL_act_187 ⟨Nat.le_of_ble_eq_true rfl, Nat.le_of_ble_eq_true rfl⟩ (fun H locs hP hD hS => ?_)
    have hP : va_P D vwCl (wX cI cJ x0 x1 x2 x3 x4 x5 x6 x7 x8 x9 g rm op_7 rc ec su pe qt rs rn cs cn lc hc lg hg) H := hP
    have hD : va_D A (wX cI cJ x0 x1 x2 x3 x4 x5 x6 x7 x8 x9 g rm op_7 rc ec su pe qt rs rn cs cn lc hc lg hg) := hD
    cases h
    exact W.iret hx hb hr (fun t ht hW => ⟨⟨_, (), rfl, rfl, by rw [ht]; exact hP, va_K.moved hW.alike hK, hD⟩, hS.F ht⟩) hS.2.2 dL_act_190
-- act 5
def m_L_act_k5 (rc : Int32) (ec : Int32) (a2 : Int32) : Option ((Int32) × (Int32) × (Int32)) := (if (m_L_low (a2 >>> (5 &&& 31)) 8) = 0 then (bw2 "java/lang/IllegalArgumentException" "java/lang/IllegalArgumentException" (m_X0_setCosts rc ec (m_L_low a2 12) 101) (fun r_7 rc_8 ec_9 => some ((wr1 (-3) r_7), rc_8, ec_9))) else (bw2 "java/lang/IllegalArgumentException" "java/lang/IllegalArgumentException" (m_X0_setCosts rc ec (m_L_low a2 12) (m_L_low (a2 >>> (5 &&& 31)) 8)) (fun r_2 rc_3 ec_4 => some ((wr1 (-3) r_2), rc_3, ec_4))))
set_option maxHeartbeats 8000000 in
set_option maxRecDepth 100000 in
theorem c_L_act_k5 (l : Launch) (hst : l.stackTraces = false) (D : va_G) (cI cJ : ClassId) (x0 x1 x2 x3 x4 x5 x6 x7 x8 x9 : Nat) (sz : Nat) (g : Nat → Int32) (rm : Nat → Int32) (op : Nat → Int32) (rc : Int32) (ec : Int32) (su : Int32) (pe : Int32) (qt : Int32) (rs : Nat → Int32) (rn : Int32) (cs : Nat → Int32) (cn : Int32) (lc : Nat → Int64) (hc : Nat → Int64) (lg : Nat → Int64) (hg : Nat → Int64) (a2 : Int32) (r0 : Int32) (rc' : Int32) (ec' : Int32) (h : m_L_act_k5 rc ec a2 = some (r0, rc', ec')) : Met l yL_act wsL_act ({ frames := 8, cells := 1, slots := 6, locals := 142 }) (va_Pc [.ref x0, .int 5, .int a2] (bx_PreL D [(cI, .int), (cJ, .long)] (wX cI cJ x0 x1 x2 x3 x4 x5 x6 x7 x8 x9 g rm op rc ec su pe qt rs rn cs cn lc hc lg hg) sz)) (va_Qi (fun (r : Int32) (_ : Unit) => r = r0) (fun (_ : Unit) t => bx_Post D [(cI, .int), (cJ, .long)] (wX cI cJ x0 x1 x2 x3 x4 x5 x6 x7 x8 x9 g rm op rc' ec' su pe qt rs rn cs cn lc hc lg hg) (va_A (wX cI cJ x0 x1 x2 x3 x4 x5 x6 x7 x8 x9 g rm op rc ec su pe qt rs rn cs cn lc hc lg hg) sz) t) (va_A (wX cI cJ x0 x1 x2 x3 x4 x5 x6 x7 x8 x9 g rm op rc ec su pe qt rs rn cs cn lc hc lg hg) sz)) 1 6 (va_A (wX cI cJ x0 x1 x2 x3 x4 x5 x6 x7 x8 x9 g rm op rc ec su pe qt rs rn cs cn lc hc lg hg) sz) := by
  refine Met.ofW (cc := cL_act) (maxL := 5) (ret := (some .int)) (by decide) rfl ?_
  intro p e s m args below meth c s₁ B hml hv
  obtain ⟨rfl, hsz, hP, hK, hD0, hT⟩ := hv
  have hx := B.exec
  have hb := B.bytes
  have hr := B.returns
  have hts := atoms_spec (ws := wsL_act) B.pre
  have hown : s.vm.findClass RL = some m.cls := findClass_of_methodNamed B.named
  have hlocks := B.notSynchronized
  subst hsz
  have hD := hD0.self (sz := s.heap.size)
  generalize hAe : va_A (wX cI cJ x0 x1 x2 x3 x4 x5 x6 x7 x8 x9 g rm op rc ec su pe qt rs rn cs cn lc hc lg hg) s.heap.size = A at hD hT ⊢
  have hA : ∀ q : Nat, s.heap.size ≤ q → A q := fun q h9 => by rw [← hAe]; exact Or.inr h9
  have hS : va_S A s.heap s.heap [] := va_S.rf
  have hl := lv_entry ([.ref x0, .int 5, .int a2]) (n := 5) (Nat.le_of_ble_eq_true rfl)
  rw [lg_entry_eq]
  generalize (lg_sl ([.ref x0, .int 5, .int a2]) ++ List.replicate (5 - (lg_sl ([.ref x0, .int 5, .int a2])).length) Slot.unset).toArray = ls at hl ⊢
  have hl : lv_has ls 5 [(0, .ref x0), (1, .int 5), (2, .int a2)] := hl
  rw [m_L_act_k5] at h
  refine lv_iload_n hx hb dL_act_0 rfl (lv_at hl 2 rfl) ?_
  refine lv_bipush (v := 9) hx hb dL_act_1 (by decide) ?_
  refine gl_Si0 (As := [.int a2, .int 9]) (rest := []) ⟨hx, hb, hml, hown, hts⟩ (c_L_low l D _ a2 9 (by decide)) (va_cwS 2 hts gL_act_L_low rfl rfl rfl (by decide +kernel) ⟨Nat.le_of_ble_eq_true rfl, Nat.le_of_ble_eq_true rfl⟩) hK hP hD hS hA rfl rfl hl.1 rfl (lv_room (Nat.le_of_ble_eq_true rfl)) dL_act_3 ⟨Nat.le_of_ble_eq_true rfl, Nat.le_of_ble_eq_true rfl⟩ (fun H locs hP hD hS => ?_)
  refine lv_istore_n (lv' := [(3, .int (m_L_low a2 9)), (0, .ref x0), (1, .int 5), (2, .int a2)]) hx hb dL_act_6 rfl hl (by decide) rfl (fun ls hl => ?_)
  refine lv_iload_n hx hb dL_act_7 rfl (lv_at hl 3 rfl) ?_
  refine lv_iconst (v := 4) hx hb dL_act_8 (by decide) ?_
  refine lv_ishr hx hb dL_act_9 ?_
  refine lv_bipush (v := 13) hx hb dL_act_10 (by decide) ?_
  refine gl_Si0 (As := [.int (a2 >>> (4 &&& 31)), .int 13]) (rest := []) ⟨hx, hb, hml, hown, hts⟩ (c_L_low l D _ (a2 >>> (4 &&& 31)) 13 (by decide)) (va_cwS 2 hts gL_act_L_low rfl rfl rfl (by decide +kernel) ⟨Nat.le_of_ble_eq_true rfl, Nat.le_of_ble_eq_true rfl⟩) hK hP hD hS hA rfl rfl hl.1 rfl (lv_room (Nat.le_of_ble_eq_true rfl)) dL_act_12 ⟨Nat.le_of_ble_eq_true rfl, Nat.le_of_ble_eq_true rfl⟩ (fun H locs hP hD hS => ?_)
  refine lv_istore (lv' := [(4, .int (m_L_low (a2 >>> (4 &&& 31)) 13)), (3, .int (m_L_low a2 9)), (0, .ref x0), (1, .int 5), (2, .int a2)]) hx hb dL_act_15 hl (by decide) rfl (fun ls hl => ?_)
  refine lv_iload_n hx hb dL_act_17 rfl (lv_at hl 3 rfl) ?_
  refine lv_tableIn (off := 173) (tgt := 191) hx hb dL_act_18 (by decide +kernel) (by decide +kernel) (by decide +kernel) (by decide) ?_
  refine lv_aload_n hx hb dL_act_191 rfl (lv_at hl 2 rfl) ?_
  refine lv_iload_n hx hb dL_act_192 rfl (lv_at hl 4 rfl) ?_
  refine lv_bipush (v := 12) hx hb dL_act_193 (by decide) ?_
  refine gl_Si0 (As := [.int a2, .int 12]) (rest := [.ref x0]) ⟨hx, hb, hml, hown, hts⟩ (c_L_low l D _ a2 12 (by decide)) (va_cwS 2 hts gL_act_L_low rfl rfl rfl (by decide +kernel) ⟨Nat.le_of_ble_eq_true rfl, Nat.le_of_ble_eq_true rfl⟩) hK hP hD hS hA rfl rfl hl.1 rfl (lv_room (Nat.le_of_ble_eq_true rfl)) dL_act_195 ⟨Nat.le_of_ble_eq_true rfl, Nat.le_of_ble_eq_true rfl⟩ (fun H locs hP hD hS => ?_)
  refine lv_iload_n hx hb dL_act_198 rfl (lv_at hl 4 rfl) ?_
  refine lv_iconst (v := 5) hx hb dL_act_199 (by decide) ?_
  refine lv_ishr hx hb dL_act_200 ?_
  refine lv_bipush (v := 8) hx hb dL_act_201 (by decide) ?_
  refine gl_Si0 (As := [.int (a2 >>> (5 &&& 31)), .int 8]) (rest := [.int (m_L_low a2 12), .ref x0]) ⟨hx, hb, hml, hown, hts⟩ (c_L_low l D _ (a2 >>> (5 &&& 31)) 8 (by decide)) (va_cwS 2 hts gL_act_L_low rfl rfl rfl (by decide +kernel) ⟨Nat.le_of_ble_eq_true rfl, Nat.le_of_ble_eq_true rfl⟩) hK hP hD hS hA rfl rfl hl.1 rfl (lv_room (Nat.le_of_ble_eq_true rfl)) dL_act_203 ⟨Nat.le_of_ble_eq_true rfl, Nat.le_of_ble_eq_true rfl⟩ (fun H locs hP hD hS => ?_)
  refine lv_if_ne (tgt := 214) hx hb dL_act_206 (by decide) (fun c_1 => ?_) (fun c_1 => ?_)
  · replace h := (if_neg c_1).symm.trans h
    refine lv_iload_n hx hb dL_act_214 rfl (lv_at hl 4 rfl) ?_
    refine lv_iconst (v := 5) hx hb dL_act_215 (by decide) ?_
    refine lv_ishr hx hb dL_act_216 ?_
    refine lv_bipush (v := 8) hx hb dL_act_217 (by decide) ?_
    refine gl_Si0 (As := [.int (a2 >>> (5 &&& 31)), .int 8]) (rest := [.int (m_L_low a2 12), .ref x0]) ⟨hx, hb, hml, hown, hts⟩ (c_L_low l D _ (a2 >>> (5 &&& 31)) 8 (by decide)) (va_cwS 2 hts gL_act_L_low rfl rfl rfl (by decide +kernel) ⟨Nat.le_of_ble_eq_true rfl, Nat.le_of_ble_eq_true rfl⟩) hK hP hD hS hA rfl rfl hl.1 rfl (lv_room (Nat.le_of_ble_eq_true rfl)) dL_act_219 ⟨Nat.le_of_ble_eq_true rfl, Nat.le_of_ble_eq_true rfl⟩ (fun H locs hP hD hS => ?_)
    obtain ⟨r_2, rc_3, ec_4, e_5, hE_6, h⟩ := bw2_some h
    refine gl_W1 (As := [.ref x0, .int (m_L_low a2 12), .int (m_L_low (a2 >>> (5 &&& 31)) 8)]) (rest := []) (wc := wX cI cJ x0 x1 x2 x3 x4 x5 x6 x7 x8 x9 g rm op rc ec su pe qt rs rn cs cn lc hc lg hg) (w1 := wX cI cJ x0 x1 x2 x3 x4 x5 x6 x7 x8 x9 g rm op rc_3 ec_4 su pe qt rs rn cs cn lc hc lg hg) (wr := []) ⟨hx, hb, hml, hown, hts⟩ (c_L_costs l hst D cI cJ x0 x1 x2 x3 x4 x5 x6 x7 x8 x9 _ g rm op rc ec su pe qt rs rn cs cn lc hc lg hg (m_L_low a2 12) (m_L_low (a2 >>> (5 &&& 31)) 8) r_2 rc_3 ec_4 e_5 hE_6) (vx_cwSW 3 hts gL_act_L_costs rfl rfl rfl (by decide +kernel) ⟨Nat.le_of_ble_eq_true rfl, Nat.le_of_ble_eq_true rfl⟩) hK hP hD hS hA hT [0, 1, 2, 3, 4, 5, 6, 7, 8, 9] [] rfl rfl (by decide) (by decide) rfl rfl rfl hl.1 rfl (lv_room (Nat.le_of_ble_eq_true rfl)) dL_act_222 ⟨Nat.le_of_ble_eq_true rfl, Nat.le_of_ble_eq_true rfl⟩ (fun H locs hP hD hS => ?_)
    have hP : va_P D vwCl (wX cI cJ x0 x1 x2 x3 x4 x5 x6 x7 x8 x9 g rm op rc_3 ec_4 su pe qt rs rn cs cn lc hc lg hg) H := hP
    have hD : va_D A (wX cI cJ x0 x1 x2 x3 x4 x5 x6 x7 x8 x9 g rm op rc_3 ec_4 su pe qt rs rn cs cn lc hc lg hg) := hD
    cases h
    exact W.iret hx hb hr (fun t ht hW => ⟨⟨_, (), rfl, rfl, by rw [ht]; exact hP, va_K.moved hW.alike hK, hD⟩, hS.F ht⟩) hS.2.2 dL_act_225
  · replace h := (if_pos c_1).symm.trans h
    refine lv_bipush (v := 101) hx hb dL_act_209 (by decide) ?_
    refine lv_goto (tgt := 222) hx hb dL_act_211 (by decide) ?_
    obtain ⟨r_7, rc_8, ec_9, e_10, hE_11, h⟩ := bw2_some h
    refine gl_W1 (As := [.ref x0, .int (m_L_low a2 12), .int 101]) (rest := []) (wc := wX cI cJ x0 x1 x2 x3 x4 x5 x6 x7 x8 x9 g rm op rc ec su pe qt rs rn cs cn lc hc lg hg) (w1 := wX cI cJ x0 x1 x2 x3 x4 x5 x6 x7 x8 x9 g rm op rc_8 ec_9 su pe qt rs rn cs cn lc hc lg hg) (wr := []) ⟨hx, hb, hml, hown, hts⟩ (c_L_costs l hst D cI cJ x0 x1 x2 x3 x4 x5 x6 x7 x8 x9 _ g rm op rc ec su pe qt rs rn cs cn lc hc lg hg (m_L_low a2 12) 101 r_7 rc_8 ec_9 e_10 hE_11) (vx_cwSW 3 hts gL_act_L_costs rfl rfl rfl (by decide +kernel) ⟨Nat.le_of_ble_eq_true rfl, Nat.le_of_ble_eq_true rfl⟩) hK hP hD hS hA hT [0, 1, 2, 3, 4, 5, 6, 7, 8, 9] [] rfl rfl (by decide) (by decide) rfl rfl rfl hl.1 rfl (lv_room (Nat.le_of_ble_eq_true rfl)) dL_act_222 ⟨Nat.le_of_ble_eq_true rfl, Nat.le_of_ble_eq_true rfl⟩ (fun H locs hP hD hS => ?_)
    have hP : va_P D vwCl (wX cI cJ x0 x1 x2 x3 x4 x5 x6 x7 x8 x9 g rm op rc_8 ec_9 su pe qt rs rn cs cn lc hc lg hg) H := hP
    have hD : va_D A (wX cI cJ x0 x1 x2 x3 x4 x5 x6 x7 x8 x9 g rm op rc_8 ec_9 su pe qt rs rn cs cn lc hc lg hg) := hD
    cases h
    exact W.iret hx hb hr (fun t ht hW => ⟨⟨_, (), rfl, rfl, by rw [ht]; exact hP, va_K.moved hW.alike hK, hD⟩, hS.F ht⟩) hS.2.2 dL_act_225
-- act 6
def m_L_act_k6 (su : Int32) (a2 : Int32) : Option ((Int32) × (Int32)) := (bw1 "java/lang/IllegalArgumentException" "java/lang/IllegalArgumentException" (m_X0_setSupport su (m_L_low a2 5)) (fun r_1 su_2 => some ((wr1 (-3) r_1), su_2)))
set_option maxHeartbeats 8000000 in
set_option maxRecDepth 100000 in
theorem c_L_act_k6 (l : Launch) (hst : l.stackTraces = false) (D : va_G) (cI cJ : ClassId) (x0 x1 x2 x3 x4 x5 x6 x7 x8 x9 : Nat) (sz : Nat) (g : Nat → Int32) (rm : Nat → Int32) (op : Nat → Int32) (rc : Int32) (ec : Int32) (su : Int32) (pe : Int32) (qt : Int32) (rs : Nat → Int32) (rn : Int32) (cs : Nat → Int32) (cn : Int32) (lc : Nat → Int64) (hc : Nat → Int64) (lg : Nat → Int64) (hg : Nat → Int64) (a2 : Int32) (r0 : Int32) (su' : Int32) (h : m_L_act_k6 su a2 = some (r0, su')) : Met l yL_act wsL_act ({ frames := 8, cells := 1, slots := 6, locals := 142 }) (va_Pc [.ref x0, .int 6, .int a2] (bx_PreL D [(cI, .int), (cJ, .long)] (wX cI cJ x0 x1 x2 x3 x4 x5 x6 x7 x8 x9 g rm op rc ec su pe qt rs rn cs cn lc hc lg hg) sz)) (va_Qi (fun (r : Int32) (_ : Unit) => r = r0) (fun (_ : Unit) t => bx_Post D [(cI, .int), (cJ, .long)] (wX cI cJ x0 x1 x2 x3 x4 x5 x6 x7 x8 x9 g rm op rc ec su' pe qt rs rn cs cn lc hc lg hg) (va_A (wX cI cJ x0 x1 x2 x3 x4 x5 x6 x7 x8 x9 g rm op rc ec su pe qt rs rn cs cn lc hc lg hg) sz) t) (va_A (wX cI cJ x0 x1 x2 x3 x4 x5 x6 x7 x8 x9 g rm op rc ec su pe qt rs rn cs cn lc hc lg hg) sz)) 1 6 (va_A (wX cI cJ x0 x1 x2 x3 x4 x5 x6 x7 x8 x9 g rm op rc ec su pe qt rs rn cs cn lc hc lg hg) sz) := by
  refine Met.ofW (cc := cL_act) (maxL := 5) (ret := (some .int)) (by decide) rfl ?_
  intro p e s m args below meth c s₁ B hml hv
  obtain ⟨rfl, hsz, hP, hK, hD0, hT⟩ := hv
  have hx := B.exec
  have hb := B.bytes
  have hr := B.returns
  have hts := atoms_spec (ws := wsL_act) B.pre
  have hown : s.vm.findClass RL = some m.cls := findClass_of_methodNamed B.named
  have hlocks := B.notSynchronized
  subst hsz
  have hD := hD0.self (sz := s.heap.size)
  generalize hAe : va_A (wX cI cJ x0 x1 x2 x3 x4 x5 x6 x7 x8 x9 g rm op rc ec su pe qt rs rn cs cn lc hc lg hg) s.heap.size = A at hD hT ⊢
  have hA : ∀ q : Nat, s.heap.size ≤ q → A q := fun q h9 => by rw [← hAe]; exact Or.inr h9
  have hS : va_S A s.heap s.heap [] := va_S.rf
  have hl := lv_entry ([.ref x0, .int 6, .int a2]) (n := 5) (Nat.le_of_ble_eq_true rfl)
  rw [lg_entry_eq]
  generalize (lg_sl ([.ref x0, .int 6, .int a2]) ++ List.replicate (5 - (lg_sl ([.ref x0, .int 6, .int a2])).length) Slot.unset).toArray = ls at hl ⊢
  have hl : lv_has ls 5 [(0, .ref x0), (1, .int 6), (2, .int a2)] := hl
  rw [m_L_act_k6] at h
  refine lv_iload_n hx hb dL_act_0 rfl (lv_at hl 2 rfl) ?_
  refine lv_bipush (v := 9) hx hb dL_act_1 (by decide) ?_
  refine gl_Si0 (As := [.int a2, .int 9]) (rest := []) ⟨hx, hb, hml, hown, hts⟩ (c_L_low l D _ a2 9 (by decide)) (va_cwS 2 hts gL_act_L_low rfl rfl rfl (by decide +kernel) ⟨Nat.le_of_ble_eq_true rfl, Nat.le_of_ble_eq_true rfl⟩) hK hP hD hS hA rfl rfl hl.1 rfl (lv_room (Nat.le_of_ble_eq_true rfl)) dL_act_3 ⟨Nat.le_of_ble_eq_true rfl, Nat.le_of_ble_eq_true rfl⟩ (fun H locs hP hD hS => ?_)
  refine lv_istore_n (lv' := [(3, .int (m_L_low a2 9)), (0, .ref x0), (1, .int 6), (2, .int a2)]) hx hb dL_act_6 rfl hl (by decide) rfl (fun ls hl => ?_)
  refine lv_iload_n hx hb dL_act_7 rfl (lv_at hl 3 rfl) ?_
  refine lv_iconst (v := 4) hx hb dL_act_8 (by decide) ?_
  refine lv_ishr hx hb dL_act_9 ?_
  refine lv_bipush (v := 13) hx hb dL_act_10 (by decide) ?_
  refine gl_Si0 (As := [.int (a2 >>> (4 &&& 31)), .int 13]) (rest := []) ⟨hx, hb, hml, hown, hts⟩ (c_L_low l D _ (a2 >>> (4 &&& 31)) 13 (by decide)) (va_cwS 2 hts gL_act_L_low rfl rfl rfl (by decide +kernel) ⟨Nat.le_of_ble_eq_true rfl, Nat.le_of_ble_eq_true rfl⟩) hK hP hD hS hA rfl rfl hl.1 rfl (lv_room (Nat.le_of_ble_eq_true rfl)) dL_act_12 ⟨Nat.le_of_ble_eq_true rfl, Nat.le_of_ble_eq_true rfl⟩ (fun H locs hP hD hS => ?_)
  refine lv_istore (lv' := [(4, .int (m_L_low (a2 >>> (4 &&& 31)) 13)), (3, .int (m_L_low a2 9)), (0, .ref x0), (1, .int 6), (2, .int a2)]) hx hb dL_act_15 hl (by decide) rfl (fun ls hl => ?_)
  refine lv_iload_n hx hb dL_act_17 rfl (lv_at hl 3 rfl) ?_
  refine lv_tableIn (off := 208) (tgt := 226) hx hb dL_act_18 (by decide +kernel) (by decide +kernel) (by decide +kernel) (by decide) ?_
  refine lv_aload_n hx hb dL_act_226 rfl (lv_at hl 2 rfl) ?_
  refine lv_iconst (v := 1) hx hb dL_act_227 (by decide) ?_
  refine lv_iload_n hx hb dL_act_228 rfl (lv_at hl 4 rfl) ?_
  refine lv_iconst (v := 5) hx hb dL_act_229 (by decide) ?_
  refine gl_Si0 (As := [.int a2, .int 5]) (rest := [.int 1, .ref x0]) ⟨hx, hb, hml, hown, hts⟩ (c_L_low l D _ a2 5 (by decide)) (va_cwS 2 hts gL_act_L_low rfl rfl rfl (by decide +kernel) ⟨Nat.le_of_ble_eq_true rfl, Nat.le_of_ble_eq_true rfl⟩) hK hP hD hS hA rfl rfl hl.1 rfl (lv_room (Nat.le_of_ble_eq_true rfl)) dL_act_230 ⟨Nat.le_of_ble_eq_true rfl, Nat.le_of_ble_eq_true rfl⟩ (fun H locs hP hD hS => ?_)
  obtain ⟨r_1, su_2, e_3, hE_4, h⟩ := bw1_some h
  refine gl_W1 (As := [.ref x0, .int 1, .int (m_L_low a2 5)]) (rest := []) (wc := wX cI cJ x0 x1 x2 x3 x4 x5 x6 x7 x8 x9 g rm op rc ec su pe qt rs rn cs cn lc hc lg hg) (w1 := wX cI cJ x0 x1 x2 x3 x4 x5 x6 x7 x8 x9 g rm op rc ec su_2 pe qt rs rn cs cn lc hc lg hg) (wr := []) ⟨hx, hb, hml, hown, hts⟩ (c_L_setting1 l hst D cI cJ x0 x1 x2 x3 x4 x5 x6 x7 x8 x9 _ g rm op rc ec su pe qt rs rn cs cn lc hc lg hg (m_L_low a2 5) r_1 su_2 e_3 hE_4) (vx_cwSW 3 hts gL_act_L_setting rfl rfl rfl (by decide +kernel) ⟨Nat.le_of_ble_eq_true rfl, Nat.le_of_ble_eq_true rfl⟩) hK hP hD hS hA hT [0, 1, 2, 3, 4, 5, 6, 7, 8, 9] [] rfl rfl (by decide) (by decide) rfl rfl rfl hl.1 rfl (lv_room (Nat.le_of_ble_eq_true rfl)) dL_act_233 ⟨Nat.le_of_ble_eq_true rfl, Nat.le_of_ble_eq_true rfl⟩ (fun H locs hP hD hS => ?_)
  have hP : va_P D vwCl (wX cI cJ x0 x1 x2 x3 x4 x5 x6 x7 x8 x9 g rm op rc ec su_2 pe qt rs rn cs cn lc hc lg hg) H := hP
  have hD : va_D A (wX cI cJ x0 x1 x2 x3 x4 x5 x6 x7 x8 x9 g rm op rc ec su_2 pe qt rs rn cs cn lc hc lg hg) := hD
  cases h
  exact W.iret hx hb hr (fun t ht hW => ⟨⟨_, (), rfl, rfl, by rw [ht]; exact hP, va_K.moved hW.alike hK, hD⟩, hS.F ht⟩) hS.2.2 dL_act_236
-- act 7
def m_L_act_k7 (pe : Int32) (a2 : Int32) : Option ((Int32) × (Int32)) := (bw1 "java/lang/IllegalArgumentException" "java/lang/IllegalArgumentException" (m_X0_setPeriod pe (m_L_low a2 6)) (fun r_1 pe_2 => some ((wr1 (-3) r_1), pe_2)))
set_option maxHeartbeats 8000000 in
set_option maxRecDepth 100000 in
theorem c_L_act_k7 (l : Launch) (hst : l.stackTraces = false) (D : va_G) (cI cJ : ClassId) (x0 x1 x2 x3 x4 x5 x6 x7 x8 x9 : Nat) (sz : Nat) (g : Nat → Int32) (rm : Nat → Int32) (op : Nat → Int32) (rc : Int32) (ec : Int32) (su : Int32) (pe : Int32) (qt : Int32) (rs : Nat → Int32) (rn : Int32) (cs : Nat → Int32) (cn : Int32) (lc : Nat → Int64) (hc : Nat → Int64) (lg : Nat → Int64) (hg : Nat → Int64) (a2 : Int32) (r0 : Int32) (pe' : Int32) (h : m_L_act_k7 pe a2 = some (r0, pe')) : Met l yL_act wsL_act ({ frames := 8, cells := 1, slots := 6, locals := 142 }) (va_Pc [.ref x0, .int 7, .int a2] (bx_PreL D [(cI, .int), (cJ, .long)] (wX cI cJ x0 x1 x2 x3 x4 x5 x6 x7 x8 x9 g rm op rc ec su pe qt rs rn cs cn lc hc lg hg) sz)) (va_Qi (fun (r : Int32) (_ : Unit) => r = r0) (fun (_ : Unit) t => bx_Post D [(cI, .int), (cJ, .long)] (wX cI cJ x0 x1 x2 x3 x4 x5 x6 x7 x8 x9 g rm op rc ec su pe' qt rs rn cs cn lc hc lg hg) (va_A (wX cI cJ x0 x1 x2 x3 x4 x5 x6 x7 x8 x9 g rm op rc ec su pe qt rs rn cs cn lc hc lg hg) sz) t) (va_A (wX cI cJ x0 x1 x2 x3 x4 x5 x6 x7 x8 x9 g rm op rc ec su pe qt rs rn cs cn lc hc lg hg) sz)) 1 6 (va_A (wX cI cJ x0 x1 x2 x3 x4 x5 x6 x7 x8 x9 g rm op rc ec su pe qt rs rn cs cn lc hc lg hg) sz) := by
  refine Met.ofW (cc := cL_act) (maxL := 5) (ret := (some .int)) (by decide) rfl ?_
  intro p e s m args below meth c s₁ B hml hv
  obtain ⟨rfl, hsz, hP, hK, hD0, hT⟩ := hv
  have hx := B.exec
  have hb := B.bytes
  have hr := B.returns
  have hts := atoms_spec (ws := wsL_act) B.pre
  have hown : s.vm.findClass RL = some m.cls := findClass_of_methodNamed B.named
  have hlocks := B.notSynchronized
  subst hsz
  have hD := hD0.self (sz := s.heap.size)
  generalize hAe : va_A (wX cI cJ x0 x1 x2 x3 x4 x5 x6 x7 x8 x9 g rm op rc ec su pe qt rs rn cs cn lc hc lg hg) s.heap.size = A at hD hT ⊢
  have hA : ∀ q : Nat, s.heap.size ≤ q → A q := fun q h9 => by rw [← hAe]; exact Or.inr h9
  have hS : va_S A s.heap s.heap [] := va_S.rf
  have hl := lv_entry ([.ref x0, .int 7, .int a2]) (n := 5) (Nat.le_of_ble_eq_true rfl)
  rw [lg_entry_eq]
  generalize (lg_sl ([.ref x0, .int 7, .int a2]) ++ List.replicate (5 - (lg_sl ([.ref x0, .int 7, .int a2])).length) Slot.unset).toArray = ls at hl ⊢
  have hl : lv_has ls 5 [(0, .ref x0), (1, .int 7), (2, .int a2)] := hl
  rw [m_L_act_k7] at h
  refine lv_iload_n hx hb dL_act_0 rfl (lv_at hl 2 rfl) ?_
  refine lv_bipush (v := 9) hx hb dL_act_1 (by decide) ?_
  refine gl_Si0 (As := [.int a2, .int 9]) (rest := []) ⟨hx, hb, hml, hown, hts⟩ (c_L_low l D _ a2 9 (by decide)) (va_cwS 2 hts gL_act_L_low rfl rfl rfl (by decide +kernel) ⟨Nat.le_of_ble_eq_true rfl, Nat.le_of_ble_eq_true rfl⟩) hK hP hD hS hA rfl rfl hl.1 rfl (lv_room (Nat.le_of_ble_eq_true rfl)) dL_act_3 ⟨Nat.le_of_ble_eq_true rfl, Nat.le_of_ble_eq_true rfl⟩ (fun H locs hP hD hS => ?_)
  refine lv_istore_n (lv' := [(3, .int (m_L_low a2 9)), (0, .ref x0), (1, .int 7), (2, .int a2)]) hx hb dL_act_6 rfl hl (by decide) rfl (fun ls hl => ?_)
  refine lv_iload_n hx hb dL_act_7 rfl (lv_at hl 3 rfl) ?_
  refine lv_iconst (v := 4) hx hb dL_act_8 (by decide) ?_
  refine lv_ishr hx hb dL_act_9 ?_
  refine lv_bipush (v := 13) hx hb dL_act_10 (by decide) ?_
  refine gl_Si0 (As := [.int (a2 >>> (4 &&& 31)), .int 13]) (rest := []) ⟨hx, hb, hml, hown, hts⟩ (c_L_low l D _ (a2 >>> (4 &&& 31)) 13 (by decide)) (va_cwS 2 hts gL_act_L_low rfl rfl rfl (by decide +kernel) ⟨Nat.le_of_ble_eq_true rfl, Nat.le_of_ble_eq_true rfl⟩) hK hP hD hS hA rfl rfl hl.1 rfl (lv_room (Nat.le_of_ble_eq_true rfl)) dL_act_12 ⟨Nat.le_of_ble_eq_true rfl, Nat.le_of_ble_eq_true rfl⟩ (fun H locs hP hD hS => ?_)
  refine lv_istore (lv' := [(4, .int (m_L_low (a2 >>> (4 &&& 31)) 13)), (3, .int (m_L_low a2 9)), (0, .ref x0), (1, .int 7), (2, .int a2)]) hx hb dL_act_15 hl (by decide) rfl (fun ls hl => ?_)
  refine lv_iload_n hx hb dL_act_17 rfl (lv_at hl 3 rfl) ?_
  refine lv_tableIn (off := 219) (tgt := 237) hx hb dL_act_18 (by decide +kernel) (by decide +kernel) (by decide +kernel) (by decide) ?_
  refine lv_aload_n hx hb dL_act_237 rfl (lv_at hl 2 rfl) ?_
  refine lv_iconst (v := 0) hx hb dL_act_238 (by decide) ?_
  refine lv_iload_n hx hb dL_act_239 rfl (lv_at hl 4 rfl) ?_
  refine lv_bipush (v := 6) hx hb dL_act_240 (by decide) ?_
  refine gl_Si0 (As := [.int a2, .int 6]) (rest := [.int 0, .ref x0]) ⟨hx, hb, hml, hown, hts⟩ (c_L_low l D _ a2 6 (by decide)) (va_cwS 2 hts gL_act_L_low rfl rfl rfl (by decide +kernel) ⟨Nat.le_of_ble_eq_true rfl, Nat.le_of_ble_eq_true rfl⟩) hK hP hD hS hA rfl rfl hl.1 rfl (lv_room (Nat.le_of_ble_eq_true rfl)) dL_act_242 ⟨Nat.le_of_ble_eq_true rfl, Nat.le_of_ble_eq_true rfl⟩ (fun H locs hP hD hS => ?_)
  obtain ⟨r_1, pe_2, e_3, hE_4, h⟩ := bw1_some h
  refine gl_W1 (As := [.ref x0, .int 0, .int (m_L_low a2 6)]) (rest := []) (wc := wX cI cJ x0 x1 x2 x3 x4 x5 x6 x7 x8 x9 g rm op rc ec su pe qt rs rn cs cn lc hc lg hg) (w1 := wX cI cJ x0 x1 x2 x3 x4 x5 x6 x7 x8 x9 g rm op rc ec su pe_2 qt rs rn cs cn lc hc lg hg) (wr := []) ⟨hx, hb, hml, hown, hts⟩ (c_L_setting0 l hst D cI cJ x0 x1 x2 x3 x4 x5 x6 x7 x8 x9 _ g rm op rc ec su pe qt rs rn cs cn lc hc lg hg (m_L_low a2 6) r_1 pe_2 e_3 hE_4) (vx_cwSW 3 hts gL_act_L_setting rfl rfl rfl (by decide +kernel) ⟨Nat.le_of_ble_eq_true rfl, Nat.le_of_ble_eq_true rfl⟩) hK hP hD hS hA hT [0, 1, 2, 3, 4, 5, 6, 7, 8, 9] [] rfl rfl (by decide) (by decide) rfl rfl rfl hl.1 rfl (lv_room (Nat.le_of_ble_eq_true rfl)) dL_act_245 ⟨Nat.le_of_ble_eq_true rfl, Nat.le_of_ble_eq_true rfl⟩ (fun H locs hP hD hS => ?_)
  have hP : va_P D vwCl (wX cI cJ x0 x1 x2 x3 x4 x5 x6 x7 x8 x9 g rm op rc ec su pe_2 qt rs rn cs cn lc hc lg hg) H := hP
  have hD : va_D A (wX cI cJ x0 x1 x2 x3 x4 x5 x6 x7 x8 x9 g rm op rc ec su pe_2 qt rs rn cs cn lc hc lg hg) := hD
  cases h
  exact W.iret hx hb hr (fun t ht hW => ⟨⟨_, (), rfl, rfl, by rw [ht]; exact hP, va_K.moved hW.alike hK, hD⟩, hS.F ht⟩) hS.2.2 dL_act_248
-- act 8
def m_L_act_k8 (g : Nat → Int32) (rm : Nat → Int32) (qt : Int32) (a2 : Int32) : Option ((Int32) × (Nat → Int32)) := (bw1 "java/lang/IndexOutOfBoundsException" "java/lang/IllegalStateException" (m_X0_review g rm qt (m_L_low a2 9) (m_L_low (a2 >>> (4 &&& 31)) 13)) (fun r_1 rm_2 => some ((wr2 "java/lang/IndexOutOfBoundsException" (-2) (-4) r_1), rm_2)))
set_option maxHeartbeats 8000000 in
set_option maxRecDepth 100000 in
theorem c_L_act_k8 (l : Launch) (hst : l.stackTraces = false) (D : va_G) (cI cJ : ClassId) (x0 x1 x2 x3 x4 x5 x6 x7 x8 x9 : Nat) (sz : Nat) (g : Nat → Int32) (rm : Nat → Int32) (op : Nat → Int32) (rc : Int32) (ec : Int32) (su : Int32) (pe : Int32) (qt : Int32) (rs : Nat → Int32) (rn : Int32) (cs : Nat → Int32) (cn : Int32) (lc : Nat → Int64) (hc : Nat → Int64) (lg : Nat → Int64) (hg : Nat → Int64) (a2 : Int32) (r0 : Int32) (rm' : Nat → Int32) (h : m_L_act_k8 g rm qt a2 = some (r0, rm')) : Met l yL_act wsL_act ({ frames := 8, cells := 1, slots := 6, locals := 142 }) (va_Pc [.ref x0, .int 8, .int a2] (bx_PreL D [(cI, .int), (cJ, .long)] (wX cI cJ x0 x1 x2 x3 x4 x5 x6 x7 x8 x9 g rm op rc ec su pe qt rs rn cs cn lc hc lg hg) sz)) (va_Qi (fun (r : Int32) (_ : Unit) => r = r0) (fun (_ : Unit) t => bx_Post D [(cI, .int), (cJ, .long)] (wX cI cJ x0 x1 x2 x3 x4 x5 x6 x7 x8 x9 g rm' op rc ec su pe qt rs rn cs cn lc hc lg hg) (va_A (wX cI cJ x0 x1 x2 x3 x4 x5 x6 x7 x8 x9 g rm op rc ec su pe qt rs rn cs cn lc hc lg hg) sz) t) (va_A (wX cI cJ x0 x1 x2 x3 x4 x5 x6 x7 x8 x9 g rm op rc ec su pe qt rs rn cs cn lc hc lg hg) sz)) 1 6 (va_A (wX cI cJ x0 x1 x2 x3 x4 x5 x6 x7 x8 x9 g rm op rc ec su pe qt rs rn cs cn lc hc lg hg) sz) := by
  refine Met.ofW (cc := cL_act) (maxL := 5) (ret := (some .int)) (by decide) rfl ?_
  intro p e s m args below meth c s₁ B hml hv
  obtain ⟨rfl, hsz, hP, hK, hD0, hT⟩ := hv
  have hx := B.exec
  have hb := B.bytes
  have hr := B.returns
  have hts := atoms_spec (ws := wsL_act) B.pre
  have hown : s.vm.findClass RL = some m.cls := findClass_of_methodNamed B.named
  have hlocks := B.notSynchronized
  subst hsz
  have hD := hD0.self (sz := s.heap.size)
  generalize hAe : va_A (wX cI cJ x0 x1 x2 x3 x4 x5 x6 x7 x8 x9 g rm op rc ec su pe qt rs rn cs cn lc hc lg hg) s.heap.size = A at hD hT ⊢
  have hA : ∀ q : Nat, s.heap.size ≤ q → A q := fun q h9 => by rw [← hAe]; exact Or.inr h9
  have hS : va_S A s.heap s.heap [] := va_S.rf
  have hl := lv_entry ([.ref x0, .int 8, .int a2]) (n := 5) (Nat.le_of_ble_eq_true rfl)
  rw [lg_entry_eq]
  generalize (lg_sl ([.ref x0, .int 8, .int a2]) ++ List.replicate (5 - (lg_sl ([.ref x0, .int 8, .int a2])).length) Slot.unset).toArray = ls at hl ⊢
  have hl : lv_has ls 5 [(0, .ref x0), (1, .int 8), (2, .int a2)] := hl
  rw [m_L_act_k8] at h
  refine lv_iload_n hx hb dL_act_0 rfl (lv_at hl 2 rfl) ?_
  refine lv_bipush (v := 9) hx hb dL_act_1 (by decide) ?_
  refine gl_Si0 (As := [.int a2, .int 9]) (rest := []) ⟨hx, hb, hml, hown, hts⟩ (c_L_low l D _ a2 9 (by decide)) (va_cwS 2 hts gL_act_L_low rfl rfl rfl (by decide +kernel) ⟨Nat.le_of_ble_eq_true rfl, Nat.le_of_ble_eq_true rfl⟩) hK hP hD hS hA rfl rfl hl.1 rfl (lv_room (Nat.le_of_ble_eq_true rfl)) dL_act_3 ⟨Nat.le_of_ble_eq_true rfl, Nat.le_of_ble_eq_true rfl⟩ (fun H locs hP hD hS => ?_)
  refine lv_istore_n (lv' := [(3, .int (m_L_low a2 9)), (0, .ref x0), (1, .int 8), (2, .int a2)]) hx hb dL_act_6 rfl hl (by decide) rfl (fun ls hl => ?_)
  refine lv_iload_n hx hb dL_act_7 rfl (lv_at hl 3 rfl) ?_
  refine lv_iconst (v := 4) hx hb dL_act_8 (by decide) ?_
  refine lv_ishr hx hb dL_act_9 ?_
  refine lv_bipush (v := 13) hx hb dL_act_10 (by decide) ?_
  refine gl_Si0 (As := [.int (a2 >>> (4 &&& 31)), .int 13]) (rest := []) ⟨hx, hb, hml, hown, hts⟩ (c_L_low l D _ (a2 >>> (4 &&& 31)) 13 (by decide)) (va_cwS 2 hts gL_act_L_low rfl rfl rfl (by decide +kernel) ⟨Nat.le_of_ble_eq_true rfl, Nat.le_of_ble_eq_true rfl⟩) hK hP hD hS hA rfl rfl hl.1 rfl (lv_room (Nat.le_of_ble_eq_true rfl)) dL_act_12 ⟨Nat.le_of_ble_eq_true rfl, Nat.le_of_ble_eq_true rfl⟩ (fun H locs hP hD hS => ?_)
  refine lv_istore (lv' := [(4, .int (m_L_low (a2 >>> (4 &&& 31)) 13)), (3, .int (m_L_low a2 9)), (0, .ref x0), (1, .int 8), (2, .int a2)]) hx hb dL_act_15 hl (by decide) rfl (fun ls hl => ?_)
  refine lv_iload_n hx hb dL_act_17 rfl (lv_at hl 3 rfl) ?_
  refine lv_tableIn (off := 231) (tgt := 249) hx hb dL_act_18 (by decide +kernel) (by decide +kernel) (by decide +kernel) (by decide) ?_
  refine lv_aload_n hx hb dL_act_249 rfl (lv_at hl 2 rfl) ?_
  refine lv_iload_n hx hb dL_act_250 rfl (lv_at hl 1 rfl) ?_
  refine lv_iload hx hb dL_act_251 (lv_at hl 0 rfl) ?_
  obtain ⟨r_1, rm_2, e_3, hE_4, h⟩ := bw1_some h
  refine gl_W1 (As := [.ref x0, .int (m_L_low a2 9), .int (m_L_low (a2 >>> (4 &&& 31)) 13)]) (rest := []) (wc := wX cI cJ x0 x1 x2 x3 x4 x5 x6 x7 x8 x9 g rm op rc ec su pe qt rs rn cs cn lc hc lg hg) (w1 := wX cI cJ x0 x1 x2 x3 x4 x5 x6 x7 x8 x9 g rm_2 op rc ec su pe qt rs rn cs cn lc hc lg hg) (wr := []) ⟨hx, hb, hml, hown, hts⟩ (c_L_review l hst D cI cJ x0 x1 x2 x3 x4 x5 x6 x7 x8 x9 _ g rm op rc ec su pe qt rs rn cs cn lc hc lg hg (m_L_low a2 9) (m_L_low (a2 >>> (4 &&& 31)) 13) r_1 rm_2 e_3 hE_4) (vx_cwSW 3 hts gL_act_L_review rfl rfl rfl (by decide +kernel) ⟨Nat.le_of_ble_eq_true rfl, Nat.le_of_ble_eq_true rfl⟩) hK hP hD hS hA hT [0, 1, 2, 3, 4, 5, 6, 7, 8, 9] [] rfl rfl (by decide) (by decide) rfl rfl rfl hl.1 rfl (lv_room (Nat.le_of_ble_eq_true rfl)) dL_act_253 ⟨Nat.le_of_ble_eq_true rfl, Nat.le_of_ble_eq_true rfl⟩ (fun H locs hP hD hS => ?_)
  have hP : va_P D vwCl (wX cI cJ x0 x1 x2 x3 x4 x5 x6 x7 x8 x9 g rm_2 op rc ec su pe qt rs rn cs cn lc hc lg hg) H := hP
  have hD : va_D A (wX cI cJ x0 x1 x2 x3 x4 x5 x6 x7 x8 x9 g rm_2 op rc ec su pe qt rs rn cs cn lc hc lg hg) := hD
  cases h
  exact W.iret hx hb hr (fun t ht hW => ⟨⟨_, (), rfl, rfl, by rw [ht]; exact hP, va_K.moved hW.alike hK, hD⟩, hS.F ht⟩) hS.2.2 dL_act_256
-- act 9
def m_L_act_k9 (fu : Nat) (g : Nat → Int32) (rm : Nat → Int32) (pe : Int32) (qt : Int32) (a2 : Int32) : Option ((Int32) × (Nat → Int32) × (Int32)) := (bw2 "java/lang/IllegalStateException" "java/lang/IllegalStateException" (m_X0_nextQuarter fu g rm pe qt) (fun r_1 g_2 qt_3 => some ((wr1 (-4) r_1), g_2, qt_3)))
set_option maxHeartbeats 8000000 in
set_option maxRecDepth 100000 in
theorem c_L_act_k9 (l : Launch) (hst : l.stackTraces = false) (D : va_G) (cI cJ : ClassId) (x0 x1 x2 x3 x4 x5 x6 x7 x8 x9 : Nat) (sz : Nat) (g : Nat → Int32) (rm : Nat → Int32) (op : Nat → Int32) (rc : Int32) (ec : Int32) (su : Int32) (pe : Int32) (qt : Int32) (rs : Nat → Int32) (rn : Int32) (cs : Nat → Int32) (cn : Int32) (lc : Nat → Int64) (hc : Nat → Int64) (lg : Nat → Int64) (hg : Nat → Int64) (fu : Nat) (a2 : Int32) (r0 : Int32) (g' : Nat → Int32) (qt' : Int32) (h : m_L_act_k9 fu g rm pe qt a2 = some (r0, g', qt')) : Met l yL_act wsL_act ({ frames := 8, cells := 1, slots := 6, locals := 142 }) (va_Pc [.ref x0, .int 9, .int a2] (bx_PreL D [(cI, .int), (cJ, .long)] (wX cI cJ x0 x1 x2 x3 x4 x5 x6 x7 x8 x9 g rm op rc ec su pe qt rs rn cs cn lc hc lg hg) sz)) (va_Qi (fun (r : Int32) (_ : Unit) => r = r0) (fun (_ : Unit) t => bx_Post D [(cI, .int), (cJ, .long)] (wX cI cJ x0 x1 x2 x3 x4 x5 x6 x7 x8 x9 g' rm op rc ec su pe qt' rs rn cs cn lc hc lg hg) (va_A (wX cI cJ x0 x1 x2 x3 x4 x5 x6 x7 x8 x9 g rm op rc ec su pe qt rs rn cs cn lc hc lg hg) sz) t) (va_A (wX cI cJ x0 x1 x2 x3 x4 x5 x6 x7 x8 x9 g rm op rc ec su pe qt rs rn cs cn lc hc lg hg) sz)) 1 6 (va_A (wX cI cJ x0 x1 x2 x3 x4 x5 x6 x7 x8 x9 g rm op rc ec su pe qt rs rn cs cn lc hc lg hg) sz) := by
  refine Met.ofW (cc := cL_act) (maxL := 5) (ret := (some .int)) (by decide) rfl ?_
  intro p e s m args below meth c s₁ B hml hv
  obtain ⟨rfl, hsz, hP, hK, hD0, hT⟩ := hv
  have hx := B.exec
  have hb := B.bytes
  have hr := B.returns
  have hts := atoms_spec (ws := wsL_act) B.pre
  have hown : s.vm.findClass RL = some m.cls := findClass_of_methodNamed B.named
  have hlocks := B.notSynchronized
  subst hsz
  have hD := hD0.self (sz := s.heap.size)
  generalize hAe : va_A (wX cI cJ x0 x1 x2 x3 x4 x5 x6 x7 x8 x9 g rm op rc ec su pe qt rs rn cs cn lc hc lg hg) s.heap.size = A at hD hT ⊢
  have hA : ∀ q : Nat, s.heap.size ≤ q → A q := fun q h9 => by rw [← hAe]; exact Or.inr h9
  have hS : va_S A s.heap s.heap [] := va_S.rf
  have hl := lv_entry ([.ref x0, .int 9, .int a2]) (n := 5) (Nat.le_of_ble_eq_true rfl)
  rw [lg_entry_eq]
  generalize (lg_sl ([.ref x0, .int 9, .int a2]) ++ List.replicate (5 - (lg_sl ([.ref x0, .int 9, .int a2])).length) Slot.unset).toArray = ls at hl ⊢
  have hl : lv_has ls 5 [(0, .ref x0), (1, .int 9), (2, .int a2)] := hl
  rw [m_L_act_k9] at h
  refine lv_iload_n hx hb dL_act_0 rfl (lv_at hl 2 rfl) ?_
  refine lv_bipush (v := 9) hx hb dL_act_1 (by decide) ?_
  refine gl_Si0 (As := [.int a2, .int 9]) (rest := []) ⟨hx, hb, hml, hown, hts⟩ (c_L_low l D _ a2 9 (by decide)) (va_cwS 2 hts gL_act_L_low rfl rfl rfl (by decide +kernel) ⟨Nat.le_of_ble_eq_true rfl, Nat.le_of_ble_eq_true rfl⟩) hK hP hD hS hA rfl rfl hl.1 rfl (lv_room (Nat.le_of_ble_eq_true rfl)) dL_act_3 ⟨Nat.le_of_ble_eq_true rfl, Nat.le_of_ble_eq_true rfl⟩ (fun H locs hP hD hS => ?_)
  refine lv_istore_n (lv' := [(3, .int (m_L_low a2 9)), (0, .ref x0), (1, .int 9), (2, .int a2)]) hx hb dL_act_6 rfl hl (by decide) rfl (fun ls hl => ?_)
  refine lv_iload_n hx hb dL_act_7 rfl (lv_at hl 3 rfl) ?_
  refine lv_iconst (v := 4) hx hb dL_act_8 (by decide) ?_
  refine lv_ishr hx hb dL_act_9 ?_
  refine lv_bipush (v := 13) hx hb dL_act_10 (by decide) ?_
  refine gl_Si0 (As := [.int (a2 >>> (4 &&& 31)), .int 13]) (rest := []) ⟨hx, hb, hml, hown, hts⟩ (c_L_low l D _ (a2 >>> (4 &&& 31)) 13 (by decide)) (va_cwS 2 hts gL_act_L_low rfl rfl rfl (by decide +kernel) ⟨Nat.le_of_ble_eq_true rfl, Nat.le_of_ble_eq_true rfl⟩) hK hP hD hS hA rfl rfl hl.1 rfl (lv_room (Nat.le_of_ble_eq_true rfl)) dL_act_12 ⟨Nat.le_of_ble_eq_true rfl, Nat.le_of_ble_eq_true rfl⟩ (fun H locs hP hD hS => ?_)
  refine lv_istore (lv' := [(4, .int (m_L_low (a2 >>> (4 &&& 31)) 13)), (3, .int (m_L_low a2 9)), (0, .ref x0), (1, .int 9), (2, .int a2)]) hx hb dL_act_15 hl (by decide) rfl (fun ls hl => ?_)
  refine lv_iload_n hx hb dL_act_17 rfl (lv_at hl 3 rfl) ?_
  refine lv_tableIn (off := 239) (tgt := 257) hx hb dL_act_18 (by decide +kernel) (by decide +kernel) (by decide +kernel) (by decide) ?_
  refine lv_aload_n hx hb dL_act_257 rfl (lv_at hl 2 rfl) ?_
  obtain ⟨r_1, g_2, qt_3, e_4, hE_5, h⟩ := bw2_some h
  refine gl_W1 (As := [.ref x0]) (rest := []) (wc := wX cI cJ x0 x1 x2 x3 x4 x5 x6 x7 x8 x9 g rm op rc ec su pe qt rs rn cs cn lc hc lg hg) (w1 := wX cI cJ x0 x1 x2 x3 x4 x5 x6 x7 x8 x9 g_2 rm op rc ec su pe qt_3 rs rn cs cn lc hc lg hg) (wr := []) ⟨hx, hb, hml, hown, hts⟩ (c_L_quarter l hst D cI cJ x0 x1 x2 x3 x4 x5 x6 x7 x8 x9 _ g rm op rc ec su pe qt rs rn cs cn lc hc lg hg fu  r_1 g_2 qt_3 e_4 hE_5) (vx_cwSW 1 hts gL_act_L_quarter rfl rfl rfl (by decide +kernel) ⟨Nat.le_of_ble_eq_true rfl, Nat.le_of_ble_eq_true rfl⟩) hK hP hD hS hA hT [0, 1, 2, 3, 4, 5, 6, 7, 8, 9] [] rfl rfl (by decide) (by decide) rfl rfl rfl hl.1 rfl (lv_room (Nat.le_of_ble_eq_true rfl)) dL_act_258 ⟨Nat.le_of_ble_eq_true rfl, Nat.le_of_ble_eq_true rfl⟩ (fun H locs hP hD hS => ?_)
  have hP : va_P D vwCl (wX cI cJ x0 x1 x2 x3 x4 x5 x6 x7 x8 x9 g_2 rm op rc ec su pe qt_3 rs rn cs cn lc hc lg hg) H := hP
  have hD : va_D A (wX cI cJ x0 x1 x2 x3 x4 x5 x6 x7 x8 x9 g_2 rm op rc ec su pe qt_3 rs rn cs cn lc hc lg hg) := hD
  cases h
  exact W.iret hx hb hr (fun t ht hW => ⟨⟨_, (), rfl, rfl, by rw [ht]; exact hP, va_K.moved hW.alike hK, hD⟩, hS.F ht⟩) hS.2.2 dL_act_261
-- act 10
def m_L_act_k10 (fu : Nat) (g : Nat → Int32) (op : Nat → Int32) (rc : Int32) (ec : Int32) (su : Int32) (rs : Nat → Int32) (rn : Int32) (cs : Nat → Int32) (cn : Int32) (lc : Nat → Int64) (hc : Nat → Int64) (lg : Nat → Int64) (hg : Nat → Int64) (a2 : Int32) : Option ((Int32) × (Nat → Int32) × (Int32) × (Nat → Int32) × (Int32) × (Nat → Int64) × (Nat → Int64) × (Nat → Int64) × (Nat → Int64)) := (bnd9 (m_X0_mineGreedily fu g op rc ec su rs rn cs cn lc hc lg hg) (fun r_1 rs_2 rn_3 cs_4 cn_5 lc_6 hc_7 lg_8 hg_9 => some (r_1, rs_2, rn_3, cs_4, cn_5, lc_6, hc_7, lg_8, hg_9)))
set_option maxHeartbeats 8000000 in
set_option maxRecDepth 100000 in
theorem c_L_act_k10 (l : Launch) (hst : l.stackTraces = false) (D : va_G) (cI cJ : ClassId) (x0 x1 x2 x3 x4 x5 x6 x7 x8 x9 : Nat) (sz : Nat) (g : Nat → Int32) (rm : Nat → Int32) (op : Nat → Int32) (rc : Int32) (ec : Int32) (su : Int32) (pe : Int32) (qt : Int32) (rs : Nat → Int32) (rn : Int32) (cs : Nat → Int32) (cn : Int32) (lc : Nat → Int64) (hc : Nat → Int64) (lg : Nat → Int64) (hg : Nat → Int64) (fu : Nat) (a2 : Int32) (r0 : Int32) (rs' : Nat → Int32) (rn' : Int32) (cs' : Nat → Int32) (cn' : Int32) (lc' : Nat → Int64) (hc' : Nat → Int64) (lg' : Nat → Int64) (hg' : Nat → Int64) (h : m_L_act_k10 fu g op rc ec su rs rn cs cn lc hc lg hg a2 = some (r0, rs', rn', cs', cn', lc', hc', lg', hg')) : Met l yL_act wsL_act ({ frames := 8, cells := 1, slots := 6, locals := 142 }) (va_Pc [.ref x0, .int 10, .int a2] (bx_PreL D [(cI, .int), (cJ, .long)] (wX cI cJ x0 x1 x2 x3 x4 x5 x6 x7 x8 x9 g rm op rc ec su pe qt rs rn cs cn lc hc lg hg) sz)) (va_Qi (fun (r : Int32) (_ : Unit) => r = r0) (fun (_ : Unit) t => bx_Post D [(cI, .int), (cJ, .long)] (wX cI cJ x0 x1 x2 x3 x4 x5 x6 x7 x8 x9 g rm op rc ec su pe qt rs' rn' cs' cn' lc' hc' lg' hg') (va_A (wX cI cJ x0 x1 x2 x3 x4 x5 x6 x7 x8 x9 g rm op rc ec su pe qt rs rn cs cn lc hc lg hg) sz) t) (va_A (wX cI cJ x0 x1 x2 x3 x4 x5 x6 x7 x8 x9 g rm op rc ec su pe qt rs rn cs cn lc hc lg hg) sz)) 1 6 (va_A (wX cI cJ x0 x1 x2 x3 x4 x5 x6 x7 x8 x9 g rm op rc ec su pe qt rs rn cs cn lc hc lg hg) sz) := by
  refine Met.ofW (cc := cL_act) (maxL := 5) (ret := (some .int)) (by decide) rfl ?_
  intro p e s m args below meth c s₁ B hml hv
  obtain ⟨rfl, hsz, hP, hK, hD0, hT⟩ := hv
  have hx := B.exec
  have hb := B.bytes
  have hr := B.returns
  have hts := atoms_spec (ws := wsL_act) B.pre
  have hown : s.vm.findClass RL = some m.cls := findClass_of_methodNamed B.named
  have hlocks := B.notSynchronized
  subst hsz
  have hD := hD0.self (sz := s.heap.size)
  generalize hAe : va_A (wX cI cJ x0 x1 x2 x3 x4 x5 x6 x7 x8 x9 g rm op rc ec su pe qt rs rn cs cn lc hc lg hg) s.heap.size = A at hD hT ⊢
  have hA : ∀ q : Nat, s.heap.size ≤ q → A q := fun q h9 => by rw [← hAe]; exact Or.inr h9
  have hS : va_S A s.heap s.heap [] := va_S.rf
  have hl := lv_entry ([.ref x0, .int 10, .int a2]) (n := 5) (Nat.le_of_ble_eq_true rfl)
  rw [lg_entry_eq]
  generalize (lg_sl ([.ref x0, .int 10, .int a2]) ++ List.replicate (5 - (lg_sl ([.ref x0, .int 10, .int a2])).length) Slot.unset).toArray = ls at hl ⊢
  have hl : lv_has ls 5 [(0, .ref x0), (1, .int 10), (2, .int a2)] := hl
  rw [m_L_act_k10] at h
  refine lv_iload_n hx hb dL_act_0 rfl (lv_at hl 2 rfl) ?_
  refine lv_bipush (v := 9) hx hb dL_act_1 (by decide) ?_
  refine gl_Si0 (As := [.int a2, .int 9]) (rest := []) ⟨hx, hb, hml, hown, hts⟩ (c_L_low l D _ a2 9 (by decide)) (va_cwS 2 hts gL_act_L_low rfl rfl rfl (by decide +kernel) ⟨Nat.le_of_ble_eq_true rfl, Nat.le_of_ble_eq_true rfl⟩) hK hP hD hS hA rfl rfl hl.1 rfl (lv_room (Nat.le_of_ble_eq_true rfl)) dL_act_3 ⟨Nat.le_of_ble_eq_true rfl, Nat.le_of_ble_eq_true rfl⟩ (fun H locs hP hD hS => ?_)
  refine lv_istore_n (lv' := [(3, .int (m_L_low a2 9)), (0, .ref x0), (1, .int 10), (2, .int a2)]) hx hb dL_act_6 rfl hl (by decide) rfl (fun ls hl => ?_)
  refine lv_iload_n hx hb dL_act_7 rfl (lv_at hl 3 rfl) ?_
  refine lv_iconst (v := 4) hx hb dL_act_8 (by decide) ?_
  refine lv_ishr hx hb dL_act_9 ?_
  refine lv_bipush (v := 13) hx hb dL_act_10 (by decide) ?_
  refine gl_Si0 (As := [.int (a2 >>> (4 &&& 31)), .int 13]) (rest := []) ⟨hx, hb, hml, hown, hts⟩ (c_L_low l D _ (a2 >>> (4 &&& 31)) 13 (by decide)) (va_cwS 2 hts gL_act_L_low rfl rfl rfl (by decide +kernel) ⟨Nat.le_of_ble_eq_true rfl, Nat.le_of_ble_eq_true rfl⟩) hK hP hD hS hA rfl rfl hl.1 rfl (lv_room (Nat.le_of_ble_eq_true rfl)) dL_act_12 ⟨Nat.le_of_ble_eq_true rfl, Nat.le_of_ble_eq_true rfl⟩ (fun H locs hP hD hS => ?_)
  refine lv_istore (lv' := [(4, .int (m_L_low (a2 >>> (4 &&& 31)) 13)), (3, .int (m_L_low a2 9)), (0, .ref x0), (1, .int 10), (2, .int a2)]) hx hb dL_act_15 hl (by decide) rfl (fun ls hl => ?_)
  refine lv_iload_n hx hb dL_act_17 rfl (lv_at hl 3 rfl) ?_
  refine lv_tableIn (off := 244) (tgt := 262) hx hb dL_act_18 (by decide +kernel) (by decide +kernel) (by decide +kernel) (by decide) ?_
  refine lv_aload_n hx hb dL_act_262 rfl (lv_at hl 2 rfl) ?_
  obtain ⟨r_1, rs_2, rn_3, cs_4, cn_5, lc_6, hc_7, lg_8, hg_9, e_10, h⟩ := bnd9_some h
  refine gl_Vi (As := []) (rest := []) (wc := wX cI cJ x0 x1 x2 x3 x4 x5 x6 x7 x8 x9 g rm op rc ec su pe qt rs rn cs cn lc hc lg hg) (w1 := wX cI cJ x0 x1 x2 x3 x4 x5 x6 x7 x8 x9 g rm op rc ec su pe qt rs_2 rn_3 cs_4 cn_5 lc_6 hc_7 lg_8 hg_9) (wr := []) ⟨hx, hb, hml, hown, hts⟩ (c_X0_mineGreedily l D cI cJ x0 x1 x2 x3 x4 x5 x6 x7 x8 x9 _ g rm op rc ec su pe qt rs rn cs cn lc hc lg hg fu  r_1 rs_2 rn_3 cs_4 cn_5 lc_6 hc_7 lg_8 hg_9 e_10) (cwV 0 hts gL_act_X0_mineGreedily rfl rfl rfl (by decide +kernel) ⟨Nat.le_of_ble_eq_true rfl, Nat.le_of_ble_eq_true rfl⟩) hK hP hD hS hA [0, 1, 2, 3, 4, 5, 6, 7, 8, 9] [] rfl rfl (by decide) (by decide) rfl rfl rfl rfl rfl hl.1 rfl (lv_room (Nat.le_of_ble_eq_true rfl)) dL_act_263 ⟨Nat.le_of_ble_eq_true rfl, Nat.le_of_ble_eq_true rfl⟩ (fun H locs hP hD hS => ?_)
  have hP : va_P D vwCl (wX cI cJ x0 x1 x2 x3 x4 x5 x6 x7 x8 x9 g rm op rc ec su pe qt rs_2 rn_3 cs_4 cn_5 lc_6 hc_7 lg_8 hg_9) H := hP
  have hD : va_D A (wX cI cJ x0 x1 x2 x3 x4 x5 x6 x7 x8 x9 g rm op rc ec su pe qt rs_2 rn_3 cs_4 cn_5 lc_6 hc_7 lg_8 hg_9) := hD
  cases h
  refine W.widen (k := 1) (n := 6) (Nat.le_of_ble_eq_true rfl) (Nat.le_of_ble_eq_true rfl) ?_
  exact W.iret hx hb hr (fun t ht hW => ⟨⟨_, (), rfl, rfl, by rw [ht]; exact hP, va_K.moved hW.alike hK, hD⟩, hS.F ht⟩) hS.2.2 dL_act_266
-- act 11
def m_L_act_k11 (fu : Nat) (g : Nat → Int32) (op : Nat → Int32) (rc : Int32) (ec : Int32) (su : Int32) (rs : Nat → Int32) (rn : Int32) (cs : Nat → Int32) (cn : Int32) (lc : Nat → Int64) (hc : Nat → Int64) (lg : Nat → Int64) (hg : Nat → Int64) (a2 : Int32) : Option ((Int32) × (Nat → Int32) × (Int32) × (Nat → Int32) × (Int32) × (Nat → Int64) × (Nat → Int64) × (Nat → Int64) × (Nat → Int64)) := (bw8 "java/lang/IllegalStateException" "java/lang/IllegalStateException" (m_X0_mineBest fu g op rc ec su rs rn cs cn lc hc lg hg) (fun r_1 rs_2 rn_3 cs_4 cn_5 lc_6 hc_7 lg_8 hg_9 => some ((wr1 (-4) r_1), rs_2, rn_3, cs_4, cn_5, lc_6, hc_7, lg_8, hg_9)))
set_option maxHeartbeats 8000000 in
set_option maxRecDepth 100000 in
theorem c_L_act_k11 (l : Launch) (hst : l.stackTraces = false) (D : va_G) (cI cJ : ClassId) (x0 x1 x2 x3 x4 x5 x6 x7 x8 x9 : Nat) (sz : Nat) (g : Nat → Int32) (rm : Nat → Int32) (op : Nat → Int32) (rc : Int32) (ec : Int32) (su : Int32) (pe : Int32) (qt : Int32) (rs : Nat → Int32) (rn : Int32) (cs : Nat → Int32) (cn : Int32) (lc : Nat → Int64) (hc : Nat → Int64) (lg : Nat → Int64) (hg : Nat → Int64) (fu : Nat) (a2 : Int32) (r0 : Int32) (rs' : Nat → Int32) (rn' : Int32) (cs' : Nat → Int32) (cn' : Int32) (lc' : Nat → Int64) (hc' : Nat → Int64) (lg' : Nat → Int64) (hg' : Nat → Int64) (h : m_L_act_k11 fu g op rc ec su rs rn cs cn lc hc lg hg a2 = some (r0, rs', rn', cs', cn', lc', hc', lg', hg')) : Met l yL_act wsL_act ({ frames := 8, cells := 1, slots := 6, locals := 142 }) (va_Pc [.ref x0, .int 11, .int a2] (bx_PreL D [(cI, .int), (cJ, .long)] (wX cI cJ x0 x1 x2 x3 x4 x5 x6 x7 x8 x9 g rm op rc ec su pe qt rs rn cs cn lc hc lg hg) sz)) (va_Qi (fun (r : Int32) (_ : Unit) => r = r0) (fun (_ : Unit) t => bx_Post D [(cI, .int), (cJ, .long)] (wX cI cJ x0 x1 x2 x3 x4 x5 x6 x7 x8 x9 g rm op rc ec su pe qt rs' rn' cs' cn' lc' hc' lg' hg') (va_A (wX cI cJ x0 x1 x2 x3 x4 x5 x6 x7 x8 x9 g rm op rc ec su pe qt rs rn cs cn lc hc lg hg) sz) t) (va_A (wX cI cJ x0 x1 x2 x3 x4 x5 x6 x7 x8 x9 g rm op rc ec su pe qt rs rn cs cn lc hc lg hg) sz)) 1 6 (va_A (wX cI cJ x0 x1 x2 x3 x4 x5 x6 x7 x8 x9 g rm op rc ec su pe qt rs rn cs cn lc hc lg hg) sz) := by
  refine Met.ofW (cc := cL_act) (maxL := 5) (ret := (some .int)) (by decide) rfl ?_
  intro p e s m args below meth c s₁ B hml hv
  obtain ⟨rfl, hsz, hP, hK, hD0, hT⟩ := hv
  have hx := B.exec
  have hb := B.bytes
  have hr := B.returns
  have hts := atoms_spec (ws := wsL_act) B.pre
  have hown : s.vm.findClass RL = some m.cls := findClass_of_methodNamed B.named
  have hlocks := B.notSynchronized
  subst hsz
  have hD := hD0.self (sz := s.heap.size)
  generalize hAe : va_A (wX cI cJ x0 x1 x2 x3 x4 x5 x6 x7 x8 x9 g rm op rc ec su pe qt rs rn cs cn lc hc lg hg) s.heap.size = A at hD hT ⊢
  have hA : ∀ q : Nat, s.heap.size ≤ q → A q := fun q h9 => by rw [← hAe]; exact Or.inr h9
  have hS : va_S A s.heap s.heap [] := va_S.rf
  have hl := lv_entry ([.ref x0, .int 11, .int a2]) (n := 5) (Nat.le_of_ble_eq_true rfl)
  rw [lg_entry_eq]
  generalize (lg_sl ([.ref x0, .int 11, .int a2]) ++ List.replicate (5 - (lg_sl ([.ref x0, .int 11, .int a2])).length) Slot.unset).toArray = ls at hl ⊢
  have hl : lv_has ls 5 [(0, .ref x0), (1, .int 11), (2, .int a2)] := hl
  rw [m_L_act_k11] at h
  refine lv_iload_n hx hb dL_act_0 rfl (lv_at hl 2 rfl) ?_
  refine lv_bipush (v := 9) hx hb dL_act_1 (by decide) ?_
  refine gl_Si0 (As := [.int a2, .int 9]) (rest := []) ⟨hx, hb, hml, hown, hts⟩ (c_L_low l D _ a2 9 (by decide)) (va_cwS 2 hts gL_act_L_low rfl rfl rfl (by decide +kernel) ⟨Nat.le_of_ble_eq_true rfl, Nat.le_of_ble_eq_true rfl⟩) hK hP hD hS hA rfl rfl hl.1 rfl (lv_room (Nat.le_of_ble_eq_true rfl)) dL_act_3 ⟨Nat.le_of_ble_eq_true rfl, Nat.le_of_ble_eq_true rfl⟩ (fun H locs hP hD hS => ?_)
  refine lv_istore_n (lv' := [(3, .int (m_L_low a2 9)), (0, .ref x0), (1, .int 11), (2, .int a2)]) hx hb dL_act_6 rfl hl (by decide) rfl (fun ls hl => ?_)
  refine lv_iload_n hx hb dL_act_7 rfl (lv_at hl 3 rfl) ?_
  refine lv_iconst (v := 4) hx hb dL_act_8 (by decide) ?_
  refine lv_ishr hx hb dL_act_9 ?_
  refine lv_bipush (v := 13) hx hb dL_act_10 (by decide) ?_
  refine gl_Si0 (As := [.int (a2 >>> (4 &&& 31)), .int 13]) (rest := []) ⟨hx, hb, hml, hown, hts⟩ (c_L_low l D _ (a2 >>> (4 &&& 31)) 13 (by decide)) (va_cwS 2 hts gL_act_L_low rfl rfl rfl (by decide +kernel) ⟨Nat.le_of_ble_eq_true rfl, Nat.le_of_ble_eq_true rfl⟩) hK hP hD hS hA rfl rfl hl.1 rfl (lv_room (Nat.le_of_ble_eq_true rfl)) dL_act_12 ⟨Nat.le_of_ble_eq_true rfl, Nat.le_of_ble_eq_true rfl⟩ (fun H locs hP hD hS => ?_)
  refine lv_istore (lv' := [(4, .int (m_L_low (a2 >>> (4 &&& 31)) 13)), (3, .int (m_L_low a2 9)), (0, .ref x0), (1, .int 11), (2, .int a2)]) hx hb dL_act_15 hl (by decide) rfl (fun ls hl => ?_)
  refine lv_iload_n hx hb dL_act_17 rfl (lv_at hl 3 rfl) ?_
  refine lv_tableIn (off := 249) (tgt := 267) hx hb dL_act_18 (by decide +kernel) (by decide +kernel) (by decide +kernel) (by decide) ?_
  refine lv_aload_n hx hb dL_act_267 rfl (lv_at hl 2 rfl) ?_
  obtain ⟨r_1, rs_2, rn_3, cs_4, cn_5, lc_6, hc_7, lg_8, hg_9, e_10, hE_11, h⟩ := bw8_some h
  refine gl_W1 (As := [.ref x0]) (rest := []) (wc := wX cI cJ x0 x1 x2 x3 x4 x5 x6 x7 x8 x9 g rm op rc ec su pe qt rs rn cs cn lc hc lg hg) (w1 := wX cI cJ x0 x1 x2 x3 x4 x5 x6 x7 x8 x9 g rm op rc ec su pe qt rs_2 rn_3 cs_4 cn_5 lc_6 hc_7 lg_8 hg_9) (wr := []) ⟨hx, hb, hml, hown, hts⟩ (c_L_best l hst D cI cJ x0 x1 x2 x3 x4 x5 x6 x7 x8 x9 _ g rm op rc ec su pe qt rs rn cs cn lc hc lg hg fu  r_1 rs_2 rn_3 cs_4 cn_5 lc_6 hc_7 lg_8 hg_9 e_10 hE_11) (vx_cwSW 1 hts gL_act_L_best rfl rfl rfl (by decide +kernel) ⟨Nat.le_of_ble_eq_true rfl, Nat.le_of_ble_eq_true rfl⟩) hK hP hD hS hA hT [0, 1, 2, 3, 4, 5, 6, 7, 8, 9] [] rfl rfl (by decide) (by decide) rfl rfl rfl hl.1 rfl (lv_room (Nat.le_of_ble_eq_true rfl)) dL_act_268 ⟨Nat.le_of_ble_eq_true rfl, Nat.le_of_ble_eq_true rfl⟩ (fun H locs hP hD hS => ?_)
  have hP : va_P D vwCl (wX cI cJ x0 x1 x2 x3 x4 x5 x6 x7 x8 x9 g rm op rc ec su pe qt rs_2 rn_3 cs_4 cn_5 lc_6 hc_7 lg_8 hg_9) H := hP
  have hD : va_D A (wX cI cJ x0 x1 x2 x3 x4 x5 x6 x7 x8 x9 g rm op rc ec su pe qt rs_2 rn_3 cs_4 cn_5 lc_6 hc_7 lg_8 hg_9) := hD
  cases h
  exact W.iret hx hb hr (fun t ht hW => ⟨⟨_, (), rfl, rfl, by rw [ht]; exact hP, va_K.moved hW.alike hK, hD⟩, hS.F ht⟩) hS.2.2 dL_act_271
-- act 12
def m_L_act_k12 (rn : Int32) (a2 : Int32) : Option ((Int32) × (Int32)) := (bnd2 (m_X0_dropRoles rn) (fun r_1 rn_2 => some (r_1, rn_2)))
set_option maxHeartbeats 8000000 in
set_option maxRecDepth 100000 in
theorem c_L_act_k12 (l : Launch) (hst : l.stackTraces = false) (D : va_G) (cI cJ : ClassId) (x0 x1 x2 x3 x4 x5 x6 x7 x8 x9 : Nat) (sz : Nat) (g : Nat → Int32) (rm : Nat → Int32) (op : Nat → Int32) (rc : Int32) (ec : Int32) (su : Int32) (pe : Int32) (qt : Int32) (rs : Nat → Int32) (rn : Int32) (cs : Nat → Int32) (cn : Int32) (lc : Nat → Int64) (hc : Nat → Int64) (lg : Nat → Int64) (hg : Nat → Int64) (a2 : Int32) (r0 : Int32) (rn' : Int32) (h : m_L_act_k12 rn a2 = some (r0, rn')) : Met l yL_act wsL_act ({ frames := 8, cells := 1, slots := 6, locals := 142 }) (va_Pc [.ref x0, .int 12, .int a2] (bx_PreL D [(cI, .int), (cJ, .long)] (wX cI cJ x0 x1 x2 x3 x4 x5 x6 x7 x8 x9 g rm op rc ec su pe qt rs rn cs cn lc hc lg hg) sz)) (va_Qi (fun (r : Int32) (_ : Unit) => r = r0) (fun (_ : Unit) t => bx_Post D [(cI, .int), (cJ, .long)] (wX cI cJ x0 x1 x2 x3 x4 x5 x6 x7 x8 x9 g rm op rc ec su pe qt rs rn' cs cn lc hc lg hg) (va_A (wX cI cJ x0 x1 x2 x3 x4 x5 x6 x7 x8 x9 g rm op rc ec su pe qt rs rn cs cn lc hc lg hg) sz) t) (va_A (wX cI cJ x0 x1 x2 x3 x4 x5 x6 x7 x8 x9 g rm op rc ec su pe qt rs rn cs cn lc hc lg hg) sz)) 1 6 (va_A (wX cI cJ x0 x1 x2 x3 x4 x5 x6 x7 x8 x9 g rm op rc ec su pe qt rs rn cs cn lc hc lg hg) sz) := by
  refine Met.ofW (cc := cL_act) (maxL := 5) (ret := (some .int)) (by decide) rfl ?_
  intro p e s m args below meth c s₁ B hml hv
  obtain ⟨rfl, hsz, hP, hK, hD0, hT⟩ := hv
  have hx := B.exec
  have hb := B.bytes
  have hr := B.returns
  have hts := atoms_spec (ws := wsL_act) B.pre
  have hown : s.vm.findClass RL = some m.cls := findClass_of_methodNamed B.named
  have hlocks := B.notSynchronized
  subst hsz
  have hD := hD0.self (sz := s.heap.size)
  generalize hAe : va_A (wX cI cJ x0 x1 x2 x3 x4 x5 x6 x7 x8 x9 g rm op rc ec su pe qt rs rn cs cn lc hc lg hg) s.heap.size = A at hD hT ⊢
  have hA : ∀ q : Nat, s.heap.size ≤ q → A q := fun q h9 => by rw [← hAe]; exact Or.inr h9
  have hS : va_S A s.heap s.heap [] := va_S.rf
  have hl := lv_entry ([.ref x0, .int 12, .int a2]) (n := 5) (Nat.le_of_ble_eq_true rfl)
  rw [lg_entry_eq]
  generalize (lg_sl ([.ref x0, .int 12, .int a2]) ++ List.replicate (5 - (lg_sl ([.ref x0, .int 12, .int a2])).length) Slot.unset).toArray = ls at hl ⊢
  have hl : lv_has ls 5 [(0, .ref x0), (1, .int 12), (2, .int a2)] := hl
  rw [m_L_act_k12] at h
  refine lv_iload_n hx hb dL_act_0 rfl (lv_at hl 2 rfl) ?_
  refine lv_bipush (v := 9) hx hb dL_act_1 (by decide) ?_
  refine gl_Si0 (As := [.int a2, .int 9]) (rest := []) ⟨hx, hb, hml, hown, hts⟩ (c_L_low l D _ a2 9 (by decide)) (va_cwS 2 hts gL_act_L_low rfl rfl rfl (by decide +kernel) ⟨Nat.le_of_ble_eq_true rfl, Nat.le_of_ble_eq_true rfl⟩) hK hP hD hS hA rfl rfl hl.1 rfl (lv_room (Nat.le_of_ble_eq_true rfl)) dL_act_3 ⟨Nat.le_of_ble_eq_true rfl, Nat.le_of_ble_eq_true rfl⟩ (fun H locs hP hD hS => ?_)
  refine lv_istore_n (lv' := [(3, .int (m_L_low a2 9)), (0, .ref x0), (1, .int 12), (2, .int a2)]) hx hb dL_act_6 rfl hl (by decide) rfl (fun ls hl => ?_)
  refine lv_iload_n hx hb dL_act_7 rfl (lv_at hl 3 rfl) ?_
  refine lv_iconst (v := 4) hx hb dL_act_8 (by decide) ?_
  refine lv_ishr hx hb dL_act_9 ?_
  refine lv_bipush (v := 13) hx hb dL_act_10 (by decide) ?_
  refine gl_Si0 (As := [.int (a2 >>> (4 &&& 31)), .int 13]) (rest := []) ⟨hx, hb, hml, hown, hts⟩ (c_L_low l D _ (a2 >>> (4 &&& 31)) 13 (by decide)) (va_cwS 2 hts gL_act_L_low rfl rfl rfl (by decide +kernel) ⟨Nat.le_of_ble_eq_true rfl, Nat.le_of_ble_eq_true rfl⟩) hK hP hD hS hA rfl rfl hl.1 rfl (lv_room (Nat.le_of_ble_eq_true rfl)) dL_act_12 ⟨Nat.le_of_ble_eq_true rfl, Nat.le_of_ble_eq_true rfl⟩ (fun H locs hP hD hS => ?_)
  refine lv_istore (lv' := [(4, .int (m_L_low (a2 >>> (4 &&& 31)) 13)), (3, .int (m_L_low a2 9)), (0, .ref x0), (1, .int 12), (2, .int a2)]) hx hb dL_act_15 hl (by decide) rfl (fun ls hl => ?_)
  refine lv_iload_n hx hb dL_act_17 rfl (lv_at hl 3 rfl) ?_
  refine lv_tableOut (tgt := 272) hx hb dL_act_18 (by decide +kernel) (by decide) ?_
  refine lv_aload_n hx hb dL_act_272 rfl (lv_at hl 2 rfl) ?_
  obtain ⟨r_1, rn_2, e_3, h⟩ := bnd2_some h
  refine gl_Vi (As := []) (rest := []) (wc := wX cI cJ x0 x1 x2 x3 x4 x5 x6 x7 x8 x9 g rm op rc ec su pe qt rs rn cs cn lc hc lg hg) (w1 := wX cI cJ x0 x1 x2 x3 x4 x5 x6 x7 x8 x9 g rm op rc ec su pe qt rs rn_2 cs cn lc hc lg hg) (wr := []) ⟨hx, hb, hml, hown, hts⟩ (c_X0_dropRoles l D cI cJ x0 x1 x2 x3 x4 x5 x6 x7 x8 x9 _ g rm op rc ec su pe qt rs rn cs cn lc hc lg hg  r_1 rn_2 e_3) (cwV 0 hts gL_act_X0_dropRoles rfl rfl rfl (by decide +kernel) ⟨Nat.le_of_ble_eq_true rfl, Nat.le_of_ble_eq_true rfl⟩) hK hP hD hS hA [0, 1, 2, 3, 4, 5, 6, 7, 8, 9] [] rfl rfl (by decide) (by decide) rfl rfl rfl rfl rfl hl.1 rfl (lv_room (Nat.le_of_ble_eq_true rfl)) dL_act_273 ⟨Nat.le_of_ble_eq_true rfl, Nat.le_of_ble_eq_true rfl⟩ (fun H locs hP hD hS => ?_)
  have hP : va_P D vwCl (wX cI cJ x0 x1 x2 x3 x4 x5 x6 x7 x8 x9 g rm op rc ec su pe qt rs rn_2 cs cn lc hc lg hg) H := hP
  have hD : va_D A (wX cI cJ x0 x1 x2 x3 x4 x5 x6 x7 x8 x9 g rm op rc ec su pe qt rs rn_2 cs cn lc hc lg hg) := hD
  cases h
  refine W.widen (k := 1) (n := 6) (Nat.le_of_ble_eq_true rfl) (Nat.le_of_ble_eq_true rfl) ?_
  exact W.iret hx hb hr (fun t ht hW => ⟨⟨_, (), rfl, rfl, by rw [ht]; exact hP, va_K.moved hW.alike hK, hD⟩, hS.F ht⟩) hS.2.2 dL_act_276
