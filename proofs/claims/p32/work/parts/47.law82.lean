set_option maxHeartbeats 16000000 in
set_option maxRecDepth 100000 in
theorem lz_h82 {p : Program} {l : Launch} {e : Env} {s : State} {m : MethodId} {below : List Frame} {meth : Method} {c : Code} {b L : Nat} {xs : Nat → Int32} {D : va_G} {cI cJ : ClassId} {x0 x1 x2 x3 x4 x5 x6 x7 x8 x9 p2 p3 : Nat} (hx : p.tables.exec = Jvm.exec) (hb : c.code = cL_law) (hr : meth.sig.returnType = ret) (hlocks : meth.locks = false) (hml : c.maxLocals = 10) (hown : s.vm.findClass RL = some m.cls) (hts : ∀ w ∈ wsL_law, w.before ([Value.ref b] : List Value).toArray s = true) (hX : va_X b L xs s s.heap) (hbl : b < s.heap.size) (hst : l.stackTraces = false) (hK : va_K D vwCl [(cI, .int), (cJ, .long)] s) (hT : xThrL (lz_A s) s) (fu n : Nat) (ih : lz_St p l e s m below meth c b L xs D cI cJ x0 x1 x2 x3 x4 x5 x6 x7 x8 x9 p2 p3 fu n) : ∀ (v4 : Int32) (v5 : Int32) (v6 : Int32) (v7 : Int32) (g : Nat → Int32) (rm : Nat → Int32) (op : Nat → Int32) (rc : Int32) (ec : Int32) (su : Int32) (pe : Int32) (qt : Int32) (rs : Nat → Int32) (rn : Int32) (cs : Nat → Int32) (cn : Int32) (lc : Nat → Int64) (hc : Nat → Int64) (lg : Nat → Int64) (hg : Nat → Int64) (pr st : Nat → Int32) (H : Heap) (locs : List Loc) (ls : Array Slot) (cells slots : Nat), cells + (n + 1) * 10 + 100 ≤ 600130 → slots + (n + 1) * 300 + 1000 ≤ 7301080 → m_L_law_32 fu xs L (n + 1) 1 v4 v5 v6 v7 0 g rm op rc ec su pe qt rs rn cs cn lc hc lg hg pr st (fun _ => 0) = some 1 → va_P D vwCl (wX cI cJ x0 x1 x2 x3 x4 x5 x6 x7 x8 x9 g rm op rc ec su pe qt rs rn cs cn lc hc lg hg ++ [(p2, .inl (cI, 12, .inl pr)), (p3, .inl (cI, 4, .inl st))]) H → va_D (lz_A s) (wX cI cJ x0 x1 x2 x3 x4 x5 x6 x7 x8 x9 g rm op rc ec su pe qt rs rn cs cn lc hc lg hg ++ [(p2, .inl (cI, 12, .inl pr)), (p3, .inl (cI, 4, .inl st))]) → va_S (lz_A s) s.heap H locs → lv_has ls 10 [(7, .int v7), (6, .int v6), (5, .int v5), (4, .int v4), (3, .ref p3), (2, .ref p2), (1, .ref x0), (0, .ref b)] → W p l e room_1 s m ([Value.ref b] : List Value).toArray below meth c H locs cells slots (lw_Z below #[Value.ref b] s) (F0 m 82 ls []) := by
  intro v4 v5 v6 v7 g rm op rc ec su pe qt rs rn cs cn lc hc lg hg pr st H locs ls cells slots hc1 hc2 h hP hD hS hl
  have hbA : ¬ lz_A s b := fun h9 => absurd hbl (Nat.not_lt.mpr h9)
  have hA : ∀ q : Nat, s.heap.size ≤ q → lz_A s q := fun _ h9 => h9
  rw [m_L_law_32] at h
  replace h := (if_neg (by decide)).symm.trans h
  replace h := (if_pos rfl).symm.trans h
  refine lv_aload_n hx hb dL_law_82 rfl (lv_at hl 6 rfl) ?_
  obtain ⟨r_110, e_111, h⟩ := bnd1_some h
  refine gl_T (mc := 1) (ms := 40) (As := [.ref x0]) (rest := []) (wc := wX cI cJ x0 x1 x2 x3 x4 x5 x6 x7 x8 x9 g rm op rc ec su pe qt rs rn cs cn lc hc lg hg) (w1 := fun ra => wX cI cJ x0 x1 x2 x3 x4 x5 x6 x7 x8 x9 g rm op rc ec su pe qt rs rn cs cn lc hc lg hg ++ [(ra, .inl (cI, 40, .inl r_110))]) (wr := [(p2, .inl (cI, 12, .inl pr)), (p3, .inl (cI, 4, .inl st))]) ⟨hx, hb, hml, hown, hts⟩ (c_L_tell l D cI cJ x0 x1 x2 x3 x4 x5 x6 x7 x8 x9 _ g rm op rc ec su pe qt rs rn cs cn lc hc lg hg fu r_110 e_111) (va_cwS 1 hts gL_law_L_tell rfl rfl rfl (by decide +kernel) ⟨Nat.le_of_ble_eq_true rfl, Nat.le_of_ble_eq_true rfl⟩) hK hP hD hS hA [0, 1, 2, 3, 4, 5, 6, 7, 8, 9] [10, 11] rfl rfl (by decide) (by decide) rfl rfl rfl hl.1 rfl (lv_room (Nat.le_of_ble_eq_true rfl)) dL_law_83 ⟨show (cells) + 1 ≤ 600130 by omega, show (slots) + 40 ≤ 7301080 by omega⟩ (fun n_112 H locs hP hD hS => ?_)
  replace hP := hP.sub (ws' := wX cI cJ x0 x1 x2 x3 x4 x5 x6 x7 x8 x9 g rm op rc ec su pe qt rs rn cs cn lc hc lg hg ++ [(p2, .inl (cI, 12, .inl pr)), (p3, .inl (cI, 4, .inl st)), (n_112, .inl (cI, 40, .inl r_110))]) [2, 3, 4, 5, 6, 7, 8, 9, 10, 11, 0, 1, 12] rfl
  replace hD := hD.sub (ws' := wX cI cJ x0 x1 x2 x3 x4 x5 x6 x7 x8 x9 g rm op rc ec su pe qt rs rn cs cn lc hc lg hg ++ [(p2, .inl (cI, 12, .inl pr)), (p3, .inl (cI, 4, .inl st)), (n_112, .inl (cI, 40, .inl r_110))]) [2, 3, 4, 5, 6, 7, 8, 9, 10, 11, 0, 1, 12] (by decide) rfl
  refine lv_astore (lv' := [(8, .ref n_112), (7, .int v7), (6, .int v6), (5, .int v5), (4, .int v4), (3, .ref p3), (2, .ref p2), (1, .ref x0), (0, .ref b)]) hx hb dL_law_86 hl (by decide) rfl (fun ls hl => ?_)
  refine lv_aload_n hx hb dL_law_88 rfl (lv_at hl 7 rfl) ?_
  refine lv_iload hx hb dL_law_89 (lv_at hl 1 rfl) ?_
  refine lv_iload hx hb dL_law_91 (lv_at hl 2 rfl) ?_
  obtain ⟨r_113, g_114, rm_115, op_116, rc_117, ec_118, su_119, pe_120, qt_121, rs_122, rn_123, cs_124, cn_125, lc_126, hc_127, lg_128, hg_129, e_130, h⟩ := bnd17_some h
  refine gl_L (mc := 1) (ms := 6) (As := [.ref x0, .int v7, .int v6]) (rest := []) (wc := wX cI cJ x0 x1 x2 x3 x4 x5 x6 x7 x8 x9 g rm op rc ec su pe qt rs rn cs cn lc hc lg hg) (w1 := wX cI cJ x0 x1 x2 x3 x4 x5 x6 x7 x8 x9 g_114 rm_115 op_116 rc_117 ec_118 su_119 pe_120 qt_121 rs_122 rn_123 cs_124 cn_125 lc_126 hc_127 lg_128 hg_129) (wr := [(p2, .inl (cI, 12, .inl pr)), (p3, .inl (cI, 4, .inl st)), (n_112, .inl (cI, 40, .inl r_110))]) ⟨hx, hb, hml, hown, hts⟩ (c_L_act l hst D cI cJ x0 x1 x2 x3 x4 x5 x6 x7 x8 x9 _ g rm op rc ec su pe qt rs rn cs cn lc hc lg hg fu v7 v6 r_113 g_114 rm_115 op_116 rc_117 ec_118 su_119 pe_120 qt_121 rs_122 rn_123 cs_124 cn_125 lc_126 hc_127 lg_128 hg_129 e_130) (va_cwS 3 hts gL_law_L_act rfl rfl rfl (by decide +kernel) ⟨Nat.le_of_ble_eq_true rfl, Nat.le_of_ble_eq_true rfl⟩) hK hP hD hS hA hT [0, 1, 2, 3, 4, 5, 6, 7, 8, 9] [10, 11, 12] rfl rfl (by decide) (by decide) rfl rfl rfl hl.1 rfl (lv_room (Nat.le_of_ble_eq_true rfl)) dL_law_93 ⟨show ((cells + 1)) + 1 ≤ 600130 by omega, show ((slots + 40)) + 6 ≤ 7301080 by omega⟩ (fun H locs hP hD hS => ?_)
  replace hP := hP.sub (ws' := wX cI cJ x0 x1 x2 x3 x4 x5 x6 x7 x8 x9 g_114 rm_115 op_116 rc_117 ec_118 su_119 pe_120 qt_121 rs_122 rn_123 cs_124 cn_125 lc_126 hc_127 lg_128 hg_129 ++ [(p2, .inl (cI, 12, .inl pr)), (p3, .inl (cI, 4, .inl st)), (n_112, .inl (cI, 40, .inl r_110))]) [3, 4, 5, 6, 7, 8, 9, 10, 11, 12, 0, 1, 2] rfl
  replace hD := hD.sub (ws' := wX cI cJ x0 x1 x2 x3 x4 x5 x6 x7 x8 x9 g_114 rm_115 op_116 rc_117 ec_118 su_119 pe_120 qt_121 rs_122 rn_123 cs_124 cn_125 lc_126 hc_127 lg_128 hg_129 ++ [(p2, .inl (cI, 12, .inl pr)), (p3, .inl (cI, 4, .inl st)), (n_112, .inl (cI, 40, .inl r_110))]) [3, 4, 5, 6, 7, 8, 9, 10, 11, 12, 0, 1, 2] (by decide) rfl
  refine lv_istore (lv' := [(9, .int r_113), (8, .ref n_112), (7, .int v7), (6, .int v6), (5, .int v5), (4, .int v4), (3, .ref p3), (2, .ref p2), (1, .ref x0), (0, .ref b)]) hx hb dL_law_96 hl (by decide) rfl (fun ls hl => ?_)
  refine lv_iload hx hb dL_law_98 (lv_at hl 0 rfl) ?_
  refine lv_if_ge (tgt := 117) hx hb dL_law_100 (by decide) (fun c_131 => ?_) (fun c_131 => ?_)
  · replace h := (if_pos c_131).symm.trans h
    refine lv_iload hx hb dL_law_117 (lv_at hl 2 rfl) ?_
    refine lv_iconst (v := 4) hx hb dL_law_119 (by decide) ?_
    refine lv_icmp_ne (tgt := 197) hx hb dL_law_120 (by decide) (fun c_132 => ?_) (fun c_132 => ?_)
    · replace h := (if_neg c_132).symm.trans h
      exact ih.2.2.1 v4 v5 v6 v7 r_113 n_112 g_114 rm_115 op_116 rc_117 ec_118 su_119 pe_120 qt_121 rs_122 rn_123 cs_124 cn_125 lc_126 hc_127 lg_128 hg_129 pr st r_110 _ _ _ _ _ (by omega) (by omega) h hP hD hS (lv_sub hl [0, 1, 2, 3, 4, 5, 6, 7, 8, 9] rfl)
    · replace h := (if_pos c_132).symm.trans h
      refine lv_iload hx hb dL_law_123 (lv_at hl 0 rfl) ?_
      refine lv_iload hx hb dL_law_125 (lv_at hl 3 rfl) ?_
      refine lv_bipush (v := 13) hx hb dL_law_127 (by decide) ?_
      refine lv_ishr hx hb dL_law_129 ?_
      refine lv_iconst (v := 3) hx hb dL_law_130 (by decide) ?_
      refine gl_Si0 (As := [.int (v6 >>> (13 &&& 31)), .int 3]) (rest := [.int r_113]) ⟨hx, hb, hml, hown, hts⟩ (c_L_low l D _ (v6 >>> (13 &&& 31)) 3 (by decide)) (va_cwS 2 hts gL_law_L_low rfl rfl rfl (by decide +kernel) ⟨Nat.le_of_ble_eq_true rfl, Nat.le_of_ble_eq_true rfl⟩) hK hP hD hS hA rfl rfl hl.1 rfl (lv_room (Nat.le_of_ble_eq_true rfl)) dL_law_131 ⟨show (((cells + 1) + 1)) + 0 ≤ 600130 by omega, show (((slots + 40) + 6)) + 0 ≤ 7301080 by omega⟩ (fun H locs hP hD hS => ?_)
      refine lv_if_le (tgt := 141) hx hb dL_law_134 (by decide) (fun c_133 => ?_) (fun c_133 => ?_)
      · replace h := (if_pos c_133).symm.trans h
        refine lv_iconst (v := 0) hx hb dL_law_141 (by decide) ?_
        refine lv_icmp_eq (tgt := 197) hx hb dL_law_142 (by decide) (fun c_134 => ?_) (fun c_134 => ?_)
        · replace h := (if_pos c_134).symm.trans h
          exact ih.2.2.1 v4 v5 v6 v7 r_113 n_112 g_114 rm_115 op_116 rc_117 ec_118 su_119 pe_120 qt_121 rs_122 rn_123 cs_124 cn_125 lc_126 hc_127 lg_128 hg_129 pr st r_110 _ _ _ _ _ (by omega) (by omega) h hP hD hS (lv_sub hl [0, 1, 2, 3, 4, 5, 6, 7, 8, 9] rfl)
        · replace h := (if_neg c_134).symm.trans h
          refine lv_aload_n hx hb dL_law_145 rfl (lv_at hl 7 rfl) ?_
          refine lv_iload hx hb dL_law_146 (lv_at hl 3 rfl) ?_
          refine lv_iconst (v := 4) hx hb dL_law_148 (by decide) ?_
          refine lv_ishr hx hb dL_law_149 ?_
          refine lv_bipush (v := 13) hx hb dL_law_150 (by decide) ?_
          refine gl_Si0 (As := [.int (v6 >>> (4 &&& 31)), .int 13]) (rest := [.ref p2]) ⟨hx, hb, hml, hown, hts⟩ (c_L_low l D _ (v6 >>> (4 &&& 31)) 13 (by decide)) (va_cwS 2 hts gL_law_L_low rfl rfl rfl (by decide +kernel) ⟨Nat.le_of_ble_eq_true rfl, Nat.le_of_ble_eq_true rfl⟩) hK hP hD hS hA rfl rfl hl.1 rfl (lv_room (Nat.le_of_ble_eq_true rfl)) dL_law_152 ⟨show (((cells + 1) + 1)) + 0 ≤ 600130 by omega, show (((slots + 40) + 6)) + 0 ≤ 7301080 by omega⟩ (fun H locs hP hD hS => ?_)
          refine lv_dup2_11 hx hb dL_law_155 rfl rfl ?_
          obtain ⟨h_135, h⟩ := ix_some h
          refine va_iald hx hb hK hP 10 0 rfl rfl h_135 dL_law_156 ?_
          refine lv_iconst (v := 1) hx hb dL_law_157 (by decide) ?_
          refine lv_iload hx hb dL_law_158 (lv_at hl 3 rfl) ?_
          refine lv_bipush (v := 9) hx hb dL_law_160 (by decide) ?_
          refine lv_ishr hx hb dL_law_162 ?_
          refine lv_bipush (v := 12) hx hb dL_law_163 (by decide) ?_
          refine gl_Si0 (As := [.int (v6 >>> (9 &&& 31)), .int 12]) (rest := [.int 1, .int (pr (Int32.toNatClampNeg (m_L_low (v6 >>> (4 &&& 31)) 13))), .int (m_L_low (v6 >>> (4 &&& 31)) 13), .ref p2]) ⟨hx, hb, hml, hown, hts⟩ (c_L_low l D _ (v6 >>> (9 &&& 31)) 12 (by decide)) (va_cwS 2 hts gL_law_L_low rfl rfl rfl (by decide +kernel) ⟨Nat.le_of_ble_eq_true rfl, Nat.le_of_ble_eq_true rfl⟩) hK hP hD hS hA rfl rfl hl.1 rfl (lv_room (Nat.le_of_ble_eq_true rfl)) dL_law_165 ⟨show (((cells + 1) + 1)) + 0 ≤ 600130 by omega, show (((slots + 40) + 6)) + 0 ≤ 7301080 by omega⟩ (fun H locs hP hD hS => ?_)
          refine lv_ishl hx hb dL_law_168 ?_
          refine lv_ixor hx hb dL_law_169 ?_
          refine va_iast hx hb hK hP hD hS 10 0 rfl rfl h_135 dL_law_170 (fun H locs hP hD hS => ?_)
          have hP : va_P D vwCl (wX cI cJ x0 x1 x2 x3 x4 x5 x6 x7 x8 x9 g_114 rm_115 op_116 rc_117 ec_118 su_119 pe_120 qt_121 rs_122 rn_123 cs_124 cn_125 lc_126 hc_127 lg_128 hg_129 ++ [(p2, .inl (cI, 12, .inl (upd pr (Int32.toNatClampNeg (m_L_low (v6 >>> (4 &&& 31)) 13)) ((pr (Int32.toNatClampNeg (m_L_low (v6 >>> (4 &&& 31)) 13))) ^^^ ((1 : Int32) <<< ((m_L_low (v6 >>> (9 &&& 31)) 12) &&& 31)))))), (p3, .inl (cI, 4, .inl st)), (n_112, .inl (cI, 40, .inl r_110))]) H := hP
          have hD : va_D (lz_A s) (wX cI cJ x0 x1 x2 x3 x4 x5 x6 x7 x8 x9 g_114 rm_115 op_116 rc_117 ec_118 su_119 pe_120 qt_121 rs_122 rn_123 cs_124 cn_125 lc_126 hc_127 lg_128 hg_129 ++ [(p2, .inl (cI, 12, .inl (upd pr (Int32.toNatClampNeg (m_L_low (v6 >>> (4 &&& 31)) 13)) ((pr (Int32.toNatClampNeg (m_L_low (v6 >>> (4 &&& 31)) 13))) ^^^ ((1 : Int32) <<< ((m_L_low (v6 >>> (9 &&& 31)) 12) &&& 31)))))), (p3, .inl (cI, 4, .inl st)), (n_112, .inl (cI, 40, .inl r_110))]) := hD
          refine lv_aload_n hx hb dL_law_171 rfl (lv_at hl 7 rfl) ?_
          refine lv_iload hx hb dL_law_172 (lv_at hl 3 rfl) ?_
          refine lv_bipush (v := 9) hx hb dL_law_174 (by decide) ?_
          refine lv_ishr hx hb dL_law_176 ?_
          refine lv_bipush (v := 12) hx hb dL_law_177 (by decide) ?_
          refine gl_Si0 (As := [.int (v6 >>> (9 &&& 31)), .int 12]) (rest := [.ref p2]) ⟨hx, hb, hml, hown, hts⟩ (c_L_low l D _ (v6 >>> (9 &&& 31)) 12 (by decide)) (va_cwS 2 hts gL_law_L_low rfl rfl rfl (by decide +kernel) ⟨Nat.le_of_ble_eq_true rfl, Nat.le_of_ble_eq_true rfl⟩) hK hP hD hS hA rfl rfl hl.1 rfl (lv_room (Nat.le_of_ble_eq_true rfl)) dL_law_179 ⟨show (((cells + 1) + 1)) + 0 ≤ 600130 by omega, show (((slots + 40) + 6)) + 0 ≤ 7301080 by omega⟩ (fun H locs hP hD hS => ?_)
          refine lv_dup2_11 hx hb dL_law_182 rfl rfl ?_
          obtain ⟨h_136, h⟩ := ix_some h
          refine va_iald hx hb hK hP 10 0 rfl rfl h_136 dL_law_183 ?_
          refine lv_iconst (v := 1) hx hb dL_law_184 (by decide) ?_
          refine lv_iload hx hb dL_law_185 (lv_at hl 3 rfl) ?_
          refine lv_iconst (v := 4) hx hb dL_law_187 (by decide) ?_
          refine lv_ishr hx hb dL_law_188 ?_
          refine lv_bipush (v := 13) hx hb dL_law_189 (by decide) ?_
          refine gl_Si0 (As := [.int (v6 >>> (4 &&& 31)), .int 13]) (rest := [.int 1, .int ((upd pr (Int32.toNatClampNeg (m_L_low (v6 >>> (4 &&& 31)) 13)) ((pr (Int32.toNatClampNeg (m_L_low (v6 >>> (4 &&& 31)) 13))) ^^^ ((1 : Int32) <<< ((m_L_low (v6 >>> (9 &&& 31)) 12) &&& 31)))) (Int32.toNatClampNeg (m_L_low (v6 >>> (9 &&& 31)) 12))), .int (m_L_low (v6 >>> (9 &&& 31)) 12), .ref p2]) ⟨hx, hb, hml, hown, hts⟩ (c_L_low l D _ (v6 >>> (4 &&& 31)) 13 (by decide)) (va_cwS 2 hts gL_law_L_low rfl rfl rfl (by decide +kernel) ⟨Nat.le_of_ble_eq_true rfl, Nat.le_of_ble_eq_true rfl⟩) hK hP hD hS hA rfl rfl hl.1 rfl (lv_room (Nat.le_of_ble_eq_true rfl)) dL_law_191 ⟨show (((cells + 1) + 1)) + 0 ≤ 600130 by omega, show (((slots + 40) + 6)) + 0 ≤ 7301080 by omega⟩ (fun H locs hP hD hS => ?_)
          refine lv_ishl hx hb dL_law_194 ?_
          refine lv_ixor hx hb dL_law_195 ?_
          refine va_iast hx hb hK hP hD hS 10 0 rfl rfl h_136 dL_law_196 (fun H locs hP hD hS => ?_)
          have hP : va_P D vwCl (wX cI cJ x0 x1 x2 x3 x4 x5 x6 x7 x8 x9 g_114 rm_115 op_116 rc_117 ec_118 su_119 pe_120 qt_121 rs_122 rn_123 cs_124 cn_125 lc_126 hc_127 lg_128 hg_129 ++ [(p2, .inl (cI, 12, .inl (upd (upd pr (Int32.toNatClampNeg (m_L_low (v6 >>> (4 &&& 31)) 13)) ((pr (Int32.toNatClampNeg (m_L_low (v6 >>> (4 &&& 31)) 13))) ^^^ ((1 : Int32) <<< ((m_L_low (v6 >>> (9 &&& 31)) 12) &&& 31)))) (Int32.toNatClampNeg (m_L_low (v6 >>> (9 &&& 31)) 12)) (((upd pr (Int32.toNatClampNeg (m_L_low (v6 >>> (4 &&& 31)) 13)) ((pr (Int32.toNatClampNeg (m_L_low (v6 >>> (4 &&& 31)) 13))) ^^^ ((1 : Int32) <<< ((m_L_low (v6 >>> (9 &&& 31)) 12) &&& 31)))) (Int32.toNatClampNeg (m_L_low (v6 >>> (9 &&& 31)) 12))) ^^^ ((1 : Int32) <<< ((m_L_low (v6 >>> (4 &&& 31)) 13) &&& 31)))))), (p3, .inl (cI, 4, .inl st)), (n_112, .inl (cI, 40, .inl r_110))]) H := hP
          have hD : va_D (lz_A s) (wX cI cJ x0 x1 x2 x3 x4 x5 x6 x7 x8 x9 g_114 rm_115 op_116 rc_117 ec_118 su_119 pe_120 qt_121 rs_122 rn_123 cs_124 cn_125 lc_126 hc_127 lg_128 hg_129 ++ [(p2, .inl (cI, 12, .inl (upd (upd pr (Int32.toNatClampNeg (m_L_low (v6 >>> (4 &&& 31)) 13)) ((pr (Int32.toNatClampNeg (m_L_low (v6 >>> (4 &&& 31)) 13))) ^^^ ((1 : Int32) <<< ((m_L_low (v6 >>> (9 &&& 31)) 12) &&& 31)))) (Int32.toNatClampNeg (m_L_low (v6 >>> (9 &&& 31)) 12)) (((upd pr (Int32.toNatClampNeg (m_L_low (v6 >>> (4 &&& 31)) 13)) ((pr (Int32.toNatClampNeg (m_L_low (v6 >>> (4 &&& 31)) 13))) ^^^ ((1 : Int32) <<< ((m_L_low (v6 >>> (9 &&& 31)) 12) &&& 31)))) (Int32.toNatClampNeg (m_L_low (v6 >>> (9 &&& 31)) 12))) ^^^ ((1 : Int32) <<< ((m_L_low (v6 >>> (4 &&& 31)) 13) &&& 31)))))), (p3, .inl (cI, 4, .inl st)), (n_112, .inl (cI, 40, .inl r_110))]) := hD
          exact ih.2.2.1 v4 v5 v6 v7 r_113 n_112 g_114 rm_115 op_116 rc_117 ec_118 su_119 pe_120 qt_121 rs_122 rn_123 cs_124 cn_125 lc_126 hc_127 lg_128 hg_129 (upd (upd pr (Int32.toNatClampNeg (m_L_low (v6 >>> (4 &&& 31)) 13)) ((pr (Int32.toNatClampNeg (m_L_low (v6 >>> (4 &&& 31)) 13))) ^^^ ((1 : Int32) <<< ((m_L_low (v6 >>> (9 &&& 31)) 12) &&& 31)))) (Int32.toNatClampNeg (m_L_low (v6 >>> (9 &&& 31)) 12)) (((upd pr (Int32.toNatClampNeg (m_L_low (v6 >>> (4 &&& 31)) 13)) ((pr (Int32.toNatClampNeg (m_L_low (v6 >>> (4 &&& 31)) 13))) ^^^ ((1 : Int32) <<< ((m_L_low (v6 >>> (9 &&& 31)) 12) &&& 31)))) (Int32.toNatClampNeg (m_L_low (v6 >>> (9 &&& 31)) 12))) ^^^ ((1 : Int32) <<< ((m_L_low (v6 >>> (4 &&& 31)) 13) &&& 31)))) st r_110 _ _ _ _ _ (by omega) (by omega) h hP hD hS (lv_sub hl [0, 1, 2, 3, 4, 5, 6, 7, 8, 9] rfl)
      · replace h := (if_neg c_133).symm.trans h
        refine lv_iconst (v := 1) hx hb dL_law_137 (by decide) ?_
        refine lv_goto (tgt := 142) hx hb dL_law_138 (by decide) ?_
        refine lv_icmp_eq (tgt := 197) hx hb dL_law_142 (by decide) (fun c_137 => ?_) (fun c_137 => ?_)
        · replace h := (if_pos c_137).symm.trans h
          exact ih.2.2.1 v4 v5 v6 v7 r_113 n_112 g_114 rm_115 op_116 rc_117 ec_118 su_119 pe_120 qt_121 rs_122 rn_123 cs_124 cn_125 lc_126 hc_127 lg_128 hg_129 pr st r_110 _ _ _ _ _ (by omega) (by omega) h hP hD hS (lv_sub hl [0, 1, 2, 3, 4, 5, 6, 7, 8, 9] rfl)
        · replace h := (if_neg c_137).symm.trans h
          refine lv_aload_n hx hb dL_law_145 rfl (lv_at hl 7 rfl) ?_
          refine lv_iload hx hb dL_law_146 (lv_at hl 3 rfl) ?_
          refine lv_iconst (v := 4) hx hb dL_law_148 (by decide) ?_
          refine lv_ishr hx hb dL_law_149 ?_
          refine lv_bipush (v := 13) hx hb dL_law_150 (by decide) ?_
          refine gl_Si0 (As := [.int (v6 >>> (4 &&& 31)), .int 13]) (rest := [.ref p2]) ⟨hx, hb, hml, hown, hts⟩ (c_L_low l D _ (v6 >>> (4 &&& 31)) 13 (by decide)) (va_cwS 2 hts gL_law_L_low rfl rfl rfl (by decide +kernel) ⟨Nat.le_of_ble_eq_true rfl, Nat.le_of_ble_eq_true rfl⟩) hK hP hD hS hA rfl rfl hl.1 rfl (lv_room (Nat.le_of_ble_eq_true rfl)) dL_law_152 ⟨show (((cells + 1) + 1)) + 0 ≤ 600130 by omega, show (((slots + 40) + 6)) + 0 ≤ 7301080 by omega⟩ (fun H locs hP hD hS => ?_)
          refine lv_dup2_11 hx hb dL_law_155 rfl rfl ?_
          obtain ⟨h_138, h⟩ := ix_some h
          refine va_iald hx hb hK hP 10 0 rfl rfl h_138 dL_law_156 ?_
          refine lv_iconst (v := 1) hx hb dL_law_157 (by decide) ?_
          refine lv_iload hx hb dL_law_158 (lv_at hl 3 rfl) ?_
          refine lv_bipush (v := 9) hx hb dL_law_160 (by decide) ?_
          refine lv_ishr hx hb dL_law_162 ?_
          refine lv_bipush (v := 12) hx hb dL_law_163 (by decide) ?_
          refine gl_Si0 (As := [.int (v6 >>> (9 &&& 31)), .int 12]) (rest := [.int 1, .int (pr (Int32.toNatClampNeg (m_L_low (v6 >>> (4 &&& 31)) 13))), .int (m_L_low (v6 >>> (4 &&& 31)) 13), .ref p2]) ⟨hx, hb, hml, hown, hts⟩ (c_L_low l D _ (v6 >>> (9 &&& 31)) 12 (by decide)) (va_cwS 2 hts gL_law_L_low rfl rfl rfl (by decide +kernel) ⟨Nat.le_of_ble_eq_true rfl, Nat.le_of_ble_eq_true rfl⟩) hK hP hD hS hA rfl rfl hl.1 rfl (lv_room (Nat.le_of_ble_eq_true rfl)) dL_law_165 ⟨show (((cells + 1) + 1)) + 0 ≤ 600130 by omega, show (((slots + 40) + 6)) + 0 ≤ 7301080 by omega⟩ (fun H locs hP hD hS => ?_)
          refine lv_ishl hx hb dL_law_168 ?_
          refine lv_ixor hx hb dL_law_169 ?_
          refine va_iast hx hb hK hP hD hS 10 0 rfl rfl h_138 dL_law_170 (fun H locs hP hD hS => ?_)
          have hP : va_P D vwCl (wX cI cJ x0 x1 x2 x3 x4 x5 x6 x7 x8 x9 g_114 rm_115 op_116 rc_117 ec_118 su_119 pe_120 qt_121 rs_122 rn_123 cs_124 cn_125 lc_126 hc_127 lg_128 hg_129 ++ [(p2, .inl (cI, 12, .inl (upd pr (Int32.toNatClampNeg (m_L_low (v6 >>> (4 &&& 31)) 13)) ((pr (Int32.toNatClampNeg (m_L_low (v6 >>> (4 &&& 31)) 13))) ^^^ ((1 : Int32) <<< ((m_L_low (v6 >>> (9 &&& 31)) 12) &&& 31)))))), (p3, .inl (cI, 4, .inl st)), (n_112, .inl (cI, 40, .inl r_110))]) H := hP
          have hD : va_D (lz_A s) (wX cI cJ x0 x1 x2 x3 x4 x5 x6 x7 x8 x9 g_114 rm_115 op_116 rc_117 ec_118 su_119 pe_120 qt_121 rs_122 rn_123 cs_124 cn_125 lc_126 hc_127 lg_128 hg_129 ++ [(p2, .inl (cI, 12, .inl (upd pr (Int32.toNatClampNeg (m_L_low (v6 >>> (4 &&& 31)) 13)) ((pr (Int32.toNatClampNeg (m_L_low (v6 >>> (4 &&& 31)) 13))) ^^^ ((1 : Int32) <<< ((m_L_low (v6 >>> (9 &&& 31)) 12) &&& 31)))))), (p3, .inl (cI, 4, .inl st)), (n_112, .inl (cI, 40, .inl r_110))]) := hD
          refine lv_aload_n hx hb dL_law_171 rfl (lv_at hl 7 rfl) ?_
          refine lv_iload hx hb dL_law_172 (lv_at hl 3 rfl) ?_
          refine lv_bipush (v := 9) hx hb dL_law_174 (by decide) ?_
          refine lv_ishr hx hb dL_law_176 ?_
          refine lv_bipush (v := 12) hx hb dL_law_177 (by decide) ?_
          refine gl_Si0 (As := [.int (v6 >>> (9 &&& 31)), .int 12]) (rest := [.ref p2]) ⟨hx, hb, hml, hown, hts⟩ (c_L_low l D _ (v6 >>> (9 &&& 31)) 12 (by decide)) (va_cwS 2 hts gL_law_L_low rfl rfl rfl (by decide +kernel) ⟨Nat.le_of_ble_eq_true rfl, Nat.le_of_ble_eq_true rfl⟩) hK hP hD hS hA rfl rfl hl.1 rfl (lv_room (Nat.le_of_ble_eq_true rfl)) dL_law_179 ⟨show (((cells + 1) + 1)) + 0 ≤ 600130 by omega, show (((slots + 40) + 6)) + 0 ≤ 7301080 by omega⟩ (fun H locs hP hD hS => ?_)
          refine lv_dup2_11 hx hb dL_law_182 rfl rfl ?_
          obtain ⟨h_139, h⟩ := ix_some h
          refine va_iald hx hb hK hP 10 0 rfl rfl h_139 dL_law_183 ?_
          refine lv_iconst (v := 1) hx hb dL_law_184 (by decide) ?_
          refine lv_iload hx hb dL_law_185 (lv_at hl 3 rfl) ?_
          refine lv_iconst (v := 4) hx hb dL_law_187 (by decide) ?_
          refine lv_ishr hx hb dL_law_188 ?_
          refine lv_bipush (v := 13) hx hb dL_law_189 (by decide) ?_
          refine gl_Si0 (As := [.int (v6 >>> (4 &&& 31)), .int 13]) (rest := [.int 1, .int ((upd pr (Int32.toNatClampNeg (m_L_low (v6 >>> (4 &&& 31)) 13)) ((pr (Int32.toNatClampNeg (m_L_low (v6 >>> (4 &&& 31)) 13))) ^^^ ((1 : Int32) <<< ((m_L_low (v6 >>> (9 &&& 31)) 12) &&& 31)))) (Int32.toNatClampNeg (m_L_low (v6 >>> (9 &&& 31)) 12))), .int (m_L_low (v6 >>> (9 &&& 31)) 12), .ref p2]) ⟨hx, hb, hml, hown, hts⟩ (c_L_low l D _ (v6 >>> (4 &&& 31)) 13 (by decide)) (va_cwS 2 hts gL_law_L_low rfl rfl rfl (by decide +kernel) ⟨Nat.le_of_ble_eq_true rfl, Nat.le_of_ble_eq_true rfl⟩) hK hP hD hS hA rfl rfl hl.1 rfl (lv_room (Nat.le_of_ble_eq_true rfl)) dL_law_191 ⟨show (((cells + 1) + 1)) + 0 ≤ 600130 by omega, show (((slots + 40) + 6)) + 0 ≤ 7301080 by omega⟩ (fun H locs hP hD hS => ?_)
          refine lv_ishl hx hb dL_law_194 ?_
          refine lv_ixor hx hb dL_law_195 ?_
          refine va_iast hx hb hK hP hD hS 10 0 rfl rfl h_139 dL_law_196 (fun H locs hP hD hS => ?_)
          have hP : va_P D vwCl (wX cI cJ x0 x1 x2 x3 x4 x5 x6 x7 x8 x9 g_114 rm_115 op_116 rc_117 ec_118 su_119 pe_120 qt_121 rs_122 rn_123 cs_124 cn_125 lc_126 hc_127 lg_128 hg_129 ++ [(p2, .inl (cI, 12, .inl (upd (upd pr (Int32.toNatClampNeg (m_L_low (v6 >>> (4 &&& 31)) 13)) ((pr (Int32.toNatClampNeg (m_L_low (v6 >>> (4 &&& 31)) 13))) ^^^ ((1 : Int32) <<< ((m_L_low (v6 >>> (9 &&& 31)) 12) &&& 31)))) (Int32.toNatClampNeg (m_L_low (v6 >>> (9 &&& 31)) 12)) (((upd pr (Int32.toNatClampNeg (m_L_low (v6 >>> (4 &&& 31)) 13)) ((pr (Int32.toNatClampNeg (m_L_low (v6 >>> (4 &&& 31)) 13))) ^^^ ((1 : Int32) <<< ((m_L_low (v6 >>> (9 &&& 31)) 12) &&& 31)))) (Int32.toNatClampNeg (m_L_low (v6 >>> (9 &&& 31)) 12))) ^^^ ((1 : Int32) <<< ((m_L_low (v6 >>> (4 &&& 31)) 13) &&& 31)))))), (p3, .inl (cI, 4, .inl st)), (n_112, .inl (cI, 40, .inl r_110))]) H := hP
          have hD : va_D (lz_A s) (wX cI cJ x0 x1 x2 x3 x4 x5 x6 x7 x8 x9 g_114 rm_115 op_116 rc_117 ec_118 su_119 pe_120 qt_121 rs_122 rn_123 cs_124 cn_125 lc_126 hc_127 lg_128 hg_129 ++ [(p2, .inl (cI, 12, .inl (upd (upd pr (Int32.toNatClampNeg (m_L_low (v6 >>> (4 &&& 31)) 13)) ((pr (Int32.toNatClampNeg (m_L_low (v6 >>> (4 &&& 31)) 13))) ^^^ ((1 : Int32) <<< ((m_L_low (v6 >>> (9 &&& 31)) 12) &&& 31)))) (Int32.toNatClampNeg (m_L_low (v6 >>> (9 &&& 31)) 12)) (((upd pr (Int32.toNatClampNeg (m_L_low (v6 >>> (4 &&& 31)) 13)) ((pr (Int32.toNatClampNeg (m_L_low (v6 >>> (4 &&& 31)) 13))) ^^^ ((1 : Int32) <<< ((m_L_low (v6 >>> (9 &&& 31)) 12) &&& 31)))) (Int32.toNatClampNeg (m_L_low (v6 >>> (9 &&& 31)) 12))) ^^^ ((1 : Int32) <<< ((m_L_low (v6 >>> (4 &&& 31)) 13) &&& 31)))))), (p3, .inl (cI, 4, .inl st)), (n_112, .inl (cI, 40, .inl r_110))]) := hD
          exact ih.2.2.1 v4 v5 v6 v7 r_113 n_112 g_114 rm_115 op_116 rc_117 ec_118 su_119 pe_120 qt_121 rs_122 rn_123 cs_124 cn_125 lc_126 hc_127 lg_128 hg_129 (upd (upd pr (Int32.toNatClampNeg (m_L_low (v6 >>> (4 &&& 31)) 13)) ((pr (Int32.toNatClampNeg (m_L_low (v6 >>> (4 &&& 31)) 13))) ^^^ ((1 : Int32) <<< ((m_L_low (v6 >>> (9 &&& 31)) 12) &&& 31)))) (Int32.toNatClampNeg (m_L_low (v6 >>> (9 &&& 31)) 12)) (((upd pr (Int32.toNatClampNeg (m_L_low (v6 >>> (4 &&& 31)) 13)) ((pr (Int32.toNatClampNeg (m_L_low (v6 >>> (4 &&& 31)) 13))) ^^^ ((1 : Int32) <<< ((m_L_low (v6 >>> (9 &&& 31)) 12) &&& 31)))) (Int32.toNatClampNeg (m_L_low (v6 >>> (9 &&& 31)) 12))) ^^^ ((1 : Int32) <<< ((m_L_low (v6 >>> (4 &&& 31)) 13) &&& 31)))) st r_110 _ _ _ _ _ (by omega) (by omega) h hP hD hS (lv_sub hl [0, 1, 2, 3, 4, 5, 6, 7, 8, 9] rfl)
  · replace h := (if_neg c_131).symm.trans h
    refine lv_aload hx hb dL_law_103 (lv_at hl 1 rfl) ?_
    refine lv_aload_n hx hb dL_law_105 rfl (lv_at hl 8 rfl) ?_
    obtain ⟨r_140, e_141, h⟩ := bnd1_some h
    refine gl_T (mc := 1) (ms := 40) (As := [.ref x0]) (rest := [.ref n_112]) (wc := wX cI cJ x0 x1 x2 x3 x4 x5 x6 x7 x8 x9 g_114 rm_115 op_116 rc_117 ec_118 su_119 pe_120 qt_121 rs_122 rn_123 cs_124 cn_125 lc_126 hc_127 lg_128 hg_129) (w1 := fun ra => wX cI cJ x0 x1 x2 x3 x4 x5 x6 x7 x8 x9 g_114 rm_115 op_116 rc_117 ec_118 su_119 pe_120 qt_121 rs_122 rn_123 cs_124 cn_125 lc_126 hc_127 lg_128 hg_129 ++ [(ra, .inl (cI, 40, .inl r_140))]) (wr := [(p2, .inl (cI, 12, .inl pr)), (p3, .inl (cI, 4, .inl st)), (n_112, .inl (cI, 40, .inl r_110))]) ⟨hx, hb, hml, hown, hts⟩ (c_L_tell l D cI cJ x0 x1 x2 x3 x4 x5 x6 x7 x8 x9 _ g_114 rm_115 op_116 rc_117 ec_118 su_119 pe_120 qt_121 rs_122 rn_123 cs_124 cn_125 lc_126 hc_127 lg_128 hg_129 fu r_140 e_141) (va_cwS 1 hts gL_law_L_tell rfl rfl rfl (by decide +kernel) ⟨Nat.le_of_ble_eq_true rfl, Nat.le_of_ble_eq_true rfl⟩) hK hP hD hS hA [0, 1, 2, 3, 4, 5, 6, 7, 8, 9] [10, 11, 12] rfl rfl (by decide) (by decide) rfl rfl rfl hl.1 rfl (lv_room (Nat.le_of_ble_eq_true rfl)) dL_law_106 ⟨show (((cells + 1) + 1)) + 1 ≤ 600130 by omega, show (((slots + 40) + 6)) + 40 ≤ 7301080 by omega⟩ (fun n_142 H locs hP hD hS => ?_)
    replace hP := hP.sub (ws' := wX cI cJ x0 x1 x2 x3 x4 x5 x6 x7 x8 x9 g_114 rm_115 op_116 rc_117 ec_118 su_119 pe_120 qt_121 rs_122 rn_123 cs_124 cn_125 lc_126 hc_127 lg_128 hg_129 ++ [(p2, .inl (cI, 12, .inl pr)), (p3, .inl (cI, 4, .inl st)), (n_112, .inl (cI, 40, .inl r_110)), (n_142, .inl (cI, 40, .inl r_140))]) [3, 4, 5, 6, 7, 8, 9, 10, 11, 12, 0, 1, 2, 13] rfl
    replace hD := hD.sub (ws' := wX cI cJ x0 x1 x2 x3 x4 x5 x6 x7 x8 x9 g_114 rm_115 op_116 rc_117 ec_118 su_119 pe_120 qt_121 rs_122 rn_123 cs_124 cn_125 lc_126 hc_127 lg_128 hg_129 ++ [(p2, .inl (cI, 12, .inl pr)), (p3, .inl (cI, 4, .inl st)), (n_112, .inl (cI, 40, .inl r_110)), (n_142, .inl (cI, 40, .inl r_140))]) [3, 4, 5, 6, 7, 8, 9, 10, 11, 12, 0, 1, 2, 13] (by decide) rfl
    obtain ⟨r_143, e_144, h⟩ := bnd1_some h
    refine gl_Si (As := [.ref n_112, .ref n_142]) (rest := []) (wc := [(n_112, .inl (cI, 40, .inl r_110)), (n_142, .inl (cI, 40, .inl r_140))]) (w1 := [(n_112, .inl (cI, 40, .inl r_110)), (n_142, .inl (cI, 40, .inl r_140))]) (wr := wX cI cJ x0 x1 x2 x3 x4 x5 x6 x7 x8 x9 g_114 rm_115 op_116 rc_117 ec_118 su_119 pe_120 qt_121 rs_122 rn_123 cs_124 cn_125 lc_126 hc_127 lg_128 hg_129 ++ [(p2, .inl (cI, 12, .inl pr)), (p3, .inl (cI, 4, .inl st))]) ⟨hx, hb, hml, hown, hts⟩ (c_L_same l D cI cJ n_112 n_142 _ r_110 r_140 fu  r_143 e_144) (va_cwS 2 hts gL_law_L_same rfl rfl rfl (by decide +kernel) ⟨Nat.le_of_ble_eq_true rfl, Nat.le_of_ble_eq_true rfl⟩) hK hP hD hS hA [12, 13] [0, 1, 2, 3, 4, 5, 6, 7, 8, 9, 10, 11] rfl rfl (by decide) (by decide) rfl rfl rfl hl.1 rfl (lv_room (Nat.le_of_ble_eq_true rfl)) dL_law_109 ⟨show ((((cells + 1) + 1) + 1)) + 0 ≤ 600130 by omega, show ((((slots + 40) + 6) + 40)) + 0 ≤ 7301080 by omega⟩ (fun H locs hP hD hS => ?_)
    replace hP := hP.sub (ws' := wX cI cJ x0 x1 x2 x3 x4 x5 x6 x7 x8 x9 g_114 rm_115 op_116 rc_117 ec_118 su_119 pe_120 qt_121 rs_122 rn_123 cs_124 cn_125 lc_126 hc_127 lg_128 hg_129 ++ [(p2, .inl (cI, 12, .inl pr)), (p3, .inl (cI, 4, .inl st)), (n_112, .inl (cI, 40, .inl r_110)), (n_142, .inl (cI, 40, .inl r_140))]) [0, 1, 2, 3, 4, 5, 6, 7, 8, 9, 10, 11, 12, 13] rfl
    replace hD := hD.sub (ws' := wX cI cJ x0 x1 x2 x3 x4 x5 x6 x7 x8 x9 g_114 rm_115 op_116 rc_117 ec_118 su_119 pe_120 qt_121 rs_122 rn_123 cs_124 cn_125 lc_126 hc_127 lg_128 hg_129 ++ [(p2, .inl (cI, 12, .inl pr)), (p3, .inl (cI, 4, .inl st)), (n_112, .inl (cI, 40, .inl r_110)), (n_142, .inl (cI, 40, .inl r_140))]) [0, 1, 2, 3, 4, 5, 6, 7, 8, 9, 10, 11, 12, 13] (by decide) rfl
    refine lv_if_ne (tgt := 283) hx hb dL_law_112 (by decide) (fun c_145 => ?_) (fun c_145 => ?_)
    · replace h := (if_neg c_145).symm.trans h
      replace hP := hP.sub (ws' := wX cI cJ x0 x1 x2 x3 x4 x5 x6 x7 x8 x9 g_114 rm_115 op_116 rc_117 ec_118 su_119 pe_120 qt_121 rs_122 rn_123 cs_124 cn_125 lc_126 hc_127 lg_128 hg_129 ++ [(p2, .inl (cI, 12, .inl pr)), (p3, .inl (cI, 4, .inl st))]) [0, 1, 2, 3, 4, 5, 6, 7, 8, 9, 10, 11] rfl
      replace hD := hD.sub (ws' := wX cI cJ x0 x1 x2 x3 x4 x5 x6 x7 x8 x9 g_114 rm_115 op_116 rc_117 ec_118 su_119 pe_120 qt_121 rs_122 rn_123 cs_124 cn_125 lc_126 hc_127 lg_128 hg_129 ++ [(p2, .inl (cI, 12, .inl pr)), (p3, .inl (cI, 4, .inl st))]) [0, 1, 2, 3, 4, 5, 6, 7, 8, 9, 10, 11] (by decide) rfl
      exact ih.2.2.2 v4 v5 g_114 rm_115 op_116 rc_117 ec_118 su_119 pe_120 qt_121 rs_122 rn_123 cs_124 cn_125 lc_126 hc_127 lg_128 hg_129 pr st _ _ _ _ _ (by omega) (by omega) h hP hD hS (lv_sub hl [4, 5, 6, 7, 8, 9] rfl)
    · replace h := (if_pos c_145).symm.trans h
      refine lv_iconst (v := 0) hx hb dL_law_115 (by decide) ?_
      cases h
