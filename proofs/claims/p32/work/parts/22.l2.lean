-- tell
def m_L_tell_94 (fu : Nat) (g : Nat → Int32) (rm : Nat → Int32) (op : Nat → Int32) (rc : Int32) (ec : Int32) (pe : Int32) (qt : Int32) (rs : Nat → Int32) (rn : Int32) : Nat → Int32 → (Nat → Int32) → Option ((Nat → Int32))
  | 0, _, _ => none
  | n + 1, v2, t => (if (t (Int32.toNatClampNeg 33)) ≤ v2 then some t else (br0 (m_X0_role rs rn v2) (fun r_19 => (m_L_tell_94 fu g rm op rc ec pe qt rs rn n (v2 + 1) (upd t (Int32.toNatClampNeg 36) ((31 * (t (Int32.toNatClampNeg 36))) + r_19))))))
def m_L_tell_7 (fu : Nat) (g : Nat → Int32) (rm : Nat → Int32) (op : Nat → Int32) (rc : Int32) (ec : Int32) (pe : Int32) (qt : Int32) (rs : Nat → Int32) (rn : Int32) : Nat → Int32 → (Nat → Int32) → Option ((Nat → Int32))
  | 0, _, _ => none
  | n + 1, v2, t => (if 8 ≤ v2 then (bnd1 (m_X0_cost fu g rc ec rs rn) (fun r_2 => (bnd1 (m_X0_grants fu g) (fun r_4 => (m_L_tell_94 fu g rm op rc ec pe qt rs rn fu 0 (upd (upd (upd (upd t (Int32.toNatClampNeg 32) (m_X0_quarter qt)) (Int32.toNatClampNeg 33) (m_X0_roles rn)) (Int32.toNatClampNeg 34) r_2) (Int32.toNatClampNeg 35) r_4)))))) else (br0 (m_X0_permissions g v2) (fun r_6 => (ix v2 40 (br0 (m_X0_due fu g rm pe qt v2) (fun r_9 => (ix (8 + v2) 40 (br0 (m_X0_violations fu g op v2) (fun r_12 => (ix (16 + v2) 40 (br0 (m_X0_byRoles fu g rs rn v2) (fun r_15 => (ix (24 + v2) 40 (m_L_tell_7 fu g rm op rc ec pe qt rs rn n (v2 + 1) (upd (upd (upd (upd t (Int32.toNatClampNeg v2) r_6) (Int32.toNatClampNeg (8 + v2)) r_9) (Int32.toNatClampNeg (16 + v2)) r_12) (Int32.toNatClampNeg (24 + v2)) r_15)))))))))))))))
def m_L_tell (fu : Nat) (g : Nat → Int32) (rm : Nat → Int32) (op : Nat → Int32) (rc : Int32) (ec : Int32) (pe : Int32) (qt : Int32) (rs : Nat → Int32) (rn : Int32) : Option ((Nat → Int32)) := (m_L_tell_7 fu g rm op rc ec pe qt rs rn fu 0 (fun _ => 0))
set_option maxHeartbeats 8000000 in
set_option maxRecDepth 100000 in
theorem c_L_tell (l : Launch) (D : va_G) (cI cJ : ClassId) (x0 x1 x2 x3 x4 x5 x6 x7 x8 x9 : Nat) (sz : Nat) (g : Nat → Int32) (rm : Nat → Int32) (op : Nat → Int32) (rc : Int32) (ec : Int32) (su : Int32) (pe : Int32) (qt : Int32) (rs : Nat → Int32) (rn : Int32) (cs : Nat → Int32) (cn : Int32) (lc : Nat → Int64) (hc : Nat → Int64) (lg : Nat → Int64) (hg : Nat → Int64) (fu : Nat) (r0 : Nat → Int32) (h : m_L_tell fu g rm op rc ec pe qt rs rn = some r0) : Met l yL_tell wsL_tell ({ frames := 3, cells := 1, slots := 40, locals := 67 }) (va_Pc [.ref x0] (bx_Pre D [(cI, .int), (cJ, .long)] (wX cI cJ x0 x1 x2 x3 x4 x5 x6 x7 x8 x9 g rm op rc ec su pe qt rs rn cs cn lc hc lg hg) sz)) (va_Qr (fun (_ : Unit) => True) (fun (_ : Unit) ra t => bx_Post D [(cI, .int), (cJ, .long)] (wX cI cJ x0 x1 x2 x3 x4 x5 x6 x7 x8 x9 g rm op rc ec su pe qt rs rn cs cn lc hc lg hg ++ [(ra, .inl (cI, 40, .inl r0))]) (va_A (wX cI cJ x0 x1 x2 x3 x4 x5 x6 x7 x8 x9 g rm op rc ec su pe qt rs rn cs cn lc hc lg hg) sz) t) (va_A (wX cI cJ x0 x1 x2 x3 x4 x5 x6 x7 x8 x9 g rm op rc ec su pe qt rs rn cs cn lc hc lg hg) sz)) 1 40 (va_A (wX cI cJ x0 x1 x2 x3 x4 x5 x6 x7 x8 x9 g rm op rc ec su pe qt rs rn cs cn lc hc lg hg) sz) := by
  refine Met.ofW (cc := cL_tell) (maxL := 3) (ret := (some (.array .int))) (by decide) rfl ?_
  intro p e s m args below meth c s₁ B hml hv
  obtain ⟨rfl, hsz, hP, hK, hD0⟩ := hv
  have hx := B.exec
  have hb := B.bytes
  have hr := B.returns
  have hts := atoms_spec (ws := wsL_tell) B.pre
  have hown : s.vm.findClass RL = some m.cls := findClass_of_methodNamed B.named
  have hlocks := B.notSynchronized
  subst hsz
  have hD := hD0.self (sz := s.heap.size)
  generalize hAe : va_A (wX cI cJ x0 x1 x2 x3 x4 x5 x6 x7 x8 x9 g rm op rc ec su pe qt rs rn cs cn lc hc lg hg) s.heap.size = A at hD ⊢
  have hA : ∀ q : Nat, s.heap.size ≤ q → A q := fun q h9 => by rw [← hAe]; exact Or.inr h9
  have hS : va_S A s.heap s.heap [] := va_S.rf
  have hw_0 := hts (.arrayClass .int) (by decide +kernel)
  have hl := lv_entry ([.ref x0]) (n := 3) (Nat.le_of_ble_eq_true rfl)
  rw [lg_entry_eq]
  generalize (lg_sl ([.ref x0]) ++ List.replicate (3 - (lg_sl ([.ref x0])).length) Slot.unset).toArray = ls at hl ⊢
  have hl : lv_has ls 3 [(0, .ref x0)] := hl
  have L94 : ∀ (n0 : Nat) (n : Nat) (v2 : Int32) (t : Nat → Int32) (H : Heap) (locs : List Loc) (ls : Array Slot), m_L_tell_94 fu g rm op rc ec pe qt rs rn n v2 t = some r0 → va_P D vwCl (wX cI cJ x0 x1 x2 x3 x4 x5 x6 x7 x8 x9 g rm op rc ec su pe qt rs rn cs cn lc hc lg hg ++ [(n0, .inl (cI, 40, .inl t))]) H → va_D A (wX cI cJ x0 x1 x2 x3 x4 x5 x6 x7 x8 x9 g rm op rc ec su pe qt rs rn cs cn lc hc lg hg ++ [(n0, .inl (cI, 40, .inl t))]) → va_S A s.heap H locs → lv_has ls 3 [(0, .ref x0), (1, .ref n0), (2, .int v2)] → W p l e (headSpec wsL_tell ({ frames := 3, cells := 1, slots := 40, locals := 67 })).room s m ([.ref x0] : List Value).toArray below meth c H locs 1 40 (MQ below (va_Qr (fun (_ : Unit) => True) (fun (_ : Unit) ra t => bx_Post D [(cI, .int), (cJ, .long)] (wX cI cJ x0 x1 x2 x3 x4 x5 x6 x7 x8 x9 g rm op rc ec su pe qt rs rn cs cn lc hc lg hg ++ [(ra, .inl (cI, 40, .inl r0))]) A t) A) ([.ref x0] : List Value).toArray s 1 40 A) (F0 m 94 ls []) := by
    intro n0 n
    induction n with
    | zero =>
      intro v2 t H locs ls h
      rw [m_L_tell_94] at h
      cases h
    | succ n ih =>
      intro v2 t H locs ls h hP hD hS hl
      rw [m_L_tell_94] at h
      refine lv_iload_n hx hb dL_tell_94 rfl (lv_at hl 2 rfl) ?_
      refine lv_aload_n hx hb dL_tell_95 rfl (lv_at hl 1 rfl) ?_
      refine lv_bipush (v := 33) hx hb dL_tell_96 (by decide) ?_
      refine va_iald hx hb hK hP 10 0 rfl rfl (show ¬ ((33 : Int32) < 0 ∨ 40 ≤ Int32.toNatClampNeg 33) by decide) dL_tell_98 ?_
      refine lv_icmp_ge (tgt := 125) hx hb dL_tell_99 (by decide) (fun c_18 => ?_) (fun c_18 => ?_)
      · replace h := (if_pos c_18).symm.trans h
        refine lv_aload_n hx hb dL_tell_125 rfl (lv_at hl 1 rfl) ?_
        cases h
        exact W.aret hx hb hr (Or.inr ⟨_, rfl⟩) (Or.inr ⟨_, rfl⟩) (fun t ht hW => ⟨⟨(), n0, rfl, trivial, by rw [ht]; exact hP, va_K.moved hW.alike hK, hD⟩, hS.F ht⟩) hS.2.2 dL_tell_126
      · replace h := (if_neg c_18).symm.trans h
        refine lv_aload_n hx hb dL_tell_102 rfl (lv_at hl 1 rfl) ?_
        refine lv_bipush (v := 36) hx hb dL_tell_103 (by decide) ?_
        refine lv_bipush (v := 31) hx hb dL_tell_105 (by decide) ?_
        refine lv_aload_n hx hb dL_tell_107 rfl (lv_at hl 1 rfl) ?_
        refine lv_bipush (v := 36) hx hb dL_tell_108 (by decide) ?_
        refine va_iald hx hb hK hP 10 0 rfl rfl (show ¬ ((36 : Int32) < 0 ∨ 40 ≤ Int32.toNatClampNeg 36) by decide) dL_tell_110 ?_
        refine lv_imul hx hb dL_tell_111 ?_
        refine lv_aload_n hx hb dL_tell_112 rfl (lv_at hl 0 rfl) ?_
        refine lv_iload_n hx hb dL_tell_113 rfl (lv_at hl 2 rfl) ?_
        obtain ⟨r_19, e_20, h⟩ := br0_some h
        refine gl_Vi (As := [.int v2]) (rest := [.int (31 * (t (Int32.toNatClampNeg 36))), .int 36, .ref n0]) (wc := wX cI cJ x0 x1 x2 x3 x4 x5 x6 x7 x8 x9 g rm op rc ec su pe qt rs rn cs cn lc hc lg hg) (w1 := wX cI cJ x0 x1 x2 x3 x4 x5 x6 x7 x8 x9 g rm op rc ec su pe qt rs rn cs cn lc hc lg hg) (wr := [(n0, .inl (cI, 40, .inl t))]) ⟨hx, hb, hml, hown, hts⟩ (c0_X0_role l D cI cJ x0 x1 x2 x3 x4 x5 x6 x7 x8 x9 _ g rm op rc ec su pe qt rs rn cs cn lc hc lg hg v2 r_19 e_20) (cwV 1 hts gL_tell_X0_role rfl rfl rfl (by decide +kernel) ⟨Nat.le_of_ble_eq_true rfl, Nat.le_of_ble_eq_true rfl⟩) hK hP hD hS hA [0, 1, 2, 3, 4, 5, 6, 7, 8, 9] [10] rfl rfl (by decide) (by decide) rfl rfl rfl rfl rfl hl.1 rfl (lv_room (Nat.le_of_ble_eq_true rfl)) dL_tell_114 ⟨Nat.le_of_ble_eq_true rfl, Nat.le_of_ble_eq_true rfl⟩ (fun H locs hP hD hS => ?_)
        replace hP := hP.sub (ws' := wX cI cJ x0 x1 x2 x3 x4 x5 x6 x7 x8 x9 g rm op rc ec su pe qt rs rn cs cn lc hc lg hg ++ [(n0, .inl (cI, 40, .inl t))]) [1, 2, 3, 4, 5, 6, 7, 8, 9, 10, 0] rfl
        replace hD := hD.sub (ws' := wX cI cJ x0 x1 x2 x3 x4 x5 x6 x7 x8 x9 g rm op rc ec su pe qt rs rn cs cn lc hc lg hg ++ [(n0, .inl (cI, 40, .inl t))]) [1, 2, 3, 4, 5, 6, 7, 8, 9, 10, 0] (by decide) rfl
        refine lv_iadd hx hb dL_tell_117 ?_
        refine va_iast hx hb hK hP hD hS 10 0 rfl rfl (show ¬ ((36 : Int32) < 0 ∨ 40 ≤ Int32.toNatClampNeg 36) by decide) dL_tell_118 (fun H locs hP hD hS => ?_)
        have hP : va_P D vwCl (wX cI cJ x0 x1 x2 x3 x4 x5 x6 x7 x8 x9 g rm op rc ec su pe qt rs rn cs cn lc hc lg hg ++ [(n0, .inl (cI, 40, .inl (upd t (Int32.toNatClampNeg 36) ((31 * (t (Int32.toNatClampNeg 36))) + r_19))))]) H := hP
        have hD : va_D A (wX cI cJ x0 x1 x2 x3 x4 x5 x6 x7 x8 x9 g rm op rc ec su pe qt rs rn cs cn lc hc lg hg ++ [(n0, .inl (cI, 40, .inl (upd t (Int32.toNatClampNeg 36) ((31 * (t (Int32.toNatClampNeg 36))) + r_19))))]) := hD
        refine lv_iinc (v := (v2 + 1)) (lv' := [(2, .int (v2 + 1)), (0, .ref x0), (1, .ref n0)]) hx hb dL_tell_119 hl (k := 2) rfl rfl (by decide) rfl (fun ls hl => ?_)
        refine lv_goto (tgt := 94) hx hb dL_tell_122 (by decide) ?_
        exact ih (v2 + 1) (upd t (Int32.toNatClampNeg 36) ((31 * (t (Int32.toNatClampNeg 36))) + r_19)) _ _ _ h hP hD hS (lv_sub hl [1, 2, 0] rfl)
  have L7 : ∀ (n0 : Nat) (n : Nat) (v2 : Int32) (t : Nat → Int32) (H : Heap) (locs : List Loc) (ls : Array Slot), m_L_tell_7 fu g rm op rc ec pe qt rs rn n v2 t = some r0 → va_P D vwCl (wX cI cJ x0 x1 x2 x3 x4 x5 x6 x7 x8 x9 g rm op rc ec su pe qt rs rn cs cn lc hc lg hg ++ [(n0, .inl (cI, 40, .inl t))]) H → va_D A (wX cI cJ x0 x1 x2 x3 x4 x5 x6 x7 x8 x9 g rm op rc ec su pe qt rs rn cs cn lc hc lg hg ++ [(n0, .inl (cI, 40, .inl t))]) → va_S A s.heap H locs → lv_has ls 3 [(0, .ref x0), (1, .ref n0), (2, .int v2)] → W p l e (headSpec wsL_tell ({ frames := 3, cells := 1, slots := 40, locals := 67 })).room s m ([.ref x0] : List Value).toArray below meth c H locs 1 40 (MQ below (va_Qr (fun (_ : Unit) => True) (fun (_ : Unit) ra t => bx_Post D [(cI, .int), (cJ, .long)] (wX cI cJ x0 x1 x2 x3 x4 x5 x6 x7 x8 x9 g rm op rc ec su pe qt rs rn cs cn lc hc lg hg ++ [(ra, .inl (cI, 40, .inl r0))]) A t) A) ([.ref x0] : List Value).toArray s 1 40 A) (F0 m 7 ls []) := by
    intro n0 n
    induction n with
    | zero =>
      intro v2 t H locs ls h
      rw [m_L_tell_7] at h
      cases h
    | succ n ih =>
      intro v2 t H locs ls h hP hD hS hl
      rw [m_L_tell_7] at h
      refine lv_iload_n hx hb dL_tell_7 rfl (lv_at hl 2 rfl) ?_
      refine lv_bipush (v := 8) hx hb dL_tell_8 (by decide) ?_
      refine lv_icmp_ge (tgt := 60) hx hb dL_tell_10 (by decide) (fun c_1 => ?_) (fun c_1 => ?_)
      · replace h := (if_pos c_1).symm.trans h
        refine lv_aload_n hx hb dL_tell_60 rfl (lv_at hl 1 rfl) ?_
        refine lv_bipush (v := 32) hx hb dL_tell_61 (by decide) ?_
        refine lv_aload_n hx hb dL_tell_63 rfl (lv_at hl 0 rfl) ?_
        refine gl_Vi (As := []) (rest := [.int 32, .ref n0]) (wc := wX cI cJ x0 x1 x2 x3 x4 x5 x6 x7 x8 x9 g rm op rc ec su pe qt rs rn cs cn lc hc lg hg) (w1 := wX cI cJ x0 x1 x2 x3 x4 x5 x6 x7 x8 x9 g rm op rc ec su pe qt rs rn cs cn lc hc lg hg) (wr := [(n0, .inl (cI, 40, .inl t))]) ⟨hx, hb, hml, hown, hts⟩ (c_X0_quarter l D cI cJ x0 x1 x2 x3 x4 x5 x6 x7 x8 x9 _ g rm op rc ec su pe qt rs rn cs cn lc hc lg hg ) (cwV 0 hts gL_tell_X0_quarter rfl rfl rfl (by decide +kernel) ⟨Nat.le_of_ble_eq_true rfl, Nat.le_of_ble_eq_true rfl⟩) hK hP hD hS hA [0, 1, 2, 3, 4, 5, 6, 7, 8, 9] [10] rfl rfl (by decide) (by decide) rfl rfl rfl rfl rfl hl.1 rfl (lv_room (Nat.le_of_ble_eq_true rfl)) dL_tell_64 ⟨Nat.le_of_ble_eq_true rfl, Nat.le_of_ble_eq_true rfl⟩ (fun H locs hP hD hS => ?_)
        replace hP := hP.sub (ws' := wX cI cJ x0 x1 x2 x3 x4 x5 x6 x7 x8 x9 g rm op rc ec su pe qt rs rn cs cn lc hc lg hg ++ [(n0, .inl (cI, 40, .inl t))]) [1, 2, 3, 4, 5, 6, 7, 8, 9, 10, 0] rfl
        replace hD := hD.sub (ws' := wX cI cJ x0 x1 x2 x3 x4 x5 x6 x7 x8 x9 g rm op rc ec su pe qt rs rn cs cn lc hc lg hg ++ [(n0, .inl (cI, 40, .inl t))]) [1, 2, 3, 4, 5, 6, 7, 8, 9, 10, 0] (by decide) rfl
        refine va_iast hx hb hK hP hD hS 10 0 rfl rfl (show ¬ ((32 : Int32) < 0 ∨ 40 ≤ Int32.toNatClampNeg 32) by decide) dL_tell_67 (fun H locs hP hD hS => ?_)
        have hP : va_P D vwCl (wX cI cJ x0 x1 x2 x3 x4 x5 x6 x7 x8 x9 g rm op rc ec su pe qt rs rn cs cn lc hc lg hg ++ [(n0, .inl (cI, 40, .inl (upd t (Int32.toNatClampNeg 32) (m_X0_quarter qt))))]) H := hP
        have hD : va_D A (wX cI cJ x0 x1 x2 x3 x4 x5 x6 x7 x8 x9 g rm op rc ec su pe qt rs rn cs cn lc hc lg hg ++ [(n0, .inl (cI, 40, .inl (upd t (Int32.toNatClampNeg 32) (m_X0_quarter qt))))]) := hD
        refine lv_aload_n hx hb dL_tell_68 rfl (lv_at hl 1 rfl) ?_
        refine lv_bipush (v := 33) hx hb dL_tell_69 (by decide) ?_
        refine lv_aload_n hx hb dL_tell_71 rfl (lv_at hl 0 rfl) ?_
        refine gl_Vi (As := []) (rest := [.int 33, .ref n0]) (wc := wX cI cJ x0 x1 x2 x3 x4 x5 x6 x7 x8 x9 g rm op rc ec su pe qt rs rn cs cn lc hc lg hg) (w1 := wX cI cJ x0 x1 x2 x3 x4 x5 x6 x7 x8 x9 g rm op rc ec su pe qt rs rn cs cn lc hc lg hg) (wr := [(n0, .inl (cI, 40, .inl (upd t (Int32.toNatClampNeg 32) (m_X0_quarter qt))))]) ⟨hx, hb, hml, hown, hts⟩ (c_X0_roles l D cI cJ x0 x1 x2 x3 x4 x5 x6 x7 x8 x9 _ g rm op rc ec su pe qt rs rn cs cn lc hc lg hg ) (cwV 0 hts gL_tell_X0_roles rfl rfl rfl (by decide +kernel) ⟨Nat.le_of_ble_eq_true rfl, Nat.le_of_ble_eq_true rfl⟩) hK hP hD hS hA [0, 1, 2, 3, 4, 5, 6, 7, 8, 9] [10] rfl rfl (by decide) (by decide) rfl rfl rfl rfl rfl hl.1 rfl (lv_room (Nat.le_of_ble_eq_true rfl)) dL_tell_72 ⟨Nat.le_of_ble_eq_true rfl, Nat.le_of_ble_eq_true rfl⟩ (fun H locs hP hD hS => ?_)
        replace hP := hP.sub (ws' := wX cI cJ x0 x1 x2 x3 x4 x5 x6 x7 x8 x9 g rm op rc ec su pe qt rs rn cs cn lc hc lg hg ++ [(n0, .inl (cI, 40, .inl (upd t (Int32.toNatClampNeg 32) (m_X0_quarter qt))))]) [1, 2, 3, 4, 5, 6, 7, 8, 9, 10, 0] rfl
        replace hD := hD.sub (ws' := wX cI cJ x0 x1 x2 x3 x4 x5 x6 x7 x8 x9 g rm op rc ec su pe qt rs rn cs cn lc hc lg hg ++ [(n0, .inl (cI, 40, .inl (upd t (Int32.toNatClampNeg 32) (m_X0_quarter qt))))]) [1, 2, 3, 4, 5, 6, 7, 8, 9, 10, 0] (by decide) rfl
        refine va_iast hx hb hK hP hD hS 10 0 rfl rfl (show ¬ ((33 : Int32) < 0 ∨ 40 ≤ Int32.toNatClampNeg 33) by decide) dL_tell_75 (fun H locs hP hD hS => ?_)
        have hP : va_P D vwCl (wX cI cJ x0 x1 x2 x3 x4 x5 x6 x7 x8 x9 g rm op rc ec su pe qt rs rn cs cn lc hc lg hg ++ [(n0, .inl (cI, 40, .inl (upd (upd t (Int32.toNatClampNeg 32) (m_X0_quarter qt)) (Int32.toNatClampNeg 33) (m_X0_roles rn))))]) H := hP
        have hD : va_D A (wX cI cJ x0 x1 x2 x3 x4 x5 x6 x7 x8 x9 g rm op rc ec su pe qt rs rn cs cn lc hc lg hg ++ [(n0, .inl (cI, 40, .inl (upd (upd t (Int32.toNatClampNeg 32) (m_X0_quarter qt)) (Int32.toNatClampNeg 33) (m_X0_roles rn))))]) := hD
        refine lv_aload_n hx hb dL_tell_76 rfl (lv_at hl 1 rfl) ?_
        refine lv_bipush (v := 34) hx hb dL_tell_77 (by decide) ?_
        refine lv_aload_n hx hb dL_tell_79 rfl (lv_at hl 0 rfl) ?_
        obtain ⟨r_2, e_3, h⟩ := bnd1_some h
        refine gl_Vi (As := []) (rest := [.int 34, .ref n0]) (wc := wX cI cJ x0 x1 x2 x3 x4 x5 x6 x7 x8 x9 g rm op rc ec su pe qt rs rn cs cn lc hc lg hg) (w1 := wX cI cJ x0 x1 x2 x3 x4 x5 x6 x7 x8 x9 g rm op rc ec su pe qt rs rn cs cn lc hc lg hg) (wr := [(n0, .inl (cI, 40, .inl (upd (upd t (Int32.toNatClampNeg 32) (m_X0_quarter qt)) (Int32.toNatClampNeg 33) (m_X0_roles rn))))]) ⟨hx, hb, hml, hown, hts⟩ (c_X0_cost l D cI cJ x0 x1 x2 x3 x4 x5 x6 x7 x8 x9 _ g rm op rc ec su pe qt rs rn cs cn lc hc lg hg fu  r_2 e_3) (cwV 0 hts gL_tell_X0_cost rfl rfl rfl (by decide +kernel) ⟨Nat.le_of_ble_eq_true rfl, Nat.le_of_ble_eq_true rfl⟩) hK hP hD hS hA [0, 1, 2, 3, 4, 5, 6, 7, 8, 9] [10] rfl rfl (by decide) (by decide) rfl rfl rfl rfl rfl hl.1 rfl (lv_room (Nat.le_of_ble_eq_true rfl)) dL_tell_80 ⟨Nat.le_of_ble_eq_true rfl, Nat.le_of_ble_eq_true rfl⟩ (fun H locs hP hD hS => ?_)
        replace hP := hP.sub (ws' := wX cI cJ x0 x1 x2 x3 x4 x5 x6 x7 x8 x9 g rm op rc ec su pe qt rs rn cs cn lc hc lg hg ++ [(n0, .inl (cI, 40, .inl (upd (upd t (Int32.toNatClampNeg 32) (m_X0_quarter qt)) (Int32.toNatClampNeg 33) (m_X0_roles rn))))]) [1, 2, 3, 4, 5, 6, 7, 8, 9, 10, 0] rfl
        replace hD := hD.sub (ws' := wX cI cJ x0 x1 x2 x3 x4 x5 x6 x7 x8 x9 g rm op rc ec su pe qt rs rn cs cn lc hc lg hg ++ [(n0, .inl (cI, 40, .inl (upd (upd t (Int32.toNatClampNeg 32) (m_X0_quarter qt)) (Int32.toNatClampNeg 33) (m_X0_roles rn))))]) [1, 2, 3, 4, 5, 6, 7, 8, 9, 10, 0] (by decide) rfl
        refine va_iast hx hb hK hP hD hS 10 0 rfl rfl (show ¬ ((34 : Int32) < 0 ∨ 40 ≤ Int32.toNatClampNeg 34) by decide) dL_tell_83 (fun H locs hP hD hS => ?_)
        have hP : va_P D vwCl (wX cI cJ x0 x1 x2 x3 x4 x5 x6 x7 x8 x9 g rm op rc ec su pe qt rs rn cs cn lc hc lg hg ++ [(n0, .inl (cI, 40, .inl (upd (upd (upd t (Int32.toNatClampNeg 32) (m_X0_quarter qt)) (Int32.toNatClampNeg 33) (m_X0_roles rn)) (Int32.toNatClampNeg 34) r_2)))]) H := hP
        have hD : va_D A (wX cI cJ x0 x1 x2 x3 x4 x5 x6 x7 x8 x9 g rm op rc ec su pe qt rs rn cs cn lc hc lg hg ++ [(n0, .inl (cI, 40, .inl (upd (upd (upd t (Int32.toNatClampNeg 32) (m_X0_quarter qt)) (Int32.toNatClampNeg 33) (m_X0_roles rn)) (Int32.toNatClampNeg 34) r_2)))]) := hD
        refine lv_aload_n hx hb dL_tell_84 rfl (lv_at hl 1 rfl) ?_
        refine lv_bipush (v := 35) hx hb dL_tell_85 (by decide) ?_
        refine lv_aload_n hx hb dL_tell_87 rfl (lv_at hl 0 rfl) ?_
        obtain ⟨r_4, e_5, h⟩ := bnd1_some h
        refine gl_Vi (As := []) (rest := [.int 35, .ref n0]) (wc := wX cI cJ x0 x1 x2 x3 x4 x5 x6 x7 x8 x9 g rm op rc ec su pe qt rs rn cs cn lc hc lg hg) (w1 := wX cI cJ x0 x1 x2 x3 x4 x5 x6 x7 x8 x9 g rm op rc ec su pe qt rs rn cs cn lc hc lg hg) (wr := [(n0, .inl (cI, 40, .inl (upd (upd (upd t (Int32.toNatClampNeg 32) (m_X0_quarter qt)) (Int32.toNatClampNeg 33) (m_X0_roles rn)) (Int32.toNatClampNeg 34) r_2)))]) ⟨hx, hb, hml, hown, hts⟩ (c_X0_grants l D cI cJ x0 x1 x2 x3 x4 x5 x6 x7 x8 x9 _ g rm op rc ec su pe qt rs rn cs cn lc hc lg hg fu  r_4 e_5) (cwV 0 hts gL_tell_X0_grants rfl rfl rfl (by decide +kernel) ⟨Nat.le_of_ble_eq_true rfl, Nat.le_of_ble_eq_true rfl⟩) hK hP hD hS hA [0, 1, 2, 3, 4, 5, 6, 7, 8, 9] [10] rfl rfl (by decide) (by decide) rfl rfl rfl rfl rfl hl.1 rfl (lv_room (Nat.le_of_ble_eq_true rfl)) dL_tell_88 ⟨Nat.le_of_ble_eq_true rfl, Nat.le_of_ble_eq_true rfl⟩ (fun H locs hP hD hS => ?_)
        replace hP := hP.sub (ws' := wX cI cJ x0 x1 x2 x3 x4 x5 x6 x7 x8 x9 g rm op rc ec su pe qt rs rn cs cn lc hc lg hg ++ [(n0, .inl (cI, 40, .inl (upd (upd (upd t (Int32.toNatClampNeg 32) (m_X0_quarter qt)) (Int32.toNatClampNeg 33) (m_X0_roles rn)) (Int32.toNatClampNeg 34) r_2)))]) [1, 2, 3, 4, 5, 6, 7, 8, 9, 10, 0] rfl
        replace hD := hD.sub (ws' := wX cI cJ x0 x1 x2 x3 x4 x5 x6 x7 x8 x9 g rm op rc ec su pe qt rs rn cs cn lc hc lg hg ++ [(n0, .inl (cI, 40, .inl (upd (upd (upd t (Int32.toNatClampNeg 32) (m_X0_quarter qt)) (Int32.toNatClampNeg 33) (m_X0_roles rn)) (Int32.toNatClampNeg 34) r_2)))]) [1, 2, 3, 4, 5, 6, 7, 8, 9, 10, 0] (by decide) rfl
        refine va_iast hx hb hK hP hD hS 10 0 rfl rfl (show ¬ ((35 : Int32) < 0 ∨ 40 ≤ Int32.toNatClampNeg 35) by decide) dL_tell_91 (fun H locs hP hD hS => ?_)
        have hP : va_P D vwCl (wX cI cJ x0 x1 x2 x3 x4 x5 x6 x7 x8 x9 g rm op rc ec su pe qt rs rn cs cn lc hc lg hg ++ [(n0, .inl (cI, 40, .inl (upd (upd (upd (upd t (Int32.toNatClampNeg 32) (m_X0_quarter qt)) (Int32.toNatClampNeg 33) (m_X0_roles rn)) (Int32.toNatClampNeg 34) r_2) (Int32.toNatClampNeg 35) r_4)))]) H := hP
        have hD : va_D A (wX cI cJ x0 x1 x2 x3 x4 x5 x6 x7 x8 x9 g rm op rc ec su pe qt rs rn cs cn lc hc lg hg ++ [(n0, .inl (cI, 40, .inl (upd (upd (upd (upd t (Int32.toNatClampNeg 32) (m_X0_quarter qt)) (Int32.toNatClampNeg 33) (m_X0_roles rn)) (Int32.toNatClampNeg 34) r_2) (Int32.toNatClampNeg 35) r_4)))]) := hD
        refine lv_iconst (v := 0) hx hb dL_tell_92 (by decide) ?_
        refine lv_istore_n (lv' := [(2, .int 0), (0, .ref x0), (1, .ref n0)]) hx hb dL_tell_93 rfl hl (by decide) rfl (fun ls hl => ?_)
        exact L94 n0 fu 0 (upd (upd (upd (upd t (Int32.toNatClampNeg 32) (m_X0_quarter qt)) (Int32.toNatClampNeg 33) (m_X0_roles rn)) (Int32.toNatClampNeg 34) r_2) (Int32.toNatClampNeg 35) r_4) _ _ _ h hP hD hS (lv_sub hl [1, 2, 0] rfl)
      · replace h := (if_neg c_1).symm.trans h
        refine lv_aload_n hx hb dL_tell_13 rfl (lv_at hl 1 rfl) ?_
        refine lv_iload_n hx hb dL_tell_14 rfl (lv_at hl 2 rfl) ?_
        refine lv_aload_n hx hb dL_tell_15 rfl (lv_at hl 0 rfl) ?_
        refine lv_iload_n hx hb dL_tell_16 rfl (lv_at hl 2 rfl) ?_
        obtain ⟨r_6, e_7, h⟩ := br0_some h
        refine gl_Vi (As := [.int v2]) (rest := [.int v2, .ref n0]) (wc := wX cI cJ x0 x1 x2 x3 x4 x5 x6 x7 x8 x9 g rm op rc ec su pe qt rs rn cs cn lc hc lg hg) (w1 := wX cI cJ x0 x1 x2 x3 x4 x5 x6 x7 x8 x9 g rm op rc ec su pe qt rs rn cs cn lc hc lg hg) (wr := [(n0, .inl (cI, 40, .inl t))]) ⟨hx, hb, hml, hown, hts⟩ (c0_X0_permissions l D cI cJ x0 x1 x2 x3 x4 x5 x6 x7 x8 x9 _ g rm op rc ec su pe qt rs rn cs cn lc hc lg hg v2 r_6 e_7) (cwV 1 hts gL_tell_X0_permissions rfl rfl rfl (by decide +kernel) ⟨Nat.le_of_ble_eq_true rfl, Nat.le_of_ble_eq_true rfl⟩) hK hP hD hS hA [0, 1, 2, 3, 4, 5, 6, 7, 8, 9] [10] rfl rfl (by decide) (by decide) rfl rfl rfl rfl rfl hl.1 rfl (lv_room (Nat.le_of_ble_eq_true rfl)) dL_tell_17 ⟨Nat.le_of_ble_eq_true rfl, Nat.le_of_ble_eq_true rfl⟩ (fun H locs hP hD hS => ?_)
        replace hP := hP.sub (ws' := wX cI cJ x0 x1 x2 x3 x4 x5 x6 x7 x8 x9 g rm op rc ec su pe qt rs rn cs cn lc hc lg hg ++ [(n0, .inl (cI, 40, .inl t))]) [1, 2, 3, 4, 5, 6, 7, 8, 9, 10, 0] rfl
        replace hD := hD.sub (ws' := wX cI cJ x0 x1 x2 x3 x4 x5 x6 x7 x8 x9 g rm op rc ec su pe qt rs rn cs cn lc hc lg hg ++ [(n0, .inl (cI, 40, .inl t))]) [1, 2, 3, 4, 5, 6, 7, 8, 9, 10, 0] (by decide) rfl
        obtain ⟨h_8, h⟩ := ix_some h
        refine va_iast hx hb hK hP hD hS 10 0 rfl rfl h_8 dL_tell_20 (fun H locs hP hD hS => ?_)
        have hP : va_P D vwCl (wX cI cJ x0 x1 x2 x3 x4 x5 x6 x7 x8 x9 g rm op rc ec su pe qt rs rn cs cn lc hc lg hg ++ [(n0, .inl (cI, 40, .inl (upd t (Int32.toNatClampNeg v2) r_6)))]) H := hP
        have hD : va_D A (wX cI cJ x0 x1 x2 x3 x4 x5 x6 x7 x8 x9 g rm op rc ec su pe qt rs rn cs cn lc hc lg hg ++ [(n0, .inl (cI, 40, .inl (upd t (Int32.toNatClampNeg v2) r_6)))]) := hD
        refine lv_aload_n hx hb dL_tell_21 rfl (lv_at hl 1 rfl) ?_
        refine lv_bipush (v := 8) hx hb dL_tell_22 (by decide) ?_
        refine lv_iload_n hx hb dL_tell_24 rfl (lv_at hl 2 rfl) ?_
        refine lv_iadd hx hb dL_tell_25 ?_
        refine lv_aload_n hx hb dL_tell_26 rfl (lv_at hl 0 rfl) ?_
        refine lv_iload_n hx hb dL_tell_27 rfl (lv_at hl 2 rfl) ?_
        obtain ⟨r_9, e_10, h⟩ := br0_some h
        refine gl_Vi (As := [.int v2]) (rest := [.int (8 + v2), .ref n0]) (wc := wX cI cJ x0 x1 x2 x3 x4 x5 x6 x7 x8 x9 g rm op rc ec su pe qt rs rn cs cn lc hc lg hg) (w1 := wX cI cJ x0 x1 x2 x3 x4 x5 x6 x7 x8 x9 g rm op rc ec su pe qt rs rn cs cn lc hc lg hg) (wr := [(n0, .inl (cI, 40, .inl (upd t (Int32.toNatClampNeg v2) r_6)))]) ⟨hx, hb, hml, hown, hts⟩ (c0_X0_due l D cI cJ x0 x1 x2 x3 x4 x5 x6 x7 x8 x9 _ g rm op rc ec su pe qt rs rn cs cn lc hc lg hg fu v2 r_9 e_10) (cwV 1 hts gL_tell_X0_due rfl rfl rfl (by decide +kernel) ⟨Nat.le_of_ble_eq_true rfl, Nat.le_of_ble_eq_true rfl⟩) hK hP hD hS hA [0, 1, 2, 3, 4, 5, 6, 7, 8, 9] [10] rfl rfl (by decide) (by decide) rfl rfl rfl rfl rfl hl.1 rfl (lv_room (Nat.le_of_ble_eq_true rfl)) dL_tell_28 ⟨Nat.le_of_ble_eq_true rfl, Nat.le_of_ble_eq_true rfl⟩ (fun H locs hP hD hS => ?_)
        replace hP := hP.sub (ws' := wX cI cJ x0 x1 x2 x3 x4 x5 x6 x7 x8 x9 g rm op rc ec su pe qt rs rn cs cn lc hc lg hg ++ [(n0, .inl (cI, 40, .inl (upd t (Int32.toNatClampNeg v2) r_6)))]) [1, 2, 3, 4, 5, 6, 7, 8, 9, 10, 0] rfl
        replace hD := hD.sub (ws' := wX cI cJ x0 x1 x2 x3 x4 x5 x6 x7 x8 x9 g rm op rc ec su pe qt rs rn cs cn lc hc lg hg ++ [(n0, .inl (cI, 40, .inl (upd t (Int32.toNatClampNeg v2) r_6)))]) [1, 2, 3, 4, 5, 6, 7, 8, 9, 10, 0] (by decide) rfl
        obtain ⟨h_11, h⟩ := ix_some h
        refine va_iast hx hb hK hP hD hS 10 0 rfl rfl h_11 dL_tell_31 (fun H locs hP hD hS => ?_)
        have hP : va_P D vwCl (wX cI cJ x0 x1 x2 x3 x4 x5 x6 x7 x8 x9 g rm op rc ec su pe qt rs rn cs cn lc hc lg hg ++ [(n0, .inl (cI, 40, .inl (upd (upd t (Int32.toNatClampNeg v2) r_6) (Int32.toNatClampNeg (8 + v2)) r_9)))]) H := hP
        have hD : va_D A (wX cI cJ x0 x1 x2 x3 x4 x5 x6 x7 x8 x9 g rm op rc ec su pe qt rs rn cs cn lc hc lg hg ++ [(n0, .inl (cI, 40, .inl (upd (upd t (Int32.toNatClampNeg v2) r_6) (Int32.toNatClampNeg (8 + v2)) r_9)))]) := hD
        refine lv_aload_n hx hb dL_tell_32 rfl (lv_at hl 1 rfl) ?_
        refine lv_bipush (v := 16) hx hb dL_tell_33 (by decide) ?_
        refine lv_iload_n hx hb dL_tell_35 rfl (lv_at hl 2 rfl) ?_
        refine lv_iadd hx hb dL_tell_36 ?_
        refine lv_aload_n hx hb dL_tell_37 rfl (lv_at hl 0 rfl) ?_
        refine lv_iload_n hx hb dL_tell_38 rfl (lv_at hl 2 rfl) ?_
        obtain ⟨r_12, e_13, h⟩ := br0_some h
        refine gl_Vi (As := [.int v2]) (rest := [.int (16 + v2), .ref n0]) (wc := wX cI cJ x0 x1 x2 x3 x4 x5 x6 x7 x8 x9 g rm op rc ec su pe qt rs rn cs cn lc hc lg hg) (w1 := wX cI cJ x0 x1 x2 x3 x4 x5 x6 x7 x8 x9 g rm op rc ec su pe qt rs rn cs cn lc hc lg hg) (wr := [(n0, .inl (cI, 40, .inl (upd (upd t (Int32.toNatClampNeg v2) r_6) (Int32.toNatClampNeg (8 + v2)) r_9)))]) ⟨hx, hb, hml, hown, hts⟩ (c0_X0_violations l D cI cJ x0 x1 x2 x3 x4 x5 x6 x7 x8 x9 _ g rm op rc ec su pe qt rs rn cs cn lc hc lg hg fu v2 r_12 e_13) (cwV 1 hts gL_tell_X0_violations rfl rfl rfl (by decide +kernel) ⟨Nat.le_of_ble_eq_true rfl, Nat.le_of_ble_eq_true rfl⟩) hK hP hD hS hA [0, 1, 2, 3, 4, 5, 6, 7, 8, 9] [10] rfl rfl (by decide) (by decide) rfl rfl rfl rfl rfl hl.1 rfl (lv_room (Nat.le_of_ble_eq_true rfl)) dL_tell_39 ⟨Nat.le_of_ble_eq_true rfl, Nat.le_of_ble_eq_true rfl⟩ (fun H locs hP hD hS => ?_)
        replace hP := hP.sub (ws' := wX cI cJ x0 x1 x2 x3 x4 x5 x6 x7 x8 x9 g rm op rc ec su pe qt rs rn cs cn lc hc lg hg ++ [(n0, .inl (cI, 40, .inl (upd (upd t (Int32.toNatClampNeg v2) r_6) (Int32.toNatClampNeg (8 + v2)) r_9)))]) [1, 2, 3, 4, 5, 6, 7, 8, 9, 10, 0] rfl
        replace hD := hD.sub (ws' := wX cI cJ x0 x1 x2 x3 x4 x5 x6 x7 x8 x9 g rm op rc ec su pe qt rs rn cs cn lc hc lg hg ++ [(n0, .inl (cI, 40, .inl (upd (upd t (Int32.toNatClampNeg v2) r_6) (Int32.toNatClampNeg (8 + v2)) r_9)))]) [1, 2, 3, 4, 5, 6, 7, 8, 9, 10, 0] (by decide) rfl
        obtain ⟨h_14, h⟩ := ix_some h
        refine va_iast hx hb hK hP hD hS 10 0 rfl rfl h_14 dL_tell_42 (fun H locs hP hD hS => ?_)
        have hP : va_P D vwCl (wX cI cJ x0 x1 x2 x3 x4 x5 x6 x7 x8 x9 g rm op rc ec su pe qt rs rn cs cn lc hc lg hg ++ [(n0, .inl (cI, 40, .inl (upd (upd (upd t (Int32.toNatClampNeg v2) r_6) (Int32.toNatClampNeg (8 + v2)) r_9) (Int32.toNatClampNeg (16 + v2)) r_12)))]) H := hP
        have hD : va_D A (wX cI cJ x0 x1 x2 x3 x4 x5 x6 x7 x8 x9 g rm op rc ec su pe qt rs rn cs cn lc hc lg hg ++ [(n0, .inl (cI, 40, .inl (upd (upd (upd t (Int32.toNatClampNeg v2) r_6) (Int32.toNatClampNeg (8 + v2)) r_9) (Int32.toNatClampNeg (16 + v2)) r_12)))]) := hD
        refine lv_aload_n hx hb dL_tell_43 rfl (lv_at hl 1 rfl) ?_
        refine lv_bipush (v := 24) hx hb dL_tell_44 (by decide) ?_
        refine lv_iload_n hx hb dL_tell_46 rfl (lv_at hl 2 rfl) ?_
        refine lv_iadd hx hb dL_tell_47 ?_
        refine lv_aload_n hx hb dL_tell_48 rfl (lv_at hl 0 rfl) ?_
        refine lv_iload_n hx hb dL_tell_49 rfl (lv_at hl 2 rfl) ?_
        obtain ⟨r_15, e_16, h⟩ := br0_some h
        refine gl_Vi (As := [.int v2]) (rest := [.int (24 + v2), .ref n0]) (wc := wX cI cJ x0 x1 x2 x3 x4 x5 x6 x7 x8 x9 g rm op rc ec su pe qt rs rn cs cn lc hc lg hg) (w1 := wX cI cJ x0 x1 x2 x3 x4 x5 x6 x7 x8 x9 g rm op rc ec su pe qt rs rn cs cn lc hc lg hg) (wr := [(n0, .inl (cI, 40, .inl (upd (upd (upd t (Int32.toNatClampNeg v2) r_6) (Int32.toNatClampNeg (8 + v2)) r_9) (Int32.toNatClampNeg (16 + v2)) r_12)))]) ⟨hx, hb, hml, hown, hts⟩ (c0_X0_byRoles l D cI cJ x0 x1 x2 x3 x4 x5 x6 x7 x8 x9 _ g rm op rc ec su pe qt rs rn cs cn lc hc lg hg fu v2 r_15 e_16) (cwV 1 hts gL_tell_X0_byRoles rfl rfl rfl (by decide +kernel) ⟨Nat.le_of_ble_eq_true rfl, Nat.le_of_ble_eq_true rfl⟩) hK hP hD hS hA [0, 1, 2, 3, 4, 5, 6, 7, 8, 9] [10] rfl rfl (by decide) (by decide) rfl rfl rfl rfl rfl hl.1 rfl (lv_room (Nat.le_of_ble_eq_true rfl)) dL_tell_50 ⟨Nat.le_of_ble_eq_true rfl, Nat.le_of_ble_eq_true rfl⟩ (fun H locs hP hD hS => ?_)
        replace hP := hP.sub (ws' := wX cI cJ x0 x1 x2 x3 x4 x5 x6 x7 x8 x9 g rm op rc ec su pe qt rs rn cs cn lc hc lg hg ++ [(n0, .inl (cI, 40, .inl (upd (upd (upd t (Int32.toNatClampNeg v2) r_6) (Int32.toNatClampNeg (8 + v2)) r_9) (Int32.toNatClampNeg (16 + v2)) r_12)))]) [1, 2, 3, 4, 5, 6, 7, 8, 9, 10, 0] rfl
        replace hD := hD.sub (ws' := wX cI cJ x0 x1 x2 x3 x4 x5 x6 x7 x8 x9 g rm op rc ec su pe qt rs rn cs cn lc hc lg hg ++ [(n0, .inl (cI, 40, .inl (upd (upd (upd t (Int32.toNatClampNeg v2) r_6) (Int32.toNatClampNeg (8 + v2)) r_9) (Int32.toNatClampNeg (16 + v2)) r_12)))]) [1, 2, 3, 4, 5, 6, 7, 8, 9, 10, 0] (by decide) rfl
        obtain ⟨h_17, h⟩ := ix_some h
        refine va_iast hx hb hK hP hD hS 10 0 rfl rfl h_17 dL_tell_53 (fun H locs hP hD hS => ?_)
        have hP : va_P D vwCl (wX cI cJ x0 x1 x2 x3 x4 x5 x6 x7 x8 x9 g rm op rc ec su pe qt rs rn cs cn lc hc lg hg ++ [(n0, .inl (cI, 40, .inl (upd (upd (upd (upd t (Int32.toNatClampNeg v2) r_6) (Int32.toNatClampNeg (8 + v2)) r_9) (Int32.toNatClampNeg (16 + v2)) r_12) (Int32.toNatClampNeg (24 + v2)) r_15)))]) H := hP
        have hD : va_D A (wX cI cJ x0 x1 x2 x3 x4 x5 x6 x7 x8 x9 g rm op rc ec su pe qt rs rn cs cn lc hc lg hg ++ [(n0, .inl (cI, 40, .inl (upd (upd (upd (upd t (Int32.toNatClampNeg v2) r_6) (Int32.toNatClampNeg (8 + v2)) r_9) (Int32.toNatClampNeg (16 + v2)) r_12) (Int32.toNatClampNeg (24 + v2)) r_15)))]) := hD
        refine lv_iinc (v := (v2 + 1)) (lv' := [(2, .int (v2 + 1)), (0, .ref x0), (1, .ref n0)]) hx hb dL_tell_54 hl (k := 2) rfl rfl (by decide) rfl (fun ls hl => ?_)
        refine lv_goto (tgt := 7) hx hb dL_tell_57 (by decide) ?_
        exact ih (v2 + 1) (upd (upd (upd (upd t (Int32.toNatClampNeg v2) r_6) (Int32.toNatClampNeg (8 + v2)) r_9) (Int32.toNatClampNeg (16 + v2)) r_12) (Int32.toNatClampNeg (24 + v2)) r_15) _ _ _ h hP hD hS (lv_sub hl [1, 2, 0] rfl)
  rw [m_L_tell] at h
  refine lv_bipush (v := 40) hx hb dL_tell_0 (by decide) ?_
  refine va_newa (atype := .int) (ty := .int) (n := 40) (N' := 40) (a0 := (40, .inl (fun _ => 0))) hx hb hw_0 rfl hK hP hD hS hA (fun _ => rfl) (by decide) rfl (by decide) (Nat.le_of_ble_eq_true rfl) (Nat.le_of_ble_eq_true rfl) dL_tell_2 (fun n0 c9 H hK hP hD hS => ?_)
  have e9 : cI = c9 := ck_int hK 0 2 rfl rfl
  subst e9
  replace hK := hK.sub (tys' := [(cI, .int), (cJ, .long)]) [0, 1] rfl
  have hP : va_P D vwCl (wX cI cJ x0 x1 x2 x3 x4 x5 x6 x7 x8 x9 g rm op rc ec su pe qt rs rn cs cn lc hc lg hg ++ [(n0, .inl (cI, 40, .inl (fun _ => 0)))]) H := hP
  have hD : va_D A (wX cI cJ x0 x1 x2 x3 x4 x5 x6 x7 x8 x9 g rm op rc ec su pe qt rs rn cs cn lc hc lg hg ++ [(n0, .inl (cI, 40, .inl (fun _ => 0)))]) := hD
  refine lv_astore_n (lv' := [(1, .ref n0), (0, .ref x0)]) hx hb dL_tell_4 rfl hl (by decide) rfl (fun ls hl => ?_)
  refine lv_iconst (v := 0) hx hb dL_tell_5 (by decide) ?_
  refine lv_istore_n (lv' := [(2, .int 0), (1, .ref n0), (0, .ref x0)]) hx hb dL_tell_6 rfl hl (by decide) rfl (fun ls hl => ?_)
  exact L7 n0 fu 0 (fun _ => 0) _ _ _ h hP hD hS (lv_sub hl [2, 1, 0] rfl)
