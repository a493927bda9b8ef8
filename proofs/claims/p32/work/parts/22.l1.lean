def m_L_low (a b : Int32) : Int32 := (a &&& 2147483647) - (a &&& 2147483647) / b * b
set_option maxHeartbeats 4000000 in
set_option maxRecDepth 100000 in
theorem c_L_low (l : Launch) (D : va_G) (sz : Nat) (a0 a1 : Int32) (h0 : ¬ a1 = 0) : Met l yL_low wsL_low ({ frames := 0, cells := 0, slots := 0, locals := 0 }) (va_Pc [.int a0, .int a1] (bx_Pre D [] ([]) sz)) (va_Qi (fun (r : Int32) (_ : Unit) => r = m_L_low a0 a1) (fun (_ : Unit) t => bx_Post D [] ([]) (va_A ([]) sz) t) (va_A ([]) sz)) 0 0 (va_A ([]) sz) := by
  refine Met.ofW (cc := cL_low) (maxL := 2) (ret := (some .int)) (by decide) rfl ?_
  intro p e s m args below meth c s₁ B hml hv
  obtain ⟨rfl, hsz, hP, hK, hD0⟩ := hv
  have hx := B.exec
  have hb := B.bytes
  have hr := B.returns
  have hts := atoms_spec (ws := wsL_low) B.pre
  have hown : s.vm.findClass RL = some m.cls := findClass_of_methodNamed B.named
  have hlocks := B.notSynchronized
  subst hsz
  have hD := hD0.self (sz := s.heap.size)
  generalize hAe : va_A ([]) s.heap.size = A at hD ⊢
  have hS : va_S A s.heap s.heap [] := va_S.rf
  have hw_0 := hts (.constant RL 8 (2147483647)) (by decide +kernel)
  have hl := lv_entry ([.int a0, .int a1]) (n := 2) (Nat.le_of_ble_eq_true rfl)
  rw [lg_entry_eq]
  generalize (lg_sl ([.int a0, .int a1]) ++ List.replicate (2 - (lg_sl ([.int a0, .int a1])).length) Slot.unset).toArray = ls at hl ⊢
  have hl : lv_has ls 2 [(0, .int a0), (1, .int a1)] := hl
  refine lv_iload_n hx hb dL_low_0 rfl (lv_at hl 0 rfl) ?_
  refine lv_ldc hx hb hown hw_0 dL_low_1 ?_
  refine lv_iand hx hb dL_low_3 ?_
  refine lv_iload_n hx hb dL_low_4 rfl (lv_at hl 1 rfl) ?_
  refine lv_irem hx hb dL_low_5 h0 ?_
  exact W.iret hx hb hr (fun t ht hW => ⟨⟨_, (), rfl, rfl, by rw [ht]; exact hP, va_K.moved hW.alike hK, hD⟩, hS.F ht⟩) hS.2.2 dL_low_6
-- size
def m_L_size_4 (fu : Nat) (a0 : Int32) : Nat → Int32 → Int32 → Option ((Int32))
  | 0, _, _ => none
  | n + 1, v1, v2 => (if 12 ≤ v2 then some v1 else (m_L_size_4 fu a0 n (v1 + ((a0 >>> (v2 &&& 31)) &&& 1)) (v2 + 1)))
def m_L_size (fu : Nat) (a0 : Int32) : Option ((Int32)) := (m_L_size_4 fu a0 fu 0 0)
set_option maxHeartbeats 8000000 in
set_option maxRecDepth 100000 in
theorem c_L_size (l : Launch) (D : va_G) (sz : Nat) (fu : Nat) (a0 : Int32) (r0 : Int32) (h : m_L_size fu a0 = some r0) : Met l yL_size wsL_size ({ frames := 0, cells := 0, slots := 0, locals := 0 }) (va_Pc [.int a0] (bx_Pre D [] ([]) sz)) (va_Qi (fun (r : Int32) (_ : Unit) => r = r0) (fun (_ : Unit) t => bx_Post D [] ([]) (va_A ([]) sz) t) (va_A ([]) sz)) 0 0 (va_A ([]) sz) := by
  refine Met.ofW (cc := cL_size) (maxL := 3) (ret := (some .int)) (by decide) rfl ?_
  intro p e s m args below meth c s₁ B hml hv
  obtain ⟨rfl, hsz, hP, hK, hD0⟩ := hv
  have hx := B.exec
  have hb := B.bytes
  have hr := B.returns
  have hts := atoms_spec (ws := wsL_size) B.pre
  have hown : s.vm.findClass RL = some m.cls := findClass_of_methodNamed B.named
  have hlocks := B.notSynchronized
  subst hsz
  have hD := hD0.self (sz := s.heap.size)
  generalize hAe : va_A ([]) s.heap.size = A at hD ⊢
  have hA : ∀ q : Nat, s.heap.size ≤ q → A q := fun q h9 => by rw [← hAe]; exact Or.inr h9
  have hS : va_S A s.heap s.heap [] := va_S.rf
  have hl := lv_entry ([.int a0]) (n := 3) (Nat.le_of_ble_eq_true rfl)
  rw [lg_entry_eq]
  generalize (lg_sl ([.int a0]) ++ List.replicate (3 - (lg_sl ([.int a0])).length) Slot.unset).toArray = ls at hl ⊢
  have hl : lv_has ls 3 [(0, .int a0)] := hl
  have L4 : ∀ (n : Nat) (v1 : Int32) (v2 : Int32) (H : Heap) (locs : List Loc) (ls : Array Slot), m_L_size_4 fu a0 n v1 v2 = some r0 → va_P D vwCl ([]) H → va_D A ([]) → va_S A s.heap H locs → lv_has ls 3 [(0, .int a0), (1, .int v1), (2, .int v2)] → W p l e (headSpec wsL_size ({ frames := 0, cells := 0, slots := 0, locals := 0 })).room s m ([.int a0] : List Value).toArray below meth c H locs 0 0 (MQ below (va_Qi (fun (r : Int32) (_ : Unit) => r = r0) (fun (_ : Unit) t => bx_Post D [] ([]) A t) A) ([.int a0] : List Value).toArray s 0 0 A) (F0 m 4 ls []) := by
    intro n
    induction n with
    | zero =>
      intro v1 v2 H locs ls h
      rw [m_L_size_4] at h
      cases h
    | succ n ih =>
      intro v1 v2 H locs ls h hP hD hS hl
      rw [m_L_size_4] at h
      refine lv_iload_n hx hb dL_size_4 rfl (lv_at hl 2 rfl) ?_
      refine lv_bipush (v := 12) hx hb dL_size_5 (by decide) ?_
      refine lv_icmp_ge (tgt := 24) hx hb dL_size_7 (by decide) (fun c_1 => ?_) (fun c_1 => ?_)
      · replace h := (if_pos c_1).symm.trans h
        refine lv_iload_n hx hb dL_size_24 rfl (lv_at hl 1 rfl) ?_
        cases h
        exact W.iret hx hb hr (fun t ht hW => ⟨⟨_, (), rfl, rfl, by rw [ht]; exact hP, va_K.moved hW.alike hK, hD⟩, hS.F ht⟩) hS.2.2 dL_size_25
      · replace h := (if_neg c_1).symm.trans h
        refine lv_iload_n hx hb dL_size_10 rfl (lv_at hl 1 rfl) ?_
        refine lv_iload_n hx hb dL_size_11 rfl (lv_at hl 0 rfl) ?_
        refine lv_iload_n hx hb dL_size_12 rfl (lv_at hl 2 rfl) ?_
        refine lv_ishr hx hb dL_size_13 ?_
        refine lv_iconst (v := 1) hx hb dL_size_14 (by decide) ?_
        refine lv_iand hx hb dL_size_15 ?_
        refine lv_iadd hx hb dL_size_16 ?_
        refine lv_istore_n (lv' := [(1, .int (v1 + ((a0 >>> (v2 &&& 31)) &&& 1))), (0, .int a0), (2, .int v2)]) hx hb dL_size_17 rfl hl (by decide) rfl (fun ls hl => ?_)
        refine lv_iinc (v := (v2 + 1)) (lv' := [(2, .int (v2 + 1)), (1, .int (v1 + ((a0 >>> (v2 &&& 31)) &&& 1))), (0, .int a0)]) hx hb dL_size_18 hl (k := 2) rfl rfl (by decide) rfl (fun ls hl => ?_)
        refine lv_goto (tgt := 4) hx hb dL_size_21 (by decide) ?_
        exact ih (v1 + ((a0 >>> (v2 &&& 31)) &&& 1)) (v2 + 1) _ _ _ h hP hD hS (lv_sub hl [2, 1, 0] rfl)
  rw [m_L_size] at h
  refine lv_iconst (v := 0) hx hb dL_size_0 (by decide) ?_
  refine lv_istore_n (lv' := [(1, .int 0), (0, .int a0)]) hx hb dL_size_1 rfl hl (by decide) rfl (fun ls hl => ?_)
  refine lv_iconst (v := 0) hx hb dL_size_2 (by decide) ?_
  refine lv_istore_n (lv' := [(2, .int 0), (1, .int 0), (0, .int a0)]) hx hb dL_size_3 rfl hl (by decide) rfl (fun ls hl => ?_)
  exact L4 fu 0 0 _ _ _ h hP hD hS (lv_sub hl [2, 1, 0] rfl)
-- same
def m_L_same_2 (fu : Nat) (b0 : Nat → Int32) (b1 : Nat → Int32) : Nat → Int32 → Option ((Int32))
  | 0, _ => none
  | n + 1, v2 => (if 40 ≤ v2 then some 1 else (ix v2 40 (if (b0 (Int32.toNatClampNeg v2)) = (b1 (Int32.toNatClampNeg v2)) then (m_L_same_2 fu b0 b1 n (v2 + 1)) else some 0)))
def m_L_same (fu : Nat) (b0 : Nat → Int32) (b1 : Nat → Int32) : Option ((Int32)) := (m_L_same_2 fu b0 b1 fu 0)
set_option maxHeartbeats 8000000 in
set_option maxRecDepth 100000 in
theorem c_L_same (l : Launch) (D : va_G) (cI cJ : ClassId) (p0 p1 : Nat) (sz : Nat) (b0 : Nat → Int32) (b1 : Nat → Int32) (fu : Nat) (r0 : Int32) (h : m_L_same fu b0 b1 = some r0) : Met l yL_same wsL_same ({ frames := 0, cells := 0, slots := 0, locals := 0 }) (va_Pc [.ref p0, .ref p1] (bx_Pre D [(cI, .int), (cJ, .long)] ([(p0, .inl (cI, 40, .inl b0)), (p1, .inl (cI, 40, .inl b1))]) sz)) (va_Qi (fun (r : Int32) (_ : Unit) => r = r0) (fun (_ : Unit) t => bx_Post D [(cI, .int), (cJ, .long)] ([(p0, .inl (cI, 40, .inl b0)), (p1, .inl (cI, 40, .inl b1))]) (va_A ([(p0, .inl (cI, 40, .inl b0)), (p1, .inl (cI, 40, .inl b1))]) sz) t) (va_A ([(p0, .inl (cI, 40, .inl b0)), (p1, .inl (cI, 40, .inl b1))]) sz)) 0 0 (va_A ([(p0, .inl (cI, 40, .inl b0)), (p1, .inl (cI, 40, .inl b1))]) sz) := by
  refine Met.ofW (cc := cL_same) (maxL := 3) (ret := (some .boolean)) (by decide) rfl ?_
  intro p e s m args below meth c s₁ B hml hv
  obtain ⟨rfl, hsz, hP, hK, hD0⟩ := hv
  have hx := B.exec
  have hb := B.bytes
  have hr := B.returns
  have hts := atoms_spec (ws := wsL_same) B.pre
  have hown : s.vm.findClass RL = some m.cls := findClass_of_methodNamed B.named
  have hlocks := B.notSynchronized
  subst hsz
  have hD := hD0.self (sz := s.heap.size)
  generalize hAe : va_A ([(p0, .inl (cI, 40, .inl b0)), (p1, .inl (cI, 40, .inl b1))]) s.heap.size = A at hD ⊢
  have hA : ∀ q : Nat, s.heap.size ≤ q → A q := fun q h9 => by rw [← hAe]; exact Or.inr h9
  have hS : va_S A s.heap s.heap [] := va_S.rf
  have hl := lv_entry ([.ref p0, .ref p1]) (n := 3) (Nat.le_of_ble_eq_true rfl)
  rw [lg_entry_eq]
  generalize (lg_sl ([.ref p0, .ref p1]) ++ List.replicate (3 - (lg_sl ([.ref p0, .ref p1])).length) Slot.unset).toArray = ls at hl ⊢
  have hl : lv_has ls 3 [(0, .ref p0), (1, .ref p1)] := hl
  have L2 : ∀ (n : Nat) (v2 : Int32) (H : Heap) (locs : List Loc) (ls : Array Slot), m_L_same_2 fu b0 b1 n v2 = some r0 → va_P D vwCl ([(p0, .inl (cI, 40, .inl b0)), (p1, .inl (cI, 40, .inl b1))]) H → va_D A ([(p0, .inl (cI, 40, .inl b0)), (p1, .inl (cI, 40, .inl b1))]) → va_S A s.heap H locs → lv_has ls 3 [(0, .ref p0), (1, .ref p1), (2, .int v2)] → W p l e (headSpec wsL_same ({ frames := 0, cells := 0, slots := 0, locals := 0 })).room s m ([.ref p0, .ref p1] : List Value).toArray below meth c H locs 0 0 (MQ below (va_Qi (fun (r : Int32) (_ : Unit) => r = r0) (fun (_ : Unit) t => bx_Post D [(cI, .int), (cJ, .long)] ([(p0, .inl (cI, 40, .inl b0)), (p1, .inl (cI, 40, .inl b1))]) A t) A) ([.ref p0, .ref p1] : List Value).toArray s 0 0 A) (F0 m 2 ls []) := by
    intro n
    induction n with
    | zero =>
      intro v2 H locs ls h
      rw [m_L_same_2] at h
      cases h
    | succ n ih =>
      intro v2 H locs ls h hP hD hS hl
      rw [m_L_same_2] at h
      refine lv_iload_n hx hb dL_same_2 rfl (lv_at hl 2 rfl) ?_
      refine lv_bipush (v := 40) hx hb dL_same_3 (by decide) ?_
      refine lv_icmp_ge (tgt := 25) hx hb dL_same_5 (by decide) (fun c_1 => ?_) (fun c_1 => ?_)
      · replace h := (if_pos c_1).symm.trans h
        refine lv_iconst (v := 1) hx hb dL_same_25 (by decide) ?_
        cases h
        exact W.zret hx hb hr rfl (fun t ht hW => ⟨⟨_, (), rfl, rfl, by rw [ht]; exact hP, va_K.moved hW.alike hK, hD⟩, hS.F ht⟩) hS.2.2 dL_same_26
      · replace h := (if_neg c_1).symm.trans h
        refine lv_aload_n hx hb dL_same_8 rfl (lv_at hl 0 rfl) ?_
        refine lv_iload_n hx hb dL_same_9 rfl (lv_at hl 2 rfl) ?_
        obtain ⟨h_2, h⟩ := ix_some h
        refine va_iald hx hb hK hP 0 0 rfl rfl h_2 dL_same_10 ?_
        refine lv_aload_n hx hb dL_same_11 rfl (lv_at hl 1 rfl) ?_
        refine lv_iload_n hx hb dL_same_12 rfl (lv_at hl 2 rfl) ?_
        refine va_iald hx hb hK hP 1 0 rfl rfl h_2 dL_same_13 ?_
        refine lv_icmp_eq (tgt := 19) hx hb dL_same_14 (by decide) (fun c_3 => ?_) (fun c_3 => ?_)
        · replace h := (if_pos c_3).symm.trans h
          refine lv_iinc (v := (v2 + 1)) (lv' := [(2, .int (v2 + 1)), (0, .ref p0), (1, .ref p1)]) hx hb dL_same_19 hl (k := 2) rfl rfl (by decide) rfl (fun ls hl => ?_)
          refine lv_goto (tgt := 2) hx hb dL_same_22 (by decide) ?_
          exact ih (v2 + 1) _ _ _ h hP hD hS (lv_sub hl [1, 2, 0] rfl)
        · replace h := (if_neg c_3).symm.trans h
          refine lv_iconst (v := 0) hx hb dL_same_17 (by decide) ?_
          cases h
          exact W.zret hx hb hr rfl (fun t ht hW => ⟨⟨_, (), rfl, rfl, by rw [ht]; exact hP, va_K.moved hW.alike hK, hD⟩, hS.F ht⟩) hS.2.2 dL_same_18
  rw [m_L_same] at h
  refine lv_iconst (v := 0) hx hb dL_same_0 (by decide) ?_
  refine lv_istore_n (lv' := [(2, .int 0), (0, .ref p0), (1, .ref p1)]) hx hb dL_same_1 rfl hl (by decide) rfl (fun ls hl => ?_)
  exact L2 fu 0 _ _ _ h hP hD hS (lv_sub hl [1, 2, 0] rfl)
-- shared
def m_L_shared_6 (fu : Nat) (g : Nat → Int32) (a1 : Int32) : Nat → Int32 → Int32 → Option ((Int32))
  | 0, _, _ => none
  | n + 1, v2, v3 => (if 8 ≤ v3 then some v2 else (if ((a1 >>> (v3 &&& 31)) &&& 1) = 1 then (br0 (m_X0_permissions g v3) (fun r_3 => (m_L_shared_6 fu g a1 n (v2 &&& r_3) (v3 + 1)))) else (m_L_shared_6 fu g a1 n (v2 &&& 4095) (v3 + 1))))
def m_L_shared (fu : Nat) (g : Nat → Int32) (a1 : Int32) : Option ((Int32)) := (m_L_shared_6 fu g a1 fu 4095 0)
set_option maxHeartbeats 8000000 in
set_option maxRecDepth 100000 in
theorem c_L_shared (l : Launch) (D : va_G) (cI cJ : ClassId) (x0 x1 x2 x3 x4 x5 x6 x7 x8 x9 : Nat) (sz : Nat) (g : Nat → Int32) (rm : Nat → Int32) (op : Nat → Int32) (rc : Int32) (ec : Int32) (su : Int32) (pe : Int32) (qt : Int32) (rs : Nat → Int32) (rn : Int32) (cs : Nat → Int32) (cn : Int32) (lc : Nat → Int64) (hc : Nat → Int64) (lg : Nat → Int64) (hg : Nat → Int64) (fu : Nat) (a1 : Int32) (r0 : Int32) (h : m_L_shared fu g a1 = some r0) : Met l yL_shared wsL_shared ({ frames := 2, cells := 0, slots := 0, locals := 41 }) (va_Pc [.ref x0, .int a1] (bx_Pre D [(cI, .int), (cJ, .long)] (wX cI cJ x0 x1 x2 x3 x4 x5 x6 x7 x8 x9 g rm op rc ec su pe qt rs rn cs cn lc hc lg hg) sz)) (va_Qi (fun (r : Int32) (_ : Unit) => r = r0) (fun (_ : Unit) t => bx_Post D [(cI, .int), (cJ, .long)] (wX cI cJ x0 x1 x2 x3 x4 x5 x6 x7 x8 x9 g rm op rc ec su pe qt rs rn cs cn lc hc lg hg) (va_A (wX cI cJ x0 x1 x2 x3 x4 x5 x6 x7 x8 x9 g rm op rc ec su pe qt rs rn cs cn lc hc lg hg) sz) t) (va_A (wX cI cJ x0 x1 x2 x3 x4 x5 x6 x7 x8 x9 g rm op rc ec su pe qt rs rn cs cn lc hc lg hg) sz)) 0 0 (va_A (wX cI cJ x0 x1 x2 x3 x4 x5 x6 x7 x8 x9 g rm op rc ec su pe qt rs rn cs cn lc hc lg hg) sz) := by
  refine Met.ofW (cc := cL_shared) (maxL := 4) (ret := (some .int)) (by decide) rfl ?_
  intro p e s m args below meth c s₁ B hml hv
  obtain ⟨rfl, hsz, hP, hK, hD0⟩ := hv
  have hx := B.exec
  have hb := B.bytes
  have hr := B.returns
  have hts := atoms_spec (ws := wsL_shared) B.pre
  have hown : s.vm.findClass RL = some m.cls := findClass_of_methodNamed B.named
  have hlocks := B.notSynchronized
  subst hsz
  have hD := hD0.self (sz := s.heap.size)
  generalize hAe : va_A (wX cI cJ x0 x1 x2 x3 x4 x5 x6 x7 x8 x9 g rm op rc ec su pe qt rs rn cs cn lc hc lg hg) s.heap.size = A at hD ⊢
  have hA : ∀ q : Nat, s.heap.size ≤ q → A q := fun q h9 => by rw [← hAe]; exact Or.inr h9
  have hS : va_S A s.heap s.heap [] := va_S.rf
  have hl := lv_entry ([.ref x0, .int a1]) (n := 4) (Nat.le_of_ble_eq_true rfl)
  rw [lg_entry_eq]
  generalize (lg_sl ([.ref x0, .int a1]) ++ List.replicate (4 - (lg_sl ([.ref x0, .int a1])).length) Slot.unset).toArray = ls at hl ⊢
  have hl : lv_has ls 4 [(0, .ref x0), (1, .int a1)] := hl
  have L6 : ∀ (n : Nat) (v2 : Int32) (v3 : Int32) (H : Heap) (locs : List Loc) (ls : Array Slot), m_L_shared_6 fu g a1 n v2 v3 = some r0 → va_P D vwCl (wX cI cJ x0 x1 x2 x3 x4 x5 x6 x7 x8 x9 g rm op rc ec su pe qt rs rn cs cn lc hc lg hg) H → va_D A (wX cI cJ x0 x1 x2 x3 x4 x5 x6 x7 x8 x9 g rm op rc ec su pe qt rs rn cs cn lc hc lg hg) → va_S A s.heap H locs → lv_has ls 4 [(0, .ref x0), (1, .int a1), (2, .int v2), (3, .int v3)] → W p l e (headSpec wsL_shared ({ frames := 2, cells := 0, slots := 0, locals := 41 })).room s m ([.ref x0, .int a1] : List Value).toArray below meth c H locs 0 0 (MQ below (va_Qi (fun (r : Int32) (_ : Unit) => r = r0) (fun (_ : Unit) t => bx_Post D [(cI, .int), (cJ, .long)] (wX cI cJ x0 x1 x2 x3 x4 x5 x6 x7 x8 x9 g rm op rc ec su pe qt rs rn cs cn lc hc lg hg) A t) A) ([.ref x0, .int a1] : List Value).toArray s 0 0 A) (F0 m 6 ls []) := by
    intro n
    induction n with
    | zero =>
      intro v2 v3 H locs ls h
      rw [m_L_shared_6] at h
      cases h
    | succ n ih =>
      intro v2 v3 H locs ls h hP hD hS hl
      rw [m_L_shared_6] at h
      refine lv_iload_n hx hb dL_shared_6 rfl (lv_at hl 3 rfl) ?_
      refine lv_bipush (v := 8) hx hb dL_shared_7 (by decide) ?_
      refine lv_icmp_ge (tgt := 41) hx hb dL_shared_9 (by decide) (fun c_1 => ?_) (fun c_1 => ?_)
      · replace h := (if_pos c_1).symm.trans h
        refine lv_iload_n hx hb dL_shared_41 rfl (lv_at hl 2 rfl) ?_
        cases h
        exact W.iret hx hb hr (fun t ht hW => ⟨⟨_, (), rfl, rfl, by rw [ht]; exact hP, va_K.moved hW.alike hK, hD⟩, hS.F ht⟩) hS.2.2 dL_shared_42
      · replace h := (if_neg c_1).symm.trans h
        refine lv_iload_n hx hb dL_shared_12 rfl (lv_at hl 2 rfl) ?_
        refine lv_iload_n hx hb dL_shared_13 rfl (lv_at hl 1 rfl) ?_
        refine lv_iload_n hx hb dL_shared_14 rfl (lv_at hl 3 rfl) ?_
        refine lv_ishr hx hb dL_shared_15 ?_
        refine lv_iconst (v := 1) hx hb dL_shared_16 (by decide) ?_
        refine lv_iand hx hb dL_shared_17 ?_
        refine lv_iconst (v := 1) hx hb dL_shared_18 (by decide) ?_
        refine lv_icmp_ne (tgt := 30) hx hb dL_shared_19 (by decide) (fun c_2 => ?_) (fun c_2 => ?_)
        · replace h := (if_neg c_2).symm.trans h
          refine lv_sipush (v := 4095) hx hb dL_shared_30 (by decide) ?_
          refine lv_iand hx hb dL_shared_33 ?_
          refine lv_istore_n (lv' := [(2, .int (v2 &&& 4095)), (0, .ref x0), (1, .int a1), (3, .int v3)]) hx hb dL_shared_34 rfl hl (by decide) rfl (fun ls hl => ?_)
          refine lv_iinc (v := (v3 + 1)) (lv' := [(3, .int (v3 + 1)), (2, .int (v2 &&& 4095)), (0, .ref x0), (1, .int a1)]) hx hb dL_shared_35 hl (k := 3) rfl rfl (by decide) rfl (fun ls hl => ?_)
          refine lv_goto (tgt := 6) hx hb dL_shared_38 (by decide) ?_
          exact ih (v2 &&& 4095) (v3 + 1) _ _ _ h hP hD hS (lv_sub hl [2, 3, 1, 0] rfl)
        · replace h := (if_pos c_2).symm.trans h
          refine lv_aload_n hx hb dL_shared_22 rfl (lv_at hl 0 rfl) ?_
          refine lv_iload_n hx hb dL_shared_23 rfl (lv_at hl 3 rfl) ?_
          obtain ⟨r_3, e_4, h⟩ := br0_some h
          refine gl_Vi (As := [.int v3]) (rest := [.int v2]) (wc := wX cI cJ x0 x1 x2 x3 x4 x5 x6 x7 x8 x9 g rm op rc ec su pe qt rs rn cs cn lc hc lg hg) (w1 := wX cI cJ x0 x1 x2 x3 x4 x5 x6 x7 x8 x9 g rm op rc ec su pe qt rs rn cs cn lc hc lg hg) (wr := []) ⟨hx, hb, hml, hown, hts⟩ (c0_X0_permissions l D cI cJ x0 x1 x2 x3 x4 x5 x6 x7 x8 x9 _ g rm op rc ec su pe qt rs rn cs cn lc hc lg hg v3 r_3 e_4) (cwV 1 hts gL_shared_X0_permissions rfl rfl rfl (by decide +kernel) ⟨Nat.le_of_ble_eq_true rfl, Nat.le_of_ble_eq_true rfl⟩) hK hP hD hS hA [0, 1, 2, 3, 4, 5, 6, 7, 8, 9] [] rfl rfl (by decide) (by decide) rfl rfl rfl rfl rfl hl.1 rfl (lv_room (Nat.le_of_ble_eq_true rfl)) dL_shared_24 ⟨Nat.le_of_ble_eq_true rfl, Nat.le_of_ble_eq_true rfl⟩ (fun H locs hP hD hS => ?_)
          have hP : va_P D vwCl (wX cI cJ x0 x1 x2 x3 x4 x5 x6 x7 x8 x9 g rm op rc ec su pe qt rs rn cs cn lc hc lg hg) H := hP
          have hD : va_D A (wX cI cJ x0 x1 x2 x3 x4 x5 x6 x7 x8 x9 g rm op rc ec su pe qt rs rn cs cn lc hc lg hg) := hD
          refine lv_goto (tgt := 33) hx hb dL_shared_27 (by decide) ?_
          refine lv_iand hx hb dL_shared_33 ?_
          refine lv_istore_n (lv' := [(2, .int (v2 &&& r_3)), (0, .ref x0), (1, .int a1), (3, .int v3)]) hx hb dL_shared_34 rfl hl (by decide) rfl (fun ls hl => ?_)
          refine lv_iinc (v := (v3 + 1)) (lv' := [(3, .int (v3 + 1)), (2, .int (v2 &&& r_3)), (0, .ref x0), (1, .int a1)]) hx hb dL_shared_35 hl (k := 3) rfl rfl (by decide) rfl (fun ls hl => ?_)
          refine lv_goto (tgt := 6) hx hb dL_shared_38 (by decide) ?_
          exact ih (v2 &&& r_3) (v3 + 1) _ _ _ h hP hD hS (lv_sub hl [2, 3, 1, 0] rfl)
  rw [m_L_shared] at h
  refine lv_sipush (v := 4095) hx hb dL_shared_0 (by decide) ?_
  refine lv_istore_n (lv' := [(2, .int 4095), (0, .ref x0), (1, .int a1)]) hx hb dL_shared_3 rfl hl (by decide) rfl (fun ls hl => ?_)
  refine lv_iconst (v := 0) hx hb dL_shared_4 (by decide) ?_
  refine lv_istore_n (lv' := [(3, .int 0), (2, .int 4095), (0, .ref x0), (1, .int a1)]) hx hb dL_shared_5 rfl hl (by decide) rfl (fun ls hl => ?_)
  exact L6 fu 4095 0 _ _ _ h hP hD hS (lv_sub hl [2, 3, 1, 0] rfl)
