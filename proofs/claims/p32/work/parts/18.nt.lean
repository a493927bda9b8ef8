-- X0_permissions
set_option maxHeartbeats 4000000 in
set_option maxRecDepth 100000 in
theorem c0_X0_permissions (l : Launch) (D : va_G) (cI cJ : ClassId) (x0 x1 x2 x3 x4 x5 x6 x7 x8 x9 : Nat) (sz : Nat) (g : Nat → Int32) (rm : Nat → Int32) (op : Nat → Int32) (rc : Int32) (ec : Int32) (su : Int32) (pe : Int32) (qt : Int32) (rs : Nat → Int32) (rn : Int32) (cs : Nat → Int32) (cn : Int32) (lc : Nat → Int64) (hc : Nat → Int64) (lg : Nat → Int64) (hg : Nat → Int64) (a1 : Int32) (r0 : Int32) (h : m_X0_permissions g a1 = some (.inr r0)) : Met l yX0_permissions wsX0_permissions ({ frames := 1, cells := 0, slots := 0, locals := 20 }) (va_Pc [.ref x0, .int a1] (bx_Pre D [(cI, .int), (cJ, .long)] (wX cI cJ x0 x1 x2 x3 x4 x5 x6 x7 x8 x9 g rm op rc ec su pe qt rs rn cs cn lc hc lg hg) sz)) (va_Qi (fun (r : Int32) (_ : Unit) => r = r0) (fun (_ : Unit) t => bx_Post D [(cI, .int), (cJ, .long)] (wX cI cJ x0 x1 x2 x3 x4 x5 x6 x7 x8 x9 g rm op rc ec su pe qt rs rn cs cn lc hc lg hg) (va_A (wX cI cJ x0 x1 x2 x3 x4 x5 x6 x7 x8 x9 g rm op rc ec su pe qt rs rn cs cn lc hc lg hg) sz) t) (va_A (wX cI cJ x0 x1 x2 x3 x4 x5 x6 x7 x8 x9 g rm op rc ec su pe qt rs rn cs cn lc hc lg hg) sz)) 0 0 (va_A (wX cI cJ x0 x1 x2 x3 x4 x5 x6 x7 x8 x9 g rm op rc ec su pe qt rs rn cs cn lc hc lg hg) sz) := by
  refine Met.ofW (cc := cX0_permissions) (maxL := 2) (ret := (some .int)) (by decide) rfl ?_
  intro p e s m args below meth c s₁ B hml hv
  obtain ⟨rfl, hsz, hP, hK, hD0⟩ := hv
  have hx := B.exec
  have hb := B.bytes
  have hr := B.returns
  have hts := atoms_spec (ws := wsX0_permissions) B.pre
  have hown : s.vm.findClass RX0 = some m.cls := findClass_of_methodNamed B.named
  have hlocks := B.notSynchronized
  subst hsz
  have hD := hD0.self (sz := s.heap.size)
  generalize hAe : va_A (wX cI cJ x0 x1 x2 x3 x4 x5 x6 x7 x8 x9 g rm op rc ec su pe qt rs rn cs cn lc hc lg hg) s.heap.size = A at hD ⊢
  have hA : ∀ q : Nat, s.heap.size ≤ q → A q := fun q h9 => by rw [← hAe]; exact Or.inr h9
  have hS : va_S A s.heap s.heap [] := va_S.rf
  have hin : ∀ w ∈ wsX00, w ∈ wsX0_permissions := fun _ h9 => List.mem_cons_of_mem _ (List.mem_append_left _ (List.mem_append_right _ h9))
  have hw_0 := hts (.fieldLink RX0 9 "RoleMiner" "granted" "[I") (by decide +kernel)
  have hl := lv_entry ([.ref x0, .int a1]) (n := 2) (Nat.le_of_ble_eq_true rfl)
  rw [lg_entry_eq]
  generalize (lg_sl ([.ref x0, .int a1]) ++ List.replicate (2 - (lg_sl ([.ref x0, .int a1])).length) Slot.unset).toArray = ls at hl ⊢
  have hl : lv_has ls 2 [(0, .ref x0), (1, .int a1)] := hl
  rw [m_X0_permissions] at h
  refine lv_iload_n hx hb dX0_permissions_0 rfl (lv_at hl 1 rfl) ?_
  refine cl_Si0 (As := [.int a1]) (rest := []) ⟨hx, hb, hml, hown, hts⟩ (c_X0_isUser l D _ a1) (va_cwS 1 hts gX0_permissions_X0_isUser rfl rfl rfl (by decide +kernel) ⟨Nat.le_of_ble_eq_true rfl, Nat.le_of_ble_eq_true rfl⟩) hK hP hD hS hA rfl rfl hl.1 rfl (lv_room (Nat.le_of_ble_eq_true rfl)) dX0_permissions_1 (fun H locs hP hD hS => ?_)
  refine lv_if_ne (tgt := 17) hx hb dX0_permissions_4 (by decide) (fun c_1 => ?_) (fun c_1 => ?_)
  · replace h := (if_neg c_1).symm.trans h
    refine lv_aload_n hx hb dX0_permissions_17 rfl (lv_at hl 0 rfl) ?_
    refine va_get (D := D) (ci := 0) (v := .ref x1) (C := RX0) (T := TX0) (N := 16) hx hb hts hin hown hK hP 0 rfl rfl 0 (by decide) hw_0 (fun _ h9 => h9) rfl dX0_permissions_18 ?_
    refine lv_iload_n hx hb dX0_permissions_21 rfl (lv_at hl 1 rfl) ?_
    obtain ⟨h_2, h⟩ := ix_some h
    refine va_iald hx hb hK hP 1 0 rfl rfl h_2 dX0_permissions_22 ?_
    cases h
    exact W.iret hx hb hr (fun t ht hW => ⟨⟨_, (), rfl, rfl, by rw [ht]; exact hP, va_K.moved hW.alike hK, hD⟩, hS.F ht⟩) hS.2.2 dX0_permissions_23
  · replace h := (if_pos c_1).symm.trans h
    cases h
-- X0_due
set_option maxHeartbeats 4000000 in
set_option maxRecDepth 100000 in
theorem c0_X0_due (l : Launch) (D : va_G) (cI cJ : ClassId) (x0 x1 x2 x3 x4 x5 x6 x7 x8 x9 : Nat) (sz : Nat) (g : Nat → Int32) (rm : Nat → Int32) (op : Nat → Int32) (rc : Int32) (ec : Int32) (su : Int32) (pe : Int32) (qt : Int32) (rs : Nat → Int32) (rn : Int32) (cs : Nat → Int32) (cn : Int32) (lc : Nat → Int64) (hc : Nat → Int64) (lg : Nat → Int64) (hg : Nat → Int64) (fu : Nat) (a1 : Int32) (r0 : Int32) (h : m_X0_due fu g rm pe qt a1 = some (.inr r0)) : Met l yX0_due wsX0_due ({ frames := 2, cells := 0, slots := 0, locals := 46 }) (va_Pc [.ref x0, .int a1] (bx_Pre D [(cI, .int), (cJ, .long)] (wX cI cJ x0 x1 x2 x3 x4 x5 x6 x7 x8 x9 g rm op rc ec su pe qt rs rn cs cn lc hc lg hg) sz)) (va_Qi (fun (r : Int32) (_ : Unit) => r = r0) (fun (_ : Unit) t => bx_Post D [(cI, .int), (cJ, .long)] (wX cI cJ x0 x1 x2 x3 x4 x5 x6 x7 x8 x9 g rm op rc ec su pe qt rs rn cs cn lc hc lg hg) (va_A (wX cI cJ x0 x1 x2 x3 x4 x5 x6 x7 x8 x9 g rm op rc ec su pe qt rs rn cs cn lc hc lg hg) sz) t) (va_A (wX cI cJ x0 x1 x2 x3 x4 x5 x6 x7 x8 x9 g rm op rc ec su pe qt rs rn cs cn lc hc lg hg) sz)) 0 0 (va_A (wX cI cJ x0 x1 x2 x3 x4 x5 x6 x7 x8 x9 g rm op rc ec su pe qt rs rn cs cn lc hc lg hg) sz) := by
  refine Met.ofW (cc := cX0_due) (maxL := 2) (ret := (some .int)) (by decide) rfl ?_
  intro p e s m args below meth c s₁ B hml hv
  obtain ⟨rfl, hsz, hP, hK, hD0⟩ := hv
  have hx := B.exec
  have hb := B.bytes
  have hr := B.returns
  have hts := atoms_spec (ws := wsX0_due) B.pre
  have hown : s.vm.findClass RX0 = some m.cls := findClass_of_methodNamed B.named
  have hlocks := B.notSynchronized
  subst hsz
  have hD := hD0.self (sz := s.heap.size)
  generalize hAe : va_A (wX cI cJ x0 x1 x2 x3 x4 x5 x6 x7 x8 x9 g rm op rc ec su pe qt rs rn cs cn lc hc lg hg) s.heap.size = A at hD ⊢
  have hA : ∀ q : Nat, s.heap.size ≤ q → A q := fun q h9 => by rw [← hAe]; exact Or.inr h9
  have hS : va_S A s.heap s.heap [] := va_S.rf
  have hin : ∀ w ∈ wsX00, w ∈ wsX0_due := fun _ h9 => List.mem_cons_of_mem _ (List.mem_append_left _ (List.mem_append_right _ h9))
  have hw_0 := hts (.fieldLink RX0 32 "RoleMiner" "quarter" "I") (by decide +kernel)
  have hl := lv_entry ([.ref x0, .int a1]) (n := 2) (Nat.le_of_ble_eq_true rfl)
  rw [lg_entry_eq]
  generalize (lg_sl ([.ref x0, .int a1]) ++ List.replicate (2 - (lg_sl ([.ref x0, .int a1])).length) Slot.unset).toArray = ls at hl ⊢
  have hl : lv_has ls 2 [(0, .ref x0), (1, .int a1)] := hl
  rw [m_X0_due] at h
  refine lv_iload_n hx hb dX0_due_0 rfl (lv_at hl 1 rfl) ?_
  refine cl_Si0 (As := [.int a1]) (rest := []) ⟨hx, hb, hml, hown, hts⟩ (c_X0_isUser l D _ a1) (va_cwS 1 hts gX0_due_X0_isUser rfl rfl rfl (by decide +kernel) ⟨Nat.le_of_ble_eq_true rfl, Nat.le_of_ble_eq_true rfl⟩) hK hP hD hS hA rfl rfl hl.1 rfl (lv_room (Nat.le_of_ble_eq_true rfl)) dX0_due_1 (fun H locs hP hD hS => ?_)
  refine lv_if_ne (tgt := 17) hx hb dX0_due_4 (by decide) (fun c_1 => ?_) (fun c_1 => ?_)
  · replace h := (if_neg c_1).symm.trans h
    refine lv_aload_n hx hb dX0_due_17 rfl (lv_at hl 0 rfl) ?_
    refine lv_aload_n hx hb dX0_due_18 rfl (lv_at hl 0 rfl) ?_
    refine va_get (D := D) (ci := 0) (v := .int qt) (C := RX0) (T := TX0) (N := 16) hx hb hts hin hown hK hP 0 rfl rfl 7 (by decide) hw_0 (fun _ h9 => h9) rfl dX0_due_19 ?_
    refine lv_iconst (v := 1) hx hb dX0_due_22 (by decide) ?_
    refine lv_iadd hx hb dX0_due_23 ?_
    refine lv_iload_n hx hb dX0_due_24 rfl (lv_at hl 1 rfl) ?_
    obtain ⟨r_2, e_3, h⟩ := bnd1_some h
    refine cl_Vi (As := [.int (qt + 1), .int a1]) (rest := []) (wc := wX cI cJ x0 x1 x2 x3 x4 x5 x6 x7 x8 x9 g rm op rc ec su pe qt rs rn cs cn lc hc lg hg) (w1 := wX cI cJ x0 x1 x2 x3 x4 x5 x6 x7 x8 x9 g rm op rc ec su pe qt rs rn cs cn lc hc lg hg) (wr := []) ⟨hx, hb, hml, hown, hts⟩ (c_X0_lapsingIn l D cI cJ x0 x1 x2 x3 x4 x5 x6 x7 x8 x9 _ g rm op rc ec su pe qt rs rn cs cn lc hc lg hg fu (qt + 1) a1 r_2 e_3) (cwV 2 hts gX0_due_X0_lapsingIn rfl rfl rfl (by decide +kernel) ⟨Nat.le_of_ble_eq_true rfl, Nat.le_of_ble_eq_true rfl⟩) hK hP hD hS hA [0, 1, 2, 3, 4, 5, 6, 7, 8, 9] [] rfl rfl (by decide) (by decide) rfl rfl rfl rfl rfl hl.1 rfl (lv_room (Nat.le_of_ble_eq_true rfl)) dX0_due_25 (fun H locs hP hD hS => ?_)
    have hP : va_P D vwCl (wX cI cJ x0 x1 x2 x3 x4 x5 x6 x7 x8 x9 g rm op rc ec su pe qt rs rn cs cn lc hc lg hg) H := hP
    have hD : va_D A (wX cI cJ x0 x1 x2 x3 x4 x5 x6 x7 x8 x9 g rm op rc ec su pe qt rs rn cs cn lc hc lg hg) := hD
    cases h
    exact W.iret hx hb hr (fun t ht hW => ⟨⟨_, (), rfl, rfl, by rw [ht]; exact hP, va_K.moved hW.alike hK, hD⟩, hS.F ht⟩) hS.2.2 dX0_due_28
  · replace h := (if_pos c_1).symm.trans h
    cases h
-- X0_violations
set_option maxHeartbeats 4000000 in
set_option maxRecDepth 100000 in
theorem c0_X0_violations (l : Launch) (D : va_G) (cI cJ : ClassId) (x0 x1 x2 x3 x4 x5 x6 x7 x8 x9 : Nat) (sz : Nat) (g : Nat → Int32) (rm : Nat → Int32) (op : Nat → Int32) (rc : Int32) (ec : Int32) (su : Int32) (pe : Int32) (qt : Int32) (rs : Nat → Int32) (rn : Int32) (cs : Nat → Int32) (cn : Int32) (lc : Nat → Int64) (hc : Nat → Int64) (lg : Nat → Int64) (hg : Nat → Int64) (fu : Nat) (a1 : Int32) (r0 : Int32) (h : m_X0_violations fu g op a1 = some (.inr r0)) : Met l yX0_violations wsX0_violations ({ frames := 1, cells := 0, slots := 0, locals := 21 }) (va_Pc [.ref x0, .int a1] (bx_Pre D [(cI, .int), (cJ, .long)] (wX cI cJ x0 x1 x2 x3 x4 x5 x6 x7 x8 x9 g rm op rc ec su pe qt rs rn cs cn lc hc lg hg) sz)) (va_Qi (fun (r : Int32) (_ : Unit) => r = r0) (fun (_ : Unit) t => bx_Post D [(cI, .int), (cJ, .long)] (wX cI cJ x0 x1 x2 x3 x4 x5 x6 x7 x8 x9 g rm op rc ec su pe qt rs rn cs cn lc hc lg hg) (va_A (wX cI cJ x0 x1 x2 x3 x4 x5 x6 x7 x8 x9 g rm op rc ec su pe qt rs rn cs cn lc hc lg hg) sz) t) (va_A (wX cI cJ x0 x1 x2 x3 x4 x5 x6 x7 x8 x9 g rm op rc ec su pe qt rs rn cs cn lc hc lg hg) sz)) 0 0 (va_A (wX cI cJ x0 x1 x2 x3 x4 x5 x6 x7 x8 x9 g rm op rc ec su pe qt rs rn cs cn lc hc lg hg) sz) := by
  refine Met.ofW (cc := cX0_violations) (maxL := 4) (ret := (some .int)) (by decide) rfl ?_
  intro p e s m args below meth c s₁ B hml hv
  obtain ⟨rfl, hsz, hP, hK, hD0⟩ := hv
  have hx := B.exec
  have hb := B.bytes
  have hr := B.returns
  have hts := atoms_spec (ws := wsX0_violations) B.pre
  have hown : s.vm.findClass RX0 = some m.cls := findClass_of_methodNamed B.named
  have hlocks := B.notSynchronized
  subst hsz
  have hD := hD0.self (sz := s.heap.size)
  generalize hAe : va_A (wX cI cJ x0 x1 x2 x3 x4 x5 x6 x7 x8 x9 g rm op rc ec su pe qt rs rn cs cn lc hc lg hg) s.heap.size = A at hD ⊢
  have hA : ∀ q : Nat, s.heap.size ≤ q → A q := fun q h9 => by rw [← hAe]; exact Or.inr h9
  have hS : va_S A s.heap s.heap [] := va_S.rf
  have hin : ∀ w ∈ wsX00, w ∈ wsX0_violations := fun _ h9 => List.mem_cons_of_mem _ (List.mem_append_left _ (List.mem_append_right _ h9))
  have hw_0 := hts (.fieldLink RX0 9 "RoleMiner" "granted" "[I") (by decide +kernel)
  have hw_1 := hts (.fieldLink RX0 16 "RoleMiner" "opposed" "[I") (by decide +kernel)
  have hl := lv_entry ([.ref x0, .int a1]) (n := 4) (Nat.le_of_ble_eq_true rfl)
  rw [lg_entry_eq]
  generalize (lg_sl ([.ref x0, .int a1]) ++ List.replicate (4 - (lg_sl ([.ref x0, .int a1])).length) Slot.unset).toArray = ls at hl ⊢
  have hl : lv_has ls 4 [(0, .ref x0), (1, .int a1)] := hl
  have L21 : ∀ (n : Nat) (v2 : Int32) (v3 : Int32) (H : Heap) (locs : List Loc) (ls : Array Slot), m_X0_violations_21 fu g op a1 n v2 v3 = some (.inr r0) → va_P D vwCl (wX cI cJ x0 x1 x2 x3 x4 x5 x6 x7 x8 x9 g rm op rc ec su pe qt rs rn cs cn lc hc lg hg) H → va_D A (wX cI cJ x0 x1 x2 x3 x4 x5 x6 x7 x8 x9 g rm op rc ec su pe qt rs rn cs cn lc hc lg hg) → va_S A s.heap H locs → lv_has ls 4 [(0, .ref x0), (1, .int a1), (2, .int v2), (3, .int v3)] → W p l e (headSpec wsX0_violations ({ frames := 1, cells := 0, slots := 0, locals := 21 })).room s m ([.ref x0, .int a1] : List Value).toArray below meth c H locs 0 0 (MQ below (va_Qi (fun (r : Int32) (_ : Unit) => r = r0) (fun (_ : Unit) t => bx_Post D [(cI, .int), (cJ, .long)] (wX cI cJ x0 x1 x2 x3 x4 x5 x6 x7 x8 x9 g rm op rc ec su pe qt rs rn cs cn lc hc lg hg) A t) A) ([.ref x0, .int a1] : List Value).toArray s 0 0 A) (F0 m 21 ls []) := by
    intro n
    induction n with
    | zero =>
      intro v2 v3 H locs ls h
      rw [m_X0_violations_21] at h
      cases h
    | succ n ih =>
      intro v2 v3 H locs ls h hP hD hS hl
      rw [m_X0_violations_21] at h
      refine lv_iload_n hx hb dX0_violations_21 rfl (lv_at hl 3 rfl) ?_
      refine lv_bipush (v := 12) hx hb dX0_violations_22 (by decide) ?_
      refine lv_icmp_ge (tgt := 65) hx hb dX0_violations_24 (by decide) (fun c_2 => ?_) (fun c_2 => ?_)
      · replace h := (if_pos c_2).symm.trans h
        refine lv_iload_n hx hb dX0_violations_65 rfl (lv_at hl 2 rfl) ?_
        refine lv_iconst (v := 2) hx hb dX0_violations_66 (by decide) ?_
        refine lv_idiv hx hb dX0_violations_67 (by decide) ?_
        cases h
        exact W.iret hx hb hr (fun t ht hW => ⟨⟨_, (), rfl, rfl, by rw [ht]; exact hP, va_K.moved hW.alike hK, hD⟩, hS.F ht⟩) hS.2.2 dX0_violations_68
      · replace h := (if_neg c_2).symm.trans h
        refine lv_aload_n hx hb dX0_violations_27 rfl (lv_at hl 0 rfl) ?_
        refine va_get (D := D) (ci := 0) (v := .ref x1) (C := RX0) (T := TX0) (N := 16) hx hb hts hin hown hK hP 0 rfl rfl 0 (by decide) hw_0 (fun _ h9 => h9) rfl dX0_violations_28 ?_
        refine lv_iload_n hx hb dX0_violations_31 rfl (lv_at hl 1 rfl) ?_
        obtain ⟨h_3, h⟩ := ix_some h
        refine va_iald hx hb hK hP 1 0 rfl rfl h_3 dX0_violations_32 ?_
        refine lv_iload_n hx hb dX0_violations_33 rfl (lv_at hl 3 rfl) ?_
        refine cl_Si0 (As := [.int (g (Int32.toNatClampNeg a1)), .int v3]) (rest := []) ⟨hx, hb, hml, hown, hts⟩ (c_X0_has l D _ (g (Int32.toNatClampNeg a1)) v3) (va_cwS 2 hts gX0_violations_X0_has rfl rfl rfl (by decide +kernel) ⟨Nat.le_of_ble_eq_true rfl, Nat.le_of_ble_eq_true rfl⟩) hK hP hD hS hA rfl rfl hl.1 rfl (lv_room (Nat.le_of_ble_eq_true rfl)) dX0_violations_34 (fun H locs hP hD hS => ?_)
        refine lv_if_eq (tgt := 59) hx hb dX0_violations_37 (by decide) (fun c_4 => ?_) (fun c_4 => ?_)
        · replace h := (if_pos c_4).symm.trans h
          refine lv_iinc (v := (v3 + 1)) (lv' := [(3, .int (v3 + 1)), (0, .ref x0), (1, .int a1), (2, .int v2)]) hx hb dX0_violations_59 hl (k := 3) rfl rfl (by decide) rfl (fun ls hl => ?_)
          refine lv_goto (tgt := 21) hx hb dX0_violations_62 (by decide) ?_
          exact ih v2 (v3 + 1) _ _ _ h hP hD hS (lv_sub hl [1, 2, 3, 0] rfl)
        · replace h := (if_neg c_4).symm.trans h
          refine lv_iload_n hx hb dX0_violations_40 rfl (lv_at hl 2 rfl) ?_
          refine lv_aload_n hx hb dX0_violations_41 rfl (lv_at hl 0 rfl) ?_
          refine va_get (D := D) (ci := 0) (v := .ref x3) (C := RX0) (T := TX0) (N := 16) hx hb hts hin hown hK hP 0 rfl rfl 2 (by decide) hw_1 (fun _ h9 => h9) rfl dX0_violations_42 ?_
          refine lv_iload_n hx hb dX0_violations_45 rfl (lv_at hl 3 rfl) ?_
          obtain ⟨h_5, h⟩ := ix_some h
          refine va_iald hx hb hK hP 3 0 rfl rfl h_5 dX0_violations_46 ?_
          refine lv_aload_n hx hb dX0_violations_47 rfl (lv_at hl 0 rfl) ?_
          refine va_get (D := D) (ci := 0) (v := .ref x1) (C := RX0) (T := TX0) (N := 16) hx hb hts hin hown hK hP 0 rfl rfl 0 (by decide) hw_0 (fun _ h9 => h9) rfl dX0_violations_48 ?_
          refine lv_iload_n hx hb dX0_violations_51 rfl (lv_at hl 1 rfl) ?_
          refine va_iald hx hb hK hP 1 0 rfl rfl h_3 dX0_violations_52 ?_
          refine lv_iand hx hb dX0_violations_53 ?_
          refine cl_Si0 (As := [.int ((op (Int32.toNatClampNeg v3)) &&& (g (Int32.toNatClampNeg a1)))]) (rest := [.int v2]) ⟨hx, hb, hml, hown, hts⟩ (c_J6_bitCount_0f7a4 l D _ ((op (Int32.toNatClampNeg v3)) &&& (g (Int32.toNatClampNeg a1)))) (va_cwS 1 hts gX0_violations_J6_bitCount_0f7a4 rfl rfl rfl (by decide +kernel) ⟨Nat.le_of_ble_eq_true rfl, Nat.le_of_ble_eq_true rfl⟩) hK hP hD hS hA rfl rfl hl.1 rfl (lv_room (Nat.le_of_ble_eq_true rfl)) dX0_violations_54 (fun H locs hP hD hS => ?_)
          refine lv_iadd hx hb dX0_violations_57 ?_
          refine lv_istore_n (lv' := [(2, .int (v2 + (m_J6_bitCount_0f7a4 ((op (Int32.toNatClampNeg v3)) &&& (g (Int32.toNatClampNeg a1)))))), (0, .ref x0), (1, .int a1), (3, .int v3)]) hx hb dX0_violations_58 rfl hl (by decide) rfl (fun ls hl => ?_)
          refine lv_iinc (v := (v3 + 1)) (lv' := [(3, .int (v3 + 1)), (2, .int (v2 + (m_J6_bitCount_0f7a4 ((op (Int32.toNatClampNeg v3)) &&& (g (Int32.toNatClampNeg a1)))))), (0, .ref x0), (1, .int a1)]) hx hb dX0_violations_59 hl (k := 3) rfl rfl (by decide) rfl (fun ls hl => ?_)
          refine lv_goto (tgt := 21) hx hb dX0_violations_62 (by decide) ?_
          exact ih (v2 + (m_J6_bitCount_0f7a4 ((op (Int32.toNatClampNeg v3)) &&& (g (Int32.toNatClampNeg a1))))) (v3 + 1) _ _ _ h hP hD hS (lv_sub hl [2, 3, 1, 0] rfl)
  rw [m_X0_violations] at h
  refine lv_iload_n hx hb dX0_violations_0 rfl (lv_at hl 1 rfl) ?_
  refine cl_Si0 (As := [.int a1]) (rest := []) ⟨hx, hb, hml, hown, hts⟩ (c_X0_isUser l D _ a1) (va_cwS 1 hts gX0_violations_X0_isUser rfl rfl rfl (by decide +kernel) ⟨Nat.le_of_ble_eq_true rfl, Nat.le_of_ble_eq_true rfl⟩) hK hP hD hS hA rfl rfl hl.1 rfl (lv_room (Nat.le_of_ble_eq_true rfl)) dX0_violations_1 (fun H locs hP hD hS => ?_)
  refine lv_if_ne (tgt := 17) hx hb dX0_violations_4 (by decide) (fun c_1 => ?_) (fun c_1 => ?_)
  · replace h := (if_neg c_1).symm.trans h
    refine lv_iconst (v := 0) hx hb dX0_violations_17 (by decide) ?_
    refine lv_istore_n (lv' := [(2, .int 0), (0, .ref x0), (1, .int a1)]) hx hb dX0_violations_18 rfl hl (by decide) rfl (fun ls hl => ?_)
    refine lv_iconst (v := 0) hx hb dX0_violations_19 (by decide) ?_
    refine lv_istore_n (lv' := [(3, .int 0), (2, .int 0), (0, .ref x0), (1, .int a1)]) hx hb dX0_violations_20 rfl hl (by decide) rfl (fun ls hl => ?_)
    exact L21 fu 0 0 _ _ _ h hP hD hS (lv_sub hl [2, 3, 1, 0] rfl)
  · replace h := (if_pos c_1).symm.trans h
    cases h
-- X0_byRoles
set_option maxHeartbeats 4000000 in
set_option maxRecDepth 100000 in
theorem c0_X0_byRoles (l : Launch) (D : va_G) (cI cJ : ClassId) (x0 x1 x2 x3 x4 x5 x6 x7 x8 x9 : Nat) (sz : Nat) (g : Nat → Int32) (rm : Nat → Int32) (op : Nat → Int32) (rc : Int32) (ec : Int32) (su : Int32) (pe : Int32) (qt : Int32) (rs : Nat → Int32) (rn : Int32) (cs : Nat → Int32) (cn : Int32) (lc : Nat → Int64) (hc : Nat → Int64) (lg : Nat → Int64) (hg : Nat → Int64) (fu : Nat) (a1 : Int32) (r0 : Int32) (h : m_X0_byRoles fu g rs rn a1 = some (.inr r0)) : Met l yX0_byRoles wsX0_byRoles ({ frames := 2, cells := 0, slots := 0, locals := 45 }) (va_Pc [.ref x0, .int a1] (bx_Pre D [(cI, .int), (cJ, .long)] (wX cI cJ x0 x1 x2 x3 x4 x5 x6 x7 x8 x9 g rm op rc ec su pe qt rs rn cs cn lc hc lg hg) sz)) (va_Qi (fun (r : Int32) (_ : Unit) => r = r0) (fun (_ : Unit) t => bx_Post D [(cI, .int), (cJ, .long)] (wX cI cJ x0 x1 x2 x3 x4 x5 x6 x7 x8 x9 g rm op rc ec su pe qt rs rn cs cn lc hc lg hg) (va_A (wX cI cJ x0 x1 x2 x3 x4 x5 x6 x7 x8 x9 g rm op rc ec su pe qt rs rn cs cn lc hc lg hg) sz) t) (va_A (wX cI cJ x0 x1 x2 x3 x4 x5 x6 x7 x8 x9 g rm op rc ec su pe qt rs rn cs cn lc hc lg hg) sz)) 0 0 (va_A (wX cI cJ x0 x1 x2 x3 x4 x5 x6 x7 x8 x9 g rm op rc ec su pe qt rs rn cs cn lc hc lg hg) sz) := by
  refine Met.ofW (cc := cX0_byRoles) (maxL := 2) (ret := (some .int)) (by decide) rfl ?_
  intro p e s m args below meth c s₁ B hml hv
  obtain ⟨rfl, hsz, hP, hK, hD0⟩ := hv
  have hx := B.exec
  have hb := B.bytes
  have hr := B.returns
  have hts := atoms_spec (ws := wsX0_byRoles) B.pre
  have hown : s.vm.findClass RX0 = some m.cls := findClass_of_methodNamed B.named
  have hlocks := B.notSynchronized
  subst hsz
  have hD := hD0.self (sz := s.heap.size)
  generalize hAe : va_A (wX cI cJ x0 x1 x2 x3 x4 x5 x6 x7 x8 x9 g rm op rc ec su pe qt rs rn cs cn lc hc lg hg) s.heap.size = A at hD ⊢
  have hA : ∀ q : Nat, s.heap.size ≤ q → A q := fun q h9 => by rw [← hAe]; exact Or.inr h9
  have hS : va_S A s.heap s.heap [] := va_S.rf
  have hin : ∀ w ∈ wsX00, w ∈ wsX0_byRoles := fun _ h9 => List.mem_cons_of_mem _ (List.mem_append_left _ (List.mem_append_right _ h9))
  have hl := lv_entry ([.ref x0, .int a1]) (n := 2) (Nat.le_of_ble_eq_true rfl)
  rw [lg_entry_eq]
  generalize (lg_sl ([.ref x0, .int a1]) ++ List.replicate (2 - (lg_sl ([.ref x0, .int a1])).length) Slot.unset).toArray = ls at hl ⊢
  have hl : lv_has ls 2 [(0, .ref x0), (1, .int a1)] := hl
  rw [m_X0_byRoles] at h
  refine lv_iload_n hx hb dX0_byRoles_0 rfl (lv_at hl 1 rfl) ?_
  refine cl_Si0 (As := [.int a1]) (rest := []) ⟨hx, hb, hml, hown, hts⟩ (c_X0_isUser l D _ a1) (va_cwS 1 hts gX0_byRoles_X0_isUser rfl rfl rfl (by decide +kernel) ⟨Nat.le_of_ble_eq_true rfl, Nat.le_of_ble_eq_true rfl⟩) hK hP hD hS hA rfl rfl hl.1 rfl (lv_room (Nat.le_of_ble_eq_true rfl)) dX0_byRoles_1 (fun H locs hP hD hS => ?_)
  refine lv_if_ne (tgt := 17) hx hb dX0_byRoles_4 (by decide) (fun c_1 => ?_) (fun c_1 => ?_)
  · replace h := (if_neg c_1).symm.trans h
    refine lv_aload_n hx hb dX0_byRoles_17 rfl (lv_at hl 0 rfl) ?_
    refine lv_iload_n hx hb dX0_byRoles_18 rfl (lv_at hl 1 rfl) ?_
    obtain ⟨r_2, e_3, h⟩ := bnd1_some h
    refine cl_Vi (As := [.int a1]) (rest := []) (wc := wX cI cJ x0 x1 x2 x3 x4 x5 x6 x7 x8 x9 g rm op rc ec su pe qt rs rn cs cn lc hc lg hg) (w1 := wX cI cJ x0 x1 x2 x3 x4 x5 x6 x7 x8 x9 g rm op rc ec su pe qt rs rn cs cn lc hc lg hg) (wr := []) ⟨hx, hb, hml, hown, hts⟩ (c_X0_joinedRoles l D cI cJ x0 x1 x2 x3 x4 x5 x6 x7 x8 x9 _ g rm op rc ec su pe qt rs rn cs cn lc hc lg hg fu a1 r_2 e_3) (cwV 1 hts gX0_byRoles_X0_joinedRoles rfl rfl rfl (by decide +kernel) ⟨Nat.le_of_ble_eq_true rfl, Nat.le_of_ble_eq_true rfl⟩) hK hP hD hS hA [0, 1, 2, 3, 4, 5, 6, 7, 8, 9] [] rfl rfl (by decide) (by decide) rfl rfl rfl rfl rfl hl.1 rfl (lv_room (Nat.le_of_ble_eq_true rfl)) dX0_byRoles_19 (fun H locs hP hD hS => ?_)
    have hP : va_P D vwCl (wX cI cJ x0 x1 x2 x3 x4 x5 x6 x7 x8 x9 g rm op rc ec su pe qt rs rn cs cn lc hc lg hg) H := hP
    have hD : va_D A (wX cI cJ x0 x1 x2 x3 x4 x5 x6 x7 x8 x9 g rm op rc ec su pe qt rs rn cs cn lc hc lg hg) := hD
    cases h
    exact W.iret hx hb hr (fun t ht hW => ⟨⟨_, (), rfl, rfl, by rw [ht]; exact hP, va_K.moved hW.alike hK, hD⟩, hS.F ht⟩) hS.2.2 dX0_byRoles_22
  · replace h := (if_pos c_1).symm.trans h
    cases h
-- X0_rolesOf
set_option maxHeartbeats 4000000 in
set_option maxRecDepth 100000 in
theorem c0_X0_rolesOf (l : Launch) (D : va_G) (cI cJ : ClassId) (x0 x1 x2 x3 x4 x5 x6 x7 x8 x9 : Nat) (sz : Nat) (g : Nat → Int32) (rm : Nat → Int32) (op : Nat → Int32) (rc : Int32) (ec : Int32) (su : Int32) (pe : Int32) (qt : Int32) (rs : Nat → Int32) (rn : Int32) (cs : Nat → Int32) (cn : Int32) (lc : Nat → Int64) (hc : Nat → Int64) (lg : Nat → Int64) (hg : Nat → Int64) (fu : Nat) (a1 : Int32) (r0 : Int32) (h : m_X0_rolesOf fu g rs rn a1 = some (.inr r0)) : Met l yX0_rolesOf wsX0_rolesOf ({ frames := 1, cells := 0, slots := 0, locals := 22 }) (va_Pc [.ref x0, .int a1] (bx_Pre D [(cI, .int), (cJ, .long)] (wX cI cJ x0 x1 x2 x3 x4 x5 x6 x7 x8 x9 g rm op rc ec su pe qt rs rn cs cn lc hc lg hg) sz)) (va_Qi (fun (r : Int32) (_ : Unit) => r = r0) (fun (_ : Unit) t => bx_Post D [(cI, .int), (cJ, .long)] (wX cI cJ x0 x1 x2 x3 x4 x5 x6 x7 x8 x9 g rm op rc ec su pe qt rs rn cs cn lc hc lg hg) (va_A (wX cI cJ x0 x1 x2 x3 x4 x5 x6 x7 x8 x9 g rm op rc ec su pe qt rs rn cs cn lc hc lg hg) sz) t) (va_A (wX cI cJ x0 x1 x2 x3 x4 x5 x6 x7 x8 x9 g rm op rc ec su pe qt rs rn cs cn lc hc lg hg) sz)) 0 0 (va_A (wX cI cJ x0 x1 x2 x3 x4 x5 x6 x7 x8 x9 g rm op rc ec su pe qt rs rn cs cn lc hc lg hg) sz) := by
  refine Met.ofW (cc := cX0_rolesOf) (maxL := 4) (ret := (some .int)) (by decide) rfl ?_
  intro p e s m args below meth c s₁ B hml hv
  obtain ⟨rfl, hsz, hP, hK, hD0⟩ := hv
  have hx := B.exec
  have hb := B.bytes
  have hr := B.returns
  have hts := atoms_spec (ws := wsX0_rolesOf) B.pre
  have hown : s.vm.findClass RX0 = some m.cls := findClass_of_methodNamed B.named
  have hlocks := B.notSynchronized
  subst hsz
  have hD := hD0.self (sz := s.heap.size)
  generalize hAe : va_A (wX cI cJ x0 x1 x2 x3 x4 x5 x6 x7 x8 x9 g rm op rc ec su pe qt rs rn cs cn lc hc lg hg) s.heap.size = A at hD ⊢
  have hA : ∀ q : Nat, s.heap.size ≤ q → A q := fun q h9 => by rw [← hAe]; exact Or.inr h9
  have hS : va_S A s.heap s.heap [] := va_S.rf
  have hin : ∀ w ∈ wsX00, w ∈ wsX0_rolesOf := fun _ h9 => List.mem_cons_of_mem _ (List.mem_append_left _ (List.mem_append_right _ h9))
  have hw_0 := hts (.fieldLink RX0 38 "RoleMiner" "roleCount" "I") (by decide +kernel)
  have hw_1 := hts (.fieldLink RX0 35 "RoleMiner" "roleSets" "[I") (by decide +kernel)
  have hl := lv_entry ([.ref x0, .int a1]) (n := 4) (Nat.le_of_ble_eq_true rfl)
  rw [lg_entry_eq]
  generalize (lg_sl ([.ref x0, .int a1]) ++ List.replicate (4 - (lg_sl ([.ref x0, .int a1])).length) Slot.unset).toArray = ls at hl ⊢
  have hl : lv_has ls 4 [(0, .ref x0), (1, .int a1)] := hl
  have L21 : ∀ (n : Nat) (v2 : Int32) (v3 : Int32) (H : Heap) (locs : List Loc) (ls : Array Slot), m_X0_rolesOf_21 fu g rs rn a1 n v2 v3 = some (.inr r0) → va_P D vwCl (wX cI cJ x0 x1 x2 x3 x4 x5 x6 x7 x8 x9 g rm op rc ec su pe qt rs rn cs cn lc hc lg hg) H → va_D A (wX cI cJ x0 x1 x2 x3 x4 x5 x6 x7 x8 x9 g rm op rc ec su pe qt rs rn cs cn lc hc lg hg) → va_S A s.heap H locs → lv_has ls 4 [(0, .ref x0), (1, .int a1), (2, .int v2), (3, .int v3)] → W p l e (headSpec wsX0_rolesOf ({ frames := 1, cells := 0, slots := 0, locals := 22 })).room s m ([.ref x0, .int a1] : List Value).toArray below meth c H locs 0 0 (MQ below (va_Qi (fun (r : Int32) (_ : Unit) => r = r0) (fun (_ : Unit) t => bx_Post D [(cI, .int), (cJ, .long)] (wX cI cJ x0 x1 x2 x3 x4 x5 x6 x7 x8 x9 g rm op rc ec su pe qt rs rn cs cn lc hc lg hg) A t) A) ([.ref x0, .int a1] : List Value).toArray s 0 0 A) (F0 m 21 ls []) := by
    intro n
    induction n with
    | zero =>
      intro v2 v3 H locs ls h
      rw [m_X0_rolesOf_21] at h
      cases h
    | succ n ih =>
      intro v2 v3 H locs ls h hP hD hS hl
      rw [m_X0_rolesOf_21] at h
      refine lv_iload_n hx hb dX0_rolesOf_21 rfl (lv_at hl 3 rfl) ?_
      refine lv_aload_n hx hb dX0_rolesOf_22 rfl (lv_at hl 0 rfl) ?_
      refine va_get (D := D) (ci := 0) (v := .int rn) (C := RX0) (T := TX0) (N := 16) hx hb hts hin hown hK hP 0 rfl rfl 9 (by decide) hw_0 (fun _ h9 => h9) rfl dX0_rolesOf_23 ?_
      refine lv_icmp_ge (tgt := 52) hx hb dX0_rolesOf_26 (by decide) (fun c_2 => ?_) (fun c_2 => ?_)
      · replace h := (if_pos c_2).symm.trans h
        refine lv_iload_n hx hb dX0_rolesOf_52 rfl (lv_at hl 2 rfl) ?_
        cases h
        exact W.iret hx hb hr (fun t ht hW => ⟨⟨_, (), rfl, rfl, by rw [ht]; exact hP, va_K.moved hW.alike hK, hD⟩, hS.F ht⟩) hS.2.2 dX0_rolesOf_53
      · replace h := (if_neg c_2).symm.trans h
        refine lv_aload_n hx hb dX0_rolesOf_29 rfl (lv_at hl 0 rfl) ?_
        refine lv_iload_n hx hb dX0_rolesOf_30 rfl (lv_at hl 1 rfl) ?_
        refine lv_aload_n hx hb dX0_rolesOf_31 rfl (lv_at hl 0 rfl) ?_
        refine va_get (D := D) (ci := 0) (v := .ref x4) (C := RX0) (T := TX0) (N := 16) hx hb hts hin hown hK hP 0 rfl rfl 8 (by decide) hw_1 (fun _ h9 => h9) rfl dX0_rolesOf_32 ?_
        refine lv_iload_n hx hb dX0_rolesOf_35 rfl (lv_at hl 3 rfl) ?_
        obtain ⟨h_3, h⟩ := ix_some h
        refine va_iald hx hb hK hP 4 0 rfl rfl h_3 dX0_rolesOf_36 ?_
        obtain ⟨r_4, e_5, h⟩ := bnd1_some h
        refine cl_Vi (As := [.int a1, .int (rs (Int32.toNatClampNeg v3))]) (rest := []) (wc := wX cI cJ x0 x1 x2 x3 x4 x5 x6 x7 x8 x9 g rm op rc ec su pe qt rs rn cs cn lc hc lg hg) (w1 := wX cI cJ x0 x1 x2 x3 x4 x5 x6 x7 x8 x9 g rm op rc ec su pe qt rs rn cs cn lc hc lg hg) (wr := []) ⟨hx, hb, hml, hown, hts⟩ (c_X0_holds l D cI cJ x0 x1 x2 x3 x4 x5 x6 x7 x8 x9 _ g rm op rc ec su pe qt rs rn cs cn lc hc lg hg a1 (rs (Int32.toNatClampNeg v3)) r_4 e_5) (cwV 2 hts gX0_rolesOf_X0_holds rfl rfl rfl (by decide +kernel) ⟨Nat.le_of_ble_eq_true rfl, Nat.le_of_ble_eq_true rfl⟩) hK hP hD hS hA [0, 1, 2, 3, 4, 5, 6, 7, 8, 9] [] rfl rfl (by decide) (by decide) rfl rfl rfl rfl rfl hl.1 rfl (lv_room (Nat.le_of_ble_eq_true rfl)) dX0_rolesOf_37 (fun H locs hP hD hS => ?_)
        have hP : va_P D vwCl (wX cI cJ x0 x1 x2 x3 x4 x5 x6 x7 x8 x9 g rm op rc ec su pe qt rs rn cs cn lc hc lg hg) H := hP
        have hD : va_D A (wX cI cJ x0 x1 x2 x3 x4 x5 x6 x7 x8 x9 g rm op rc ec su pe qt rs rn cs cn lc hc lg hg) := hD
        refine lv_if_eq (tgt := 46) hx hb dX0_rolesOf_40 (by decide) (fun c_6 => ?_) (fun c_6 => ?_)
        · replace h := (if_pos c_6).symm.trans h
          refine lv_iinc (v := (v3 + 1)) (lv' := [(3, .int (v3 + 1)), (0, .ref x0), (1, .int a1), (2, .int v2)]) hx hb dX0_rolesOf_46 hl (k := 3) rfl rfl (by decide) rfl (fun ls hl => ?_)
          refine lv_goto (tgt := 21) hx hb dX0_rolesOf_49 (by decide) ?_
          exact ih v2 (v3 + 1) _ _ _ h hP hD hS (lv_sub hl [1, 2, 3, 0] rfl)
        · replace h := (if_neg c_6).symm.trans h
          refine lv_iinc (v := (v2 + 1)) (lv' := [(2, .int (v2 + 1)), (0, .ref x0), (1, .int a1), (3, .int v3)]) hx hb dX0_rolesOf_43 hl (k := 2) rfl rfl (by decide) rfl (fun ls hl => ?_)
          refine lv_iinc (v := (v3 + 1)) (lv' := [(3, .int (v3 + 1)), (2, .int (v2 + 1)), (0, .ref x0), (1, .int a1)]) hx hb dX0_rolesOf_46 hl (k := 3) rfl rfl (by decide) rfl (fun ls hl => ?_)
          refine lv_goto (tgt := 21) hx hb dX0_rolesOf_49 (by decide) ?_
          exact ih (v2 + 1) (v3 + 1) _ _ _ h hP hD hS (lv_sub hl [2, 3, 1, 0] rfl)
  rw [m_X0_rolesOf] at h
  refine lv_iload_n hx hb dX0_rolesOf_0 rfl (lv_at hl 1 rfl) ?_
  refine cl_Si0 (As := [.int a1]) (rest := []) ⟨hx, hb, hml, hown, hts⟩ (c_X0_isUser l D _ a1) (va_cwS 1 hts gX0_rolesOf_X0_isUser rfl rfl rfl (by decide +kernel) ⟨Nat.le_of_ble_eq_true rfl, Nat.le_of_ble_eq_true rfl⟩) hK hP hD hS hA rfl rfl hl.1 rfl (lv_room (Nat.le_of_ble_eq_true rfl)) dX0_rolesOf_1 (fun H locs hP hD hS => ?_)
  refine lv_if_ne (tgt := 17) hx hb dX0_rolesOf_4 (by decide) (fun c_1 => ?_) (fun c_1 => ?_)
  · replace h := (if_neg c_1).symm.trans h
    refine lv_iconst (v := 0) hx hb dX0_rolesOf_17 (by decide) ?_
    refine lv_istore_n (lv' := [(2, .int 0), (0, .ref x0), (1, .int a1)]) hx hb dX0_rolesOf_18 rfl hl (by decide) rfl (fun ls hl => ?_)
    refine lv_iconst (v := 0) hx hb dX0_rolesOf_19 (by decide) ?_
    refine lv_istore_n (lv' := [(3, .int 0), (2, .int 0), (0, .ref x0), (1, .int a1)]) hx hb dX0_rolesOf_20 rfl hl (by decide) rfl (fun ls hl => ?_)
    exact L21 fu 0 0 _ _ _ h hP hD hS (lv_sub hl [2, 3, 1, 0] rfl)
  · replace h := (if_pos c_1).symm.trans h
    cases h
-- X0_exceptions
set_option maxHeartbeats 4000000 in
set_option maxRecDepth 100000 in
theorem c0_X0_exceptions (l : Launch) (D : va_G) (cI cJ : ClassId) (x0 x1 x2 x3 x4 x5 x6 x7 x8 x9 : Nat) (sz : Nat) (g : Nat → Int32) (rm : Nat → Int32) (op : Nat → Int32) (rc : Int32) (ec : Int32) (su : Int32) (pe : Int32) (qt : Int32) (rs : Nat → Int32) (rn : Int32) (cs : Nat → Int32) (cn : Int32) (lc : Nat → Int64) (hc : Nat → Int64) (lg : Nat → Int64) (hg : Nat → Int64) (fu : Nat) (a1 : Int32) (r0 : Int32) (h : m_X0_exceptions fu g rs rn a1 = some (.inr r0)) : Met l yX0_exceptions wsX0_exceptions ({ frames := 2, cells := 0, slots := 0, locals := 45 }) (va_Pc [.ref x0, .int a1] (bx_Pre D [(cI, .int), (cJ, .long)] (wX cI cJ x0 x1 x2 x3 x4 x5 x6 x7 x8 x9 g rm op rc ec su pe qt rs rn cs cn lc hc lg hg) sz)) (va_Qi (fun (r : Int32) (_ : Unit) => r = r0) (fun (_ : Unit) t => bx_Post D [(cI, .int), (cJ, .long)] (wX cI cJ x0 x1 x2 x3 x4 x5 x6 x7 x8 x9 g rm op rc ec su pe qt rs rn cs cn lc hc lg hg) (va_A (wX cI cJ x0 x1 x2 x3 x4 x5 x6 x7 x8 x9 g rm op rc ec su pe qt rs rn cs cn lc hc lg hg) sz) t) (va_A (wX cI cJ x0 x1 x2 x3 x4 x5 x6 x7 x8 x9 g rm op rc ec su pe qt rs rn cs cn lc hc lg hg) sz)) 0 0 (va_A (wX cI cJ x0 x1 x2 x3 x4 x5 x6 x7 x8 x9 g rm op rc ec su pe qt rs rn cs cn lc hc lg hg) sz) := by
  refine Met.ofW (cc := cX0_exceptions) (maxL := 2) (ret := (some .int)) (by decide) rfl ?_
  intro p e s m args below meth c s₁ B hml hv
  obtain ⟨rfl, hsz, hP, hK, hD0⟩ := hv
  have hx := B.exec
  have hb := B.bytes
  have hr := B.returns
  have hts := atoms_spec (ws := wsX0_exceptions) B.pre
  have hown : s.vm.findClass RX0 = some m.cls := findClass_of_methodNamed B.named
  have hlocks := B.notSynchronized
  subst hsz
  have hD := hD0.self (sz := s.heap.size)
  generalize hAe : va_A (wX cI cJ x0 x1 x2 x3 x4 x5 x6 x7 x8 x9 g rm op rc ec su pe qt rs rn cs cn lc hc lg hg) s.heap.size = A at hD ⊢
  have hA : ∀ q : Nat, s.heap.size ≤ q → A q := fun q h9 => by rw [← hAe]; exact Or.inr h9
  have hS : va_S A s.heap s.heap [] := va_S.rf
  have hin : ∀ w ∈ wsX00, w ∈ wsX0_exceptions := fun _ h9 => List.mem_cons_of_mem _ (List.mem_append_left _ (List.mem_append_right _ h9))
  have hw_0 := hts (.fieldLink RX0 9 "RoleMiner" "granted" "[I") (by decide +kernel)
  have hl := lv_entry ([.ref x0, .int a1]) (n := 2) (Nat.le_of_ble_eq_true rfl)
  rw [lg_entry_eq]
  generalize (lg_sl ([.ref x0, .int a1]) ++ List.replicate (2 - (lg_sl ([.ref x0, .int a1])).length) Slot.unset).toArray = ls at hl ⊢
  have hl : lv_has ls 2 [(0, .ref x0), (1, .int a1)] := hl
  rw [m_X0_exceptions] at h
  refine lv_iload_n hx hb dX0_exceptions_0 rfl (lv_at hl 1 rfl) ?_
  refine cl_Si0 (As := [.int a1]) (rest := []) ⟨hx, hb, hml, hown, hts⟩ (c_X0_isUser l D _ a1) (va_cwS 1 hts gX0_exceptions_X0_isUser rfl rfl rfl (by decide +kernel) ⟨Nat.le_of_ble_eq_true rfl, Nat.le_of_ble_eq_true rfl⟩) hK hP hD hS hA rfl rfl hl.1 rfl (lv_room (Nat.le_of_ble_eq_true rfl)) dX0_exceptions_1 (fun H locs hP hD hS => ?_)
  refine lv_if_ne (tgt := 17) hx hb dX0_exceptions_4 (by decide) (fun c_1 => ?_) (fun c_1 => ?_)
  · replace h := (if_neg c_1).symm.trans h
    refine lv_aload_n hx hb dX0_exceptions_17 rfl (lv_at hl 0 rfl) ?_
    refine va_get (D := D) (ci := 0) (v := .ref x1) (C := RX0) (T := TX0) (N := 16) hx hb hts hin hown hK hP 0 rfl rfl 0 (by decide) hw_0 (fun _ h9 => h9) rfl dX0_exceptions_18 ?_
    refine lv_iload_n hx hb dX0_exceptions_21 rfl (lv_at hl 1 rfl) ?_
    obtain ⟨h_2, h⟩ := ix_some h
    refine va_iald hx hb hK hP 1 0 rfl rfl h_2 dX0_exceptions_22 ?_
    refine lv_aload_n hx hb dX0_exceptions_23 rfl (lv_at hl 0 rfl) ?_
    refine lv_iload_n hx hb dX0_exceptions_24 rfl (lv_at hl 1 rfl) ?_
    obtain ⟨r_3, e_4, h⟩ := bnd1_some h
    refine cl_Vi (As := [.int a1]) (rest := [.int (g (Int32.toNatClampNeg a1))]) (wc := wX cI cJ x0 x1 x2 x3 x4 x5 x6 x7 x8 x9 g rm op rc ec su pe qt rs rn cs cn lc hc lg hg) (w1 := wX cI cJ x0 x1 x2 x3 x4 x5 x6 x7 x8 x9 g rm op rc ec su pe qt rs rn cs cn lc hc lg hg) (wr := []) ⟨hx, hb, hml, hown, hts⟩ (c_X0_joinedRoles l D cI cJ x0 x1 x2 x3 x4 x5 x6 x7 x8 x9 _ g rm op rc ec su pe qt rs rn cs cn lc hc lg hg fu a1 r_3 e_4) (cwV 1 hts gX0_exceptions_X0_joinedRoles rfl rfl rfl (by decide +kernel) ⟨Nat.le_of_ble_eq_true rfl, Nat.le_of_ble_eq_true rfl⟩) hK hP hD hS hA [0, 1, 2, 3, 4, 5, 6, 7, 8, 9] [] rfl rfl (by decide) (by decide) rfl rfl rfl rfl rfl hl.1 rfl (lv_room (Nat.le_of_ble_eq_true rfl)) dX0_exceptions_25 (fun H locs hP hD hS => ?_)
    have hP : va_P D vwCl (wX cI cJ x0 x1 x2 x3 x4 x5 x6 x7 x8 x9 g rm op rc ec su pe qt rs rn cs cn lc hc lg hg) H := hP
    have hD : va_D A (wX cI cJ x0 x1 x2 x3 x4 x5 x6 x7 x8 x9 g rm op rc ec su pe qt rs rn cs cn lc hc lg hg) := hD
    refine lv_iconst (v := (-1)) hx hb dX0_exceptions_28 (by decide) ?_
    refine lv_ixor hx hb dX0_exceptions_29 ?_
    refine lv_iand hx hb dX0_exceptions_30 ?_
    cases h
    exact W.iret hx hb hr (fun t ht hW => ⟨⟨_, (), rfl, rfl, by rw [ht]; exact hP, va_K.moved hW.alike hK, hD⟩, hS.F ht⟩) hS.2.2 dX0_exceptions_31
  · replace h := (if_pos c_1).symm.trans h
    cases h
-- X0_role
set_option maxHeartbeats 4000000 in
set_option maxRecDepth 100000 in
theorem c0_X0_role (l : Launch) (D : va_G) (cI cJ : ClassId) (x0 x1 x2 x3 x4 x5 x6 x7 x8 x9 : Nat) (sz : Nat) (g : Nat → Int32) (rm : Nat → Int32) (op : Nat → Int32) (rc : Int32) (ec : Int32) (su : Int32) (pe : Int32) (qt : Int32) (rs : Nat → Int32) (rn : Int32) (cs : Nat → Int32) (cn : Int32) (lc : Nat → Int64) (hc : Nat → Int64) (lg : Nat → Int64) (hg : Nat → Int64) (a1 : Int32) (r0 : Int32) (h : m_X0_role rs rn a1 = some (.inr r0)) : Met l yX0_role wsX0_role ({ frames := 0, cells := 0, slots := 0, locals := 0 }) (va_Pc [.ref x0, .int a1] (bx_Pre D [(cI, .int), (cJ, .long)] (wX cI cJ x0 x1 x2 x3 x4 x5 x6 x7 x8 x9 g rm op rc ec su pe qt rs rn cs cn lc hc lg hg) sz)) (va_Qi (fun (r : Int32) (_ : Unit) => r = r0) (fun (_ : Unit) t => bx_Post D [(cI, .int), (cJ, .long)] (wX cI cJ x0 x1 x2 x3 x4 x5 x6 x7 x8 x9 g rm op rc ec su pe qt rs rn cs cn lc hc lg hg) (va_A (wX cI cJ x0 x1 x2 x3 x4 x5 x6 x7 x8 x9 g rm op rc ec su pe qt rs rn cs cn lc hc lg hg) sz) t) (va_A (wX cI cJ x0 x1 x2 x3 x4 x5 x6 x7 x8 x9 g rm op rc ec su pe qt rs rn cs cn lc hc lg hg) sz)) 0 0 (va_A (wX cI cJ x0 x1 x2 x3 x4 x5 x6 x7 x8 x9 g rm op rc ec su pe qt rs rn cs cn lc hc lg hg) sz) := by
  refine Met.ofW (cc := cX0_role) (maxL := 2) (ret := (some .int)) (by decide) rfl ?_
  intro p e s m args below meth c s₁ B hml hv
  obtain ⟨rfl, hsz, hP, hK, hD0⟩ := hv
  have hx := B.exec
  have hb := B.bytes
  have hr := B.returns
  have hts := atoms_spec (ws := wsX0_role) B.pre
  have hown : s.vm.findClass RX0 = some m.cls := findClass_of_methodNamed B.named
  have hlocks := B.notSynchronized
  subst hsz
  have hD := hD0.self (sz := s.heap.size)
  generalize hAe : va_A (wX cI cJ x0 x1 x2 x3 x4 x5 x6 x7 x8 x9 g rm op rc ec su pe qt rs rn cs cn lc hc lg hg) s.heap.size = A at hD ⊢
  have hA : ∀ q : Nat, s.heap.size ≤ q → A q := fun q h9 => by rw [← hAe]; exact Or.inr h9
  have hS : va_S A s.heap s.heap [] := va_S.rf
  have hin : ∀ w ∈ wsX00, w ∈ wsX0_role := fun _ h9 => List.mem_cons_of_mem _ (List.mem_append_left _ (List.mem_append_right _ h9))
  have hw_0 := hts (.fieldLink RX0 38 "RoleMiner" "roleCount" "I") (by decide +kernel)
  have hw_1 := hts (.fieldLink RX0 35 "RoleMiner" "roleSets" "[I") (by decide +kernel)
  have hl := lv_entry ([.ref x0, .int a1]) (n := 2) (Nat.le_of_ble_eq_true rfl)
  rw [lg_entry_eq]
  generalize (lg_sl ([.ref x0, .int a1]) ++ List.replicate (2 - (lg_sl ([.ref x0, .int a1])).length) Slot.unset).toArray = ls at hl ⊢
  have hl : lv_has ls 2 [(0, .ref x0), (1, .int a1)] := hl
  rw [m_X0_role] at h
  refine lv_iload_n hx hb dX0_role_0 rfl (lv_at hl 1 rfl) ?_
  refine lv_if_lt (tgt := 12) hx hb dX0_role_1 (by decide) (fun c_1 => ?_) (fun c_1 => ?_)
  · replace h := (if_pos c_1).symm.trans h
    cases h
  · replace h := (if_neg c_1).symm.trans h
    refine lv_iload_n hx hb dX0_role_4 rfl (lv_at hl 1 rfl) ?_
    refine lv_aload_n hx hb dX0_role_5 rfl (lv_at hl 0 rfl) ?_
    refine va_get (D := D) (ci := 0) (v := .int rn) (C := RX0) (T := TX0) (N := 16) hx hb hts hin hown hK hP 0 rfl rfl 9 (by decide) hw_0 (fun _ h9 => h9) rfl dX0_role_6 ?_
    refine lv_icmp_lt (tgt := 22) hx hb dX0_role_9 (by decide) (fun c_2 => ?_) (fun c_2 => ?_)
    · replace h := (if_pos c_2).symm.trans h
      refine lv_aload_n hx hb dX0_role_22 rfl (lv_at hl 0 rfl) ?_
      refine va_get (D := D) (ci := 0) (v := .ref x4) (C := RX0) (T := TX0) (N := 16) hx hb hts hin hown hK hP 0 rfl rfl 8 (by decide) hw_1 (fun _ h9 => h9) rfl dX0_role_23 ?_
      refine lv_iload_n hx hb dX0_role_26 rfl (lv_at hl 1 rfl) ?_
      obtain ⟨h_3, h⟩ := ix_some h
      refine va_iald hx hb hK hP 4 0 rfl rfl h_3 dX0_role_27 ?_
      cases h
      exact W.iret hx hb hr (fun t ht hW => ⟨⟨_, (), rfl, rfl, by rw [ht]; exact hP, va_K.moved hW.alike hK, hD⟩, hS.F ht⟩) hS.2.2 dX0_role_28
    · replace h := (if_neg c_2).symm.trans h
      cases h
-- X0_candidate
set_option maxHeartbeats 4000000 in
set_option maxRecDepth 100000 in
theorem c0_X0_candidate (l : Launch) (D : va_G) (cI cJ : ClassId) (x0 x1 x2 x3 x4 x5 x6 x7 x8 x9 : Nat) (sz : Nat) (g : Nat → Int32) (rm : Nat → Int32) (op : Nat → Int32) (rc : Int32) (ec : Int32) (su : Int32) (pe : Int32) (qt : Int32) (rs : Nat → Int32) (rn : Int32) (cs : Nat → Int32) (cn : Int32) (lc : Nat → Int64) (hc : Nat → Int64) (lg : Nat → Int64) (hg : Nat → Int64) (fu : Nat) (a1 : Int32) (r0 : Int32) (cs' : Nat → Int32) (cn' : Int32) (lc' : Nat → Int64) (hc' : Nat → Int64) (lg' : Nat → Int64) (hg' : Nat → Int64) (h : m_X0_candidate fu g op su cs cn lc hc lg hg a1 = some (.inr r0, cs', cn', lc', hc', lg', hg')) : Met l yX0_candidate wsX0_candidate ({ frames := 3, cells := 0, slots := 0, locals := 72 }) (va_Pc [.ref x0, .int a1] (bx_Pre D [(cI, .int), (cJ, .long)] (wX cI cJ x0 x1 x2 x3 x4 x5 x6 x7 x8 x9 g rm op rc ec su pe qt rs rn cs cn lc hc lg hg) sz)) (va_Qi (fun (r : Int32) (_ : Unit) => r = r0) (fun (_ : Unit) t => bx_Post D [(cI, .int), (cJ, .long)] (wX cI cJ x0 x1 x2 x3 x4 x5 x6 x7 x8 x9 g rm op rc ec su pe qt rs rn cs' cn' lc' hc' lg' hg') (va_A (wX cI cJ x0 x1 x2 x3 x4 x5 x6 x7 x8 x9 g rm op rc ec su pe qt rs rn cs cn lc hc lg hg) sz) t) (va_A (wX cI cJ x0 x1 x2 x3 x4 x5 x6 x7 x8 x9 g rm op rc ec su pe qt rs rn cs cn lc hc lg hg) sz)) 0 0 (va_A (wX cI cJ x0 x1 x2 x3 x4 x5 x6 x7 x8 x9 g rm op rc ec su pe qt rs rn cs cn lc hc lg hg) sz) := by
  refine Met.ofW (cc := cX0_candidate) (maxL := 2) (ret := (some .int)) (by decide) rfl ?_
  intro p e s m args below meth c s₁ B hml hv
  obtain ⟨rfl, hsz, hP, hK, hD0⟩ := hv
  have hx := B.exec
  have hb := B.bytes
  have hr := B.returns
  have hts := atoms_spec (ws := wsX0_candidate) B.pre
  have hown : s.vm.findClass RX0 = some m.cls := findClass_of_methodNamed B.named
  have hlocks := B.notSynchronized
  subst hsz
  have hD := hD0.self (sz := s.heap.size)
  generalize hAe : va_A (wX cI cJ x0 x1 x2 x3 x4 x5 x6 x7 x8 x9 g rm op rc ec su pe qt rs rn cs cn lc hc lg hg) s.heap.size = A at hD ⊢
  have hA : ∀ q : Nat, s.heap.size ≤ q → A q := fun q h9 => by rw [← hAe]; exact Or.inr h9
  have hS : va_S A s.heap s.heap [] := va_S.rf
  have hin : ∀ w ∈ wsX00, w ∈ wsX0_candidate := fun _ h9 => List.mem_cons_of_mem _ (List.mem_append_left _ (List.mem_append_right _ h9))
  have hw_0 := hts (.fieldLink RX0 44 "RoleMiner" "candidateCount" "I") (by decide +kernel)
  have hw_1 := hts (.fieldLink RX0 41 "RoleMiner" "candidateSets" "[I") (by decide +kernel)
  have hl := lv_entry ([.ref x0, .int a1]) (n := 2) (Nat.le_of_ble_eq_true rfl)
  rw [lg_entry_eq]
  generalize (lg_sl ([.ref x0, .int a1]) ++ List.replicate (2 - (lg_sl ([.ref x0, .int a1])).length) Slot.unset).toArray = ls at hl ⊢
  have hl : lv_has ls 2 [(0, .ref x0), (1, .int a1)] := hl
  rw [m_X0_candidate] at h
  refine lv_aload_n hx hb dX0_candidate_0 rfl (lv_at hl 0 rfl) ?_
  obtain ⟨cs_1, cn_2, lc_3, hc_4, lg_5, hg_6, e_7, h⟩ := bnd6_some h
  refine cl_Vv (As := []) (rest := []) (wc := wX cI cJ x0 x1 x2 x3 x4 x5 x6 x7 x8 x9 g rm op rc ec su pe qt rs rn cs cn lc hc lg hg) (w1 := wX cI cJ x0 x1 x2 x3 x4 x5 x6 x7 x8 x9 g rm op rc ec su pe qt rs rn cs_1 cn_2 lc_3 hc_4 lg_5 hg_6) (wr := []) ⟨hx, hb, hml, hown, hts⟩ (c_X0_findCandidates l D cI cJ x0 x1 x2 x3 x4 x5 x6 x7 x8 x9 _ g rm op rc ec su pe qt rs rn cs cn lc hc lg hg fu  cs_1 cn_2 lc_3 hc_4 lg_5 hg_6 e_7) (cwV 0 hts gX0_candidate_X0_findCandidates rfl rfl rfl (by decide +kernel) ⟨Nat.le_of_ble_eq_true rfl, Nat.le_of_ble_eq_true rfl⟩) hK hP hD hS hA [0, 1, 2, 3, 4, 5, 6, 7, 8, 9] [] rfl rfl (by decide) (by decide) rfl rfl rfl rfl rfl hl.1 rfl (lv_room (Nat.le_of_ble_eq_true rfl)) dX0_candidate_1 (fun H locs hP hD hS => ?_)
  have hP : va_P D vwCl (wX cI cJ x0 x1 x2 x3 x4 x5 x6 x7 x8 x9 g rm op rc ec su pe qt rs rn cs_1 cn_2 lc_3 hc_4 lg_5 hg_6) H := hP
  have hD : va_D A (wX cI cJ x0 x1 x2 x3 x4 x5 x6 x7 x8 x9 g rm op rc ec su pe qt rs rn cs_1 cn_2 lc_3 hc_4 lg_5 hg_6) := hD
  refine lv_iload_n hx hb dX0_candidate_4 rfl (lv_at hl 1 rfl) ?_
  refine lv_if_lt (tgt := 16) hx hb dX0_candidate_5 (by decide) (fun c_8 => ?_) (fun c_8 => ?_)
  · replace h := (if_pos c_8).symm.trans h
    cases h
  · replace h := (if_neg c_8).symm.trans h
    refine lv_iload_n hx hb dX0_candidate_8 rfl (lv_at hl 1 rfl) ?_
    refine lv_aload_n hx hb dX0_candidate_9 rfl (lv_at hl 0 rfl) ?_
    refine va_get (D := D) (ci := 0) (v := .int cn_2) (C := RX0) (T := TX0) (N := 16) hx hb hts hin hown hK hP 0 rfl rfl 11 (by decide) hw_0 (fun _ h9 => h9) rfl dX0_candidate_10 ?_
    refine lv_icmp_lt (tgt := 26) hx hb dX0_candidate_13 (by decide) (fun c_9 => ?_) (fun c_9 => ?_)
    · replace h := (if_pos c_9).symm.trans h
      refine lv_aload_n hx hb dX0_candidate_26 rfl (lv_at hl 0 rfl) ?_
      refine va_get (D := D) (ci := 0) (v := .ref x5) (C := RX0) (T := TX0) (N := 16) hx hb hts hin hown hK hP 0 rfl rfl 10 (by decide) hw_1 (fun _ h9 => h9) rfl dX0_candidate_27 ?_
      refine lv_iload_n hx hb dX0_candidate_30 rfl (lv_at hl 1 rfl) ?_
      obtain ⟨h_10, h⟩ := ix_some h
      refine va_iald hx hb hK hP 5 0 rfl rfl h_10 dX0_candidate_31 ?_
      cases h
      exact W.iret hx hb hr (fun t ht hW => ⟨⟨_, (), rfl, rfl, by rw [ht]; exact hP, va_K.moved hW.alike hK, hD⟩, hS.F ht⟩) hS.2.2 dX0_candidate_32
    · replace h := (if_neg c_9).symm.trans h
      cases h
-- X0_holders
set_option maxHeartbeats 4000000 in
set_option maxRecDepth 100000 in
theorem c0_X0_holders (l : Launch) (D : va_G) (cI cJ : ClassId) (x0 x1 x2 x3 x4 x5 x6 x7 x8 x9 : Nat) (sz : Nat) (g : Nat → Int32) (rm : Nat → Int32) (op : Nat → Int32) (rc : Int32) (ec : Int32) (su : Int32) (pe : Int32) (qt : Int32) (rs : Nat → Int32) (rn : Int32) (cs : Nat → Int32) (cn : Int32) (lc : Nat → Int64) (hc : Nat → Int64) (lg : Nat → Int64) (hg : Nat → Int64) (fu : Nat) (a1 : Int32) (r0 : Int32) (h : m_X0_holders fu g a1 = some (.inr r0)) : Met l yX0_holders wsX0_holders ({ frames := 2, cells := 0, slots := 0, locals := 45 }) (va_Pc [.ref x0, .int a1] (bx_Pre D [(cI, .int), (cJ, .long)] (wX cI cJ x0 x1 x2 x3 x4 x5 x6 x7 x8 x9 g rm op rc ec su pe qt rs rn cs cn lc hc lg hg) sz)) (va_Qi (fun (r : Int32) (_ : Unit) => r = r0) (fun (_ : Unit) t => bx_Post D [(cI, .int), (cJ, .long)] (wX cI cJ x0 x1 x2 x3 x4 x5 x6 x7 x8 x9 g rm op rc ec su pe qt rs rn cs cn lc hc lg hg) (va_A (wX cI cJ x0 x1 x2 x3 x4 x5 x6 x7 x8 x9 g rm op rc ec su pe qt rs rn cs cn lc hc lg hg) sz) t) (va_A (wX cI cJ x0 x1 x2 x3 x4 x5 x6 x7 x8 x9 g rm op rc ec su pe qt rs rn cs cn lc hc lg hg) sz)) 0 0 (va_A (wX cI cJ x0 x1 x2 x3 x4 x5 x6 x7 x8 x9 g rm op rc ec su pe qt rs rn cs cn lc hc lg hg) sz) := by
  refine Met.ofW (cc := cX0_holders) (maxL := 2) (ret := (some .int)) (by decide) rfl ?_
  intro p e s m args below meth c s₁ B hml hv
  obtain ⟨rfl, hsz, hP, hK, hD0⟩ := hv
  have hx := B.exec
  have hb := B.bytes
  have hr := B.returns
  have hts := atoms_spec (ws := wsX0_holders) B.pre
  have hown : s.vm.findClass RX0 = some m.cls := findClass_of_methodNamed B.named
  have hlocks := B.notSynchronized
  subst hsz
  have hD := hD0.self (sz := s.heap.size)
  generalize hAe : va_A (wX cI cJ x0 x1 x2 x3 x4 x5 x6 x7 x8 x9 g rm op rc ec su pe qt rs rn cs cn lc hc lg hg) s.heap.size = A at hD ⊢
  have hA : ∀ q : Nat, s.heap.size ≤ q → A q := fun q h9 => by rw [← hAe]; exact Or.inr h9
  have hS : va_S A s.heap s.heap [] := va_S.rf
  have hin : ∀ w ∈ wsX00, w ∈ wsX0_holders := fun _ h9 => List.mem_cons_of_mem _ (List.mem_append_left _ (List.mem_append_right _ h9))
  have hl := lv_entry ([.ref x0, .int a1]) (n := 2) (Nat.le_of_ble_eq_true rfl)
  rw [lg_entry_eq]
  generalize (lg_sl ([.ref x0, .int a1]) ++ List.replicate (2 - (lg_sl ([.ref x0, .int a1])).length) Slot.unset).toArray = ls at hl ⊢
  have hl : lv_has ls 2 [(0, .ref x0), (1, .int a1)] := hl
  rw [m_X0_holders] at h
  refine lv_iload_n hx hb dX0_holders_0 rfl (lv_at hl 1 rfl) ?_
  refine cl_Si0 (As := [.int a1]) (rest := []) ⟨hx, hb, hml, hown, hts⟩ (c_X0_isPermissionSet l D _ a1) (va_cwS 1 hts gX0_holders_X0_isPermissionSet rfl rfl rfl (by decide +kernel) ⟨Nat.le_of_ble_eq_true rfl, Nat.le_of_ble_eq_true rfl⟩) hK hP hD hS hA rfl rfl hl.1 rfl (lv_room (Nat.le_of_ble_eq_true rfl)) dX0_holders_1 (fun H locs hP hD hS => ?_)
  refine lv_if_ne (tgt := 17) hx hb dX0_holders_4 (by decide) (fun c_1 => ?_) (fun c_1 => ?_)
  · replace h := (if_neg c_1).symm.trans h
    refine lv_aload_n hx hb dX0_holders_17 rfl (lv_at hl 0 rfl) ?_
    refine lv_iload_n hx hb dX0_holders_18 rfl (lv_at hl 1 rfl) ?_
    obtain ⟨r_2, e_3, h⟩ := bnd1_some h
    refine cl_Vi (As := [.int a1]) (rest := []) (wc := wX cI cJ x0 x1 x2 x3 x4 x5 x6 x7 x8 x9 g rm op rc ec su pe qt rs rn cs cn lc hc lg hg) (w1 := wX cI cJ x0 x1 x2 x3 x4 x5 x6 x7 x8 x9 g rm op rc ec su pe qt rs rn cs cn lc hc lg hg) (wr := []) ⟨hx, hb, hml, hown, hts⟩ (c_X0_holdersOf l D cI cJ x0 x1 x2 x3 x4 x5 x6 x7 x8 x9 _ g rm op rc ec su pe qt rs rn cs cn lc hc lg hg fu a1 r_2 e_3) (cwV 1 hts gX0_holders_X0_holdersOf rfl rfl rfl (by decide +kernel) ⟨Nat.le_of_ble_eq_true rfl, Nat.le_of_ble_eq_true rfl⟩) hK hP hD hS hA [0, 1, 2, 3, 4, 5, 6, 7, 8, 9] [] rfl rfl (by decide) (by decide) rfl rfl rfl rfl rfl hl.1 rfl (lv_room (Nat.le_of_ble_eq_true rfl)) dX0_holders_19 (fun H locs hP hD hS => ?_)
    have hP : va_P D vwCl (wX cI cJ x0 x1 x2 x3 x4 x5 x6 x7 x8 x9 g rm op rc ec su pe qt rs rn cs cn lc hc lg hg) H := hP
    have hD : va_D A (wX cI cJ x0 x1 x2 x3 x4 x5 x6 x7 x8 x9 g rm op rc ec su pe qt rs rn cs cn lc hc lg hg) := hD
    cases h
    exact W.iret hx hb hr (fun t ht hW => ⟨⟨_, (), rfl, rfl, by rw [ht]; exact hP, va_K.moved hW.alike hK, hD⟩, hS.F ht⟩) hS.2.2 dX0_holders_22
  · replace h := (if_pos c_1).symm.trans h
    cases h
