-- X0_grant
def m_X0_grant (g : Nat → Int32) (rm : Nat → Int32) (qt : Int32) (a1 : Int32) (a2 : Int32) : Option ((String ⊕ Int32) × ((Nat → Int32)) × ((Nat → Int32))) := (if (m_X0_isUser a1) = 0 then some (.inl "java/lang/IndexOutOfBoundsException", g, rm) else (if (m_X0_isPermission a2) = 0 then some (.inl "java/lang/IndexOutOfBoundsException", g, rm) else (ix a1 8 (if (m_X0_has (g (Int32.toNatClampNeg a1)) a2) = 0 then (ix (m_X0_grantIndex a1 a2) 96 (some (.inr 1, (upd g (Int32.toNatClampNeg a1) ((g (Int32.toNatClampNeg a1)) ||| (1 <<< (a2 &&& 31)))), (upd rm (Int32.toNatClampNeg (m_X0_grantIndex a1 a2)) qt)))) else some (.inr 0, g, rm)))))
set_option maxHeartbeats 4000000 in
set_option maxRecDepth 100000 in
theorem c_X0_grant (l : Launch) (hst : l.stackTraces = false) (D : va_G) (cI cJ : ClassId) (x0 x1 x2 x3 x4 x5 x6 x7 x8 x9 : Nat) (sz : Nat) (g : Nat → Int32) (rm : Nat → Int32) (op : Nat → Int32) (rc : Int32) (ec : Int32) (su : Int32) (pe : Int32) (qt : Int32) (rs : Nat → Int32) (rn : Int32) (cs : Nat → Int32) (cn : Int32) (lc : Nat → Int64) (hc : Nat → Int64) (lg : Nat → Int64) (hg : Nat → Int64) (a1 : Int32) (a2 : Int32) (r0 : String ⊕ Int32) (g' : Nat → Int32) (rm' : Nat → Int32) (h : m_X0_grant g rm qt a1 a2 = some (r0, g', rm')) : vx_Met l yX0_grant wsX0_grant ({ frames := 6, cells := 1, slots := 6, locals := 90 }) (va_Pc [.ref x0, .int a1, .int a2] (bx_PreT D [(cI, .int), (cJ, .long)] (wX cI cJ x0 x1 x2 x3 x4 x5 x6 x7 x8 x9 g rm op rc ec su pe qt rs rn cs cn lc hc lg hg) sz)) (va_Qi (fun (r : Int32) (_ : Unit) => r0 = Sum.inr r) (fun (_ : Unit) t => bx_Post D [(cI, .int), (cJ, .long)] (wX cI cJ x0 x1 x2 x3 x4 x5 x6 x7 x8 x9 g' rm' op rc ec su pe qt rs rn cs cn lc hc lg hg) (va_A (wX cI cJ x0 x1 x2 x3 x4 x5 x6 x7 x8 x9 g rm op rc ec su pe qt rs rn cs cn lc hc lg hg) sz) t) (va_A (wX cI cJ x0 x1 x2 x3 x4 x5 x6 x7 x8 x9 g rm op rc ec su pe qt rs rn cs cn lc hc lg hg) sz)) (vx_X (fun (_ : Unit) => True) (fun E (_ : Unit) t => r0 = Sum.inl E ∧ bx_Post D [(cI, .int), (cJ, .long)] (wX cI cJ x0 x1 x2 x3 x4 x5 x6 x7 x8 x9 g' rm' op rc ec su pe qt rs rn cs cn lc hc lg hg) (va_A (wX cI cJ x0 x1 x2 x3 x4 x5 x6 x7 x8 x9 g rm op rc ec su pe qt rs rn cs cn lc hc lg hg) sz) t) (va_A (wX cI cJ x0 x1 x2 x3 x4 x5 x6 x7 x8 x9 g rm op rc ec su pe qt rs rn cs cn lc hc lg hg) sz)) 1 6 (va_A (wX cI cJ x0 x1 x2 x3 x4 x5 x6 x7 x8 x9 g rm op rc ec su pe qt rs rn cs cn lc hc lg hg) sz) := by
  refine vx_ofW (cc := cX0_grant) (maxL := 3) (ret := (some .boolean)) (by decide) rfl ?_
  intro p e s m args below meth c s₁ B hml hnt hv
  obtain ⟨rfl, hsz, hP, hK, hD0, hT⟩ := hv
  have hx := B.exec
  have hb := B.bytes
  have hr := B.returns
  have hts := atoms_spec (ws := wsX0_grant) B.pre
  have hown : s.vm.findClass RX0 = some m.cls := findClass_of_methodNamed B.named
  have hlocks := B.notSynchronized
  subst hsz
  have hD := hD0.self (sz := s.heap.size)
  generalize hAe : va_A (wX cI cJ x0 x1 x2 x3 x4 x5 x6 x7 x8 x9 g rm op rc ec su pe qt rs rn cs cn lc hc lg hg) s.heap.size = A at hD hT ⊢
  have hA : ∀ q : Nat, s.heap.size ≤ q → A q := fun q h9 => by rw [← hAe]; exact Or.inr h9
  have hS : va_S A s.heap s.heap [] := va_S.rf
  have hin : ∀ w ∈ wsX00, w ∈ wsX0_grant := fun _ h9 => List.mem_cons_of_mem _ (List.mem_append_left _ (List.mem_append_right _ h9))
  have hw_0 := hts (.classLink RX0 67 "java/lang/IndexOutOfBoundsException") (by decide +kernel)
  have hw_1 := hts (.initialized "java/lang/IndexOutOfBoundsException") (by decide +kernel)
  have hw_2 := hts (.fieldLink RX0 9 "RoleMiner" "granted" "[I") (by decide +kernel)
  have hw_3 := hts (.fieldLink RX0 13 "RoleMiner" "remembered" "[I") (by decide +kernel)
  have hw_4 := hts (.fieldLink RX0 32 "RoleMiner" "quarter" "I") (by decide +kernel)
  have hl := lv_entry ([.ref x0, .int a1, .int a2]) (n := 3) (Nat.le_of_ble_eq_true rfl)
  rw [lg_entry_eq]
  generalize (lg_sl ([.ref x0, .int a1, .int a2]) ++ List.replicate (3 - (lg_sl ([.ref x0, .int a1, .int a2])).length) Slot.unset).toArray = ls at hl ⊢
  have hl : lv_has ls 3 [(0, .ref x0), (1, .int a1), (2, .int a2)] := hl
  rw [m_X0_grant] at h
  refine lv_iload_n hx hb dX0_grant_0 rfl (lv_at hl 1 rfl) ?_
  refine cl_Si0 (As := [.int a1]) (rest := []) ⟨hx, hb, hml, hown, hts⟩ (c_X0_isUser l D _ a1) (va_cwS 1 hts gX0_grant_X0_isUser rfl rfl rfl (by decide +kernel) ⟨Nat.le_of_ble_eq_true rfl, Nat.le_of_ble_eq_true rfl⟩) hK hP hD hS hA rfl rfl hl.1 rfl (lv_room (Nat.le_of_ble_eq_true rfl)) dX0_grant_1 (fun H locs hP hD hS => ?_)
  refine lv_if_eq (tgt := 14) hx hb dX0_grant_4 (by decide) (fun c_1 => ?_) (fun c_1 => ?_)
  · replace h := (if_pos c_1).symm.trans h
    cases h
    obtain ⟨sa, hsa⟩ := hT.2.2.1
    exact vx_throwS (sa := sa) (A := A) (text := "no such user or permission") (names := ["java/lang/RuntimeException", "java/lang/Exception"]) hx hb hst hown (by decide +kernel) (by decide +kernel) hw_0 hw_1 hsa (xt_hat (Ts := wsX0_grant) hts (fun w h9 => List.mem_cons_of_mem _ (List.mem_append_right _ h9)) xo_71 hT.1.1 hT.1.2.2.2.1 hT.1.2.2.2.2.1 hT.1.2.2.2.2.2) xg_71 hT.2.1.1 hT.2.1.2 hS (hl.1.trans hml.symm) dX0_grant_14 dX0_grant_17 dX0_grant_18 dX0_grant_20 dX0_grant_23 (fun x h9 => (hnt x h9).elim) (Nat.le_of_ble_eq_true rfl) (Nat.le_of_ble_eq_true rfl) (Nat.le_of_ble_eq_true rfl) (Nat.le_of_ble_eq_true rfl) hlocks (fun t ht hz hk => ⟨(), trivial, ⟨rfl, hP.kept (fun k9 q9 h9 => hk q9.1 (hP k9 q9 h9).lt), va_K.moved ht hK, hD⟩, Nat.le_trans hS.1 hz, fun q9 g1 g2 => (hk q9 (Nat.lt_of_lt_of_le g1 hS.1)).trans (hS.2.1 q9 g1 g2)⟩) hS.2.2 (Nat.le_refl _) (Nat.le_refl _)
  · replace h := (if_neg c_1).symm.trans h
    refine lv_iload_n hx hb dX0_grant_7 rfl (lv_at hl 2 rfl) ?_
    refine cl_Si0 (As := [.int a2]) (rest := []) ⟨hx, hb, hml, hown, hts⟩ (c_X0_isPermission l D _ a2) (va_cwS 1 hts gX0_grant_X0_isPermission rfl rfl rfl (by decide +kernel) ⟨Nat.le_of_ble_eq_true rfl, Nat.le_of_ble_eq_true rfl⟩) hK hP hD hS hA rfl rfl hl.1 rfl (lv_room (Nat.le_of_ble_eq_true rfl)) dX0_grant_8 (fun H locs hP hD hS => ?_)
    refine lv_if_ne (tgt := 24) hx hb dX0_grant_11 (by decide) (fun c_2 => ?_) (fun c_2 => ?_)
    · replace h := (if_neg c_2).symm.trans h
      refine lv_aload_n hx hb dX0_grant_24 rfl (lv_at hl 0 rfl) ?_
      refine va_get (D := D) (ci := 0) (v := .ref x1) (C := RX0) (T := TX0) (N := 16) hx hb hts hin hown hK hP 0 rfl rfl 0 (by decide) hw_2 (fun _ h9 => h9) rfl dX0_grant_25 ?_
      refine lv_iload_n hx hb dX0_grant_28 rfl (lv_at hl 1 rfl) ?_
      obtain ⟨h_3, h⟩ := ix_some h
      refine va_iald hx hb hK hP 1 0 rfl rfl h_3 dX0_grant_29 ?_
      refine lv_iload_n hx hb dX0_grant_30 rfl (lv_at hl 2 rfl) ?_
      refine cl_Si0 (As := [.int (g (Int32.toNatClampNeg a1)), .int a2]) (rest := []) ⟨hx, hb, hml, hown, hts⟩ (c_X0_has l D _ (g (Int32.toNatClampNeg a1)) a2) (va_cwS 2 hts gX0_grant_X0_has rfl rfl rfl (by decide +kernel) ⟨Nat.le_of_ble_eq_true rfl, Nat.le_of_ble_eq_true rfl⟩) hK hP hD hS hA rfl rfl hl.1 rfl (lv_room (Nat.le_of_ble_eq_true rfl)) dX0_grant_31 (fun H locs hP hD hS => ?_)
      refine lv_if_eq (tgt := 39) hx hb dX0_grant_34 (by decide) (fun c_4 => ?_) (fun c_4 => ?_)
      · replace h := (if_pos c_4).symm.trans h
        refine lv_aload_n hx hb dX0_grant_39 rfl (lv_at hl 0 rfl) ?_
        refine va_get (D := D) (ci := 0) (v := .ref x1) (C := RX0) (T := TX0) (N := 16) hx hb hts hin hown hK hP 0 rfl rfl 0 (by decide) hw_2 (fun _ h9 => h9) rfl dX0_grant_40 ?_
        refine lv_iload_n hx hb dX0_grant_43 rfl (lv_at hl 1 rfl) ?_
        refine lv_dup2_11 hx hb dX0_grant_44 rfl rfl ?_
        refine va_iald hx hb hK hP 1 0 rfl rfl h_3 dX0_grant_45 ?_
        refine lv_iconst (v := 1) hx hb dX0_grant_46 (by decide) ?_
        refine lv_iload_n hx hb dX0_grant_47 rfl (lv_at hl 2 rfl) ?_
        refine lv_ishl hx hb dX0_grant_48 ?_
        refine lv_ior hx hb dX0_grant_49 ?_
        refine va_iast hx hb hK hP hD hS 1 0 rfl rfl h_3 dX0_grant_50 (fun H locs hP hD hS => ?_)
        have hP : va_P D vwCl (wX cI cJ x0 x1 x2 x3 x4 x5 x6 x7 x8 x9 (upd g (Int32.toNatClampNeg a1) ((g (Int32.toNatClampNeg a1)) ||| (1 <<< (a2 &&& 31)))) rm op rc ec su pe qt rs rn cs cn lc hc lg hg) H := hP
        have hD : va_D A (wX cI cJ x0 x1 x2 x3 x4 x5 x6 x7 x8 x9 (upd g (Int32.toNatClampNeg a1) ((g (Int32.toNatClampNeg a1)) ||| (1 <<< (a2 &&& 31)))) rm op rc ec su pe qt rs rn cs cn lc hc lg hg) := hD
        refine lv_aload_n hx hb dX0_grant_51 rfl (lv_at hl 0 rfl) ?_
        refine va_get (D := D) (ci := 0) (v := .ref x2) (C := RX0) (T := TX0) (N := 16) hx hb hts hin hown hK hP 0 rfl rfl 1 (by decide) hw_3 (fun _ h9 => h9) rfl dX0_grant_52 ?_
        refine lv_iload_n hx hb dX0_grant_55 rfl (lv_at hl 1 rfl) ?_
        refine lv_iload_n hx hb dX0_grant_56 rfl (lv_at hl 2 rfl) ?_
        refine cl_Si0 (As := [.int a1, .int a2]) (rest := [.ref x2]) ⟨hx, hb, hml, hown, hts⟩ (c_X0_grantIndex l D _ a1 a2) (va_cwS 2 hts gX0_grant_X0_grantIndex rfl rfl rfl (by decide +kernel) ⟨Nat.le_of_ble_eq_true rfl, Nat.le_of_ble_eq_true rfl⟩) hK hP hD hS hA rfl rfl hl.1 rfl (lv_room (Nat.le_of_ble_eq_true rfl)) dX0_grant_57 (fun H locs hP hD hS => ?_)
        refine lv_aload_n hx hb dX0_grant_60 rfl (lv_at hl 0 rfl) ?_
        refine va_get (D := D) (ci := 0) (v := .int qt) (C := RX0) (T := TX0) (N := 16) hx hb hts hin hown hK hP 0 rfl rfl 7 (by decide) hw_4 (fun _ h9 => h9) rfl dX0_grant_61 ?_
        obtain ⟨h_5, h⟩ := ix_some h
        refine va_iast hx hb hK hP hD hS 2 0 rfl rfl h_5 dX0_grant_64 (fun H locs hP hD hS => ?_)
        have hP : va_P D vwCl (wX cI cJ x0 x1 x2 x3 x4 x5 x6 x7 x8 x9 (upd g (Int32.toNatClampNeg a1) ((g (Int32.toNatClampNeg a1)) ||| (1 <<< (a2 &&& 31)))) (upd rm (Int32.toNatClampNeg (m_X0_grantIndex a1 a2)) qt) op rc ec su pe qt rs rn cs cn lc hc lg hg) H := hP
        have hD : va_D A (wX cI cJ x0 x1 x2 x3 x4 x5 x6 x7 x8 x9 (upd g (Int32.toNatClampNeg a1) ((g (Int32.toNatClampNeg a1)) ||| (1 <<< (a2 &&& 31)))) (upd rm (Int32.toNatClampNeg (m_X0_grantIndex a1 a2)) qt) op rc ec su pe qt rs rn cs cn lc hc lg hg) := hD
        refine lv_iconst (v := 1) hx hb dX0_grant_65 (by decide) ?_
        cases h
        refine vx_ret ?_
        refine W.widen (k := 1) (n := 6) (Nat.zero_le _) (Nat.zero_le _) ?_
        exact W.zret hx hb hr rfl (fun t ht hW => ⟨⟨_, (), rfl, rfl, by rw [ht]; exact hP, va_K.moved hW.alike hK, hD⟩, hS.F ht⟩) hS.2.2 dX0_grant_66
      · replace h := (if_neg c_4).symm.trans h
        refine lv_iconst (v := 0) hx hb dX0_grant_37 (by decide) ?_
        cases h
        refine vx_ret ?_
        refine W.widen (k := 1) (n := 6) (Nat.zero_le _) (Nat.zero_le _) ?_
        exact W.zret hx hb hr rfl (fun t ht hW => ⟨⟨_, (), rfl, rfl, by rw [ht]; exact hP, va_K.moved hW.alike hK, hD⟩, hS.F ht⟩) hS.2.2 dX0_grant_38
    · replace h := (if_pos c_2).symm.trans h
      cases h
      obtain ⟨sa, hsa⟩ := hT.2.2.1
      exact vx_throwS (sa := sa) (A := A) (text := "no such user or permission") (names := ["java/lang/RuntimeException", "java/lang/Exception"]) hx hb hst hown (by decide +kernel) (by decide +kernel) hw_0 hw_1 hsa (xt_hat (Ts := wsX0_grant) hts (fun w h9 => List.mem_cons_of_mem _ (List.mem_append_right _ h9)) xo_71 hT.1.1 hT.1.2.2.2.1 hT.1.2.2.2.2.1 hT.1.2.2.2.2.2) xg_71 hT.2.1.1 hT.2.1.2 hS (hl.1.trans hml.symm) dX0_grant_14 dX0_grant_17 dX0_grant_18 dX0_grant_20 dX0_grant_23 (fun x h9 => (hnt x h9).elim) (Nat.le_of_ble_eq_true rfl) (Nat.le_of_ble_eq_true rfl) (Nat.le_of_ble_eq_true rfl) (Nat.le_of_ble_eq_true rfl) hlocks (fun t ht hz hk => ⟨(), trivial, ⟨rfl, hP.kept (fun k9 q9 h9 => hk q9.1 (hP k9 q9 h9).lt), va_K.moved ht hK, hD⟩, Nat.le_trans hS.1 hz, fun q9 g1 g2 => (hk q9 (Nat.lt_of_lt_of_le g1 hS.1)).trans (hS.2.1 q9 g1 g2)⟩) hS.2.2 (Nat.le_refl _) (Nat.le_refl _)
-- X0_revoke
def m_X0_revoke (g : Nat → Int32) (a1 : Int32) (a2 : Int32) : Option ((String ⊕ Int32) × ((Nat → Int32))) := (if (m_X0_isUser a1) = 0 then some (.inl "java/lang/IndexOutOfBoundsException", g) else (if (m_X0_isPermission a2) = 0 then some (.inl "java/lang/IndexOutOfBoundsException", g) else (ix a1 8 (some (.inr (m_X0_has (g (Int32.toNatClampNeg a1)) a2), (upd g (Int32.toNatClampNeg a1) ((g (Int32.toNatClampNeg a1)) &&& ((1 <<< (a2 &&& 31)) ^^^ (-1)))))))))
set_option maxHeartbeats 4000000 in
set_option maxRecDepth 100000 in
theorem c_X0_revoke (l : Launch) (hst : l.stackTraces = false) (D : va_G) (cI cJ : ClassId) (x0 x1 x2 x3 x4 x5 x6 x7 x8 x9 : Nat) (sz : Nat) (g : Nat → Int32) (rm : Nat → Int32) (op : Nat → Int32) (rc : Int32) (ec : Int32) (su : Int32) (pe : Int32) (qt : Int32) (rs : Nat → Int32) (rn : Int32) (cs : Nat → Int32) (cn : Int32) (lc : Nat → Int64) (hc : Nat → Int64) (lg : Nat → Int64) (hg : Nat → Int64) (a1 : Int32) (a2 : Int32) (r0 : String ⊕ Int32) (g' : Nat → Int32) (h : m_X0_revoke g a1 a2 = some (r0, g')) : vx_Met l yX0_revoke wsX0_revoke ({ frames := 6, cells := 1, slots := 6, locals := 90 }) (va_Pc [.ref x0, .int a1, .int a2] (bx_PreT D [(cI, .int), (cJ, .long)] (wX cI cJ x0 x1 x2 x3 x4 x5 x6 x7 x8 x9 g rm op rc ec su pe qt rs rn cs cn lc hc lg hg) sz)) (va_Qi (fun (r : Int32) (_ : Unit) => r0 = Sum.inr r) (fun (_ : Unit) t => bx_Post D [(cI, .int), (cJ, .long)] (wX cI cJ x0 x1 x2 x3 x4 x5 x6 x7 x8 x9 g' rm op rc ec su pe qt rs rn cs cn lc hc lg hg) (va_A (wX cI cJ x0 x1 x2 x3 x4 x5 x6 x7 x8 x9 g rm op rc ec su pe qt rs rn cs cn lc hc lg hg) sz) t) (va_A (wX cI cJ x0 x1 x2 x3 x4 x5 x6 x7 x8 x9 g rm op rc ec su pe qt rs rn cs cn lc hc lg hg) sz)) (vx_X (fun (_ : Unit) => True) (fun E (_ : Unit) t => r0 = Sum.inl E ∧ bx_Post D [(cI, .int), (cJ, .long)] (wX cI cJ x0 x1 x2 x3 x4 x5 x6 x7 x8 x9 g' rm op rc ec su pe qt rs rn cs cn lc hc lg hg) (va_A (wX cI cJ x0 x1 x2 x3 x4 x5 x6 x7 x8 x9 g rm op rc ec su pe qt rs rn cs cn lc hc lg hg) sz) t) (va_A (wX cI cJ x0 x1 x2 x3 x4 x5 x6 x7 x8 x9 g rm op rc ec su pe qt rs rn cs cn lc hc lg hg) sz)) 1 6 (va_A (wX cI cJ x0 x1 x2 x3 x4 x5 x6 x7 x8 x9 g rm op rc ec su pe qt rs rn cs cn lc hc lg hg) sz) := by
  refine vx_ofW (cc := cX0_revoke) (maxL := 4) (ret := (some .boolean)) (by decide) rfl ?_
  intro p e s m args below meth c s₁ B hml hnt hv
  obtain ⟨rfl, hsz, hP, hK, hD0, hT⟩ := hv
  have hx := B.exec
  have hb := B.bytes
  have hr := B.returns
  have hts := atoms_spec (ws := wsX0_revoke) B.pre
  have hown : s.vm.findClass RX0 = some m.cls := findClass_of_methodNamed B.named
  have hlocks := B.notSynchronized
  subst hsz
  have hD := hD0.self (sz := s.heap.size)
  generalize hAe : va_A (wX cI cJ x0 x1 x2 x3 x4 x5 x6 x7 x8 x9 g rm op rc ec su pe qt rs rn cs cn lc hc lg hg) s.heap.size = A at hD hT ⊢
  have hA : ∀ q : Nat, s.heap.size ≤ q → A q := fun q h9 => by rw [← hAe]; exact Or.inr h9
  have hS : va_S A s.heap s.heap [] := va_S.rf
  have hin : ∀ w ∈ wsX00, w ∈ wsX0_revoke := fun _ h9 => List.mem_cons_of_mem _ (List.mem_append_left _ (List.mem_append_right _ h9))
  have hw_0 := hts (.classLink RX0 67 "java/lang/IndexOutOfBoundsException") (by decide +kernel)
  have hw_1 := hts (.initialized "java/lang/IndexOutOfBoundsException") (by decide +kernel)
  have hw_2 := hts (.fieldLink RX0 9 "RoleMiner" "granted" "[I") (by decide +kernel)
  have hl := lv_entry ([.ref x0, .int a1, .int a2]) (n := 4) (Nat.le_of_ble_eq_true rfl)
  rw [lg_entry_eq]
  generalize (lg_sl ([.ref x0, .int a1, .int a2]) ++ List.replicate (4 - (lg_sl ([.ref x0, .int a1, .int a2])).length) Slot.unset).toArray = ls at hl ⊢
  have hl : lv_has ls 4 [(0, .ref x0), (1, .int a1), (2, .int a2)] := hl
  rw [m_X0_revoke] at h
  refine lv_iload_n hx hb dX0_revoke_0 rfl (lv_at hl 1 rfl) ?_
  refine cl_Si0 (As := [.int a1]) (rest := []) ⟨hx, hb, hml, hown, hts⟩ (c_X0_isUser l D _ a1) (va_cwS 1 hts gX0_revoke_X0_isUser rfl rfl rfl (by decide +kernel) ⟨Nat.le_of_ble_eq_true rfl, Nat.le_of_ble_eq_true rfl⟩) hK hP hD hS hA rfl rfl hl.1 rfl (lv_room (Nat.le_of_ble_eq_true rfl)) dX0_revoke_1 (fun H locs hP hD hS => ?_)
  refine lv_if_eq (tgt := 14) hx hb dX0_revoke_4 (by decide) (fun c_1 => ?_) (fun c_1 => ?_)
  · replace h := (if_pos c_1).symm.trans h
    cases h
    obtain ⟨sa, hsa⟩ := hT.2.2.1
    exact vx_throwS (sa := sa) (A := A) (text := "no such user or permission") (names := ["java/lang/RuntimeException", "java/lang/Exception"]) hx hb hst hown (by decide +kernel) (by decide +kernel) hw_0 hw_1 hsa (xt_hat (Ts := wsX0_revoke) hts (fun w h9 => List.mem_cons_of_mem _ (List.mem_append_right _ h9)) xo_71 hT.1.1 hT.1.2.2.2.1 hT.1.2.2.2.2.1 hT.1.2.2.2.2.2) xg_71 hT.2.1.1 hT.2.1.2 hS (hl.1.trans hml.symm) dX0_revoke_14 dX0_revoke_17 dX0_revoke_18 dX0_revoke_20 dX0_revoke_23 (fun x h9 => (hnt x h9).elim) (Nat.le_of_ble_eq_true rfl) (Nat.le_of_ble_eq_true rfl) (Nat.le_of_ble_eq_true rfl) (Nat.le_of_ble_eq_true rfl) hlocks (fun t ht hz hk => ⟨(), trivial, ⟨rfl, hP.kept (fun k9 q9 h9 => hk q9.1 (hP k9 q9 h9).lt), va_K.moved ht hK, hD⟩, Nat.le_trans hS.1 hz, fun q9 g1 g2 => (hk q9 (Nat.lt_of_lt_of_le g1 hS.1)).trans (hS.2.1 q9 g1 g2)⟩) hS.2.2 (Nat.le_refl _) (Nat.le_refl _)
  · replace h := (if_neg c_1).symm.trans h
    refine lv_iload_n hx hb dX0_revoke_7 rfl (lv_at hl 2 rfl) ?_
    refine cl_Si0 (As := [.int a2]) (rest := []) ⟨hx, hb, hml, hown, hts⟩ (c_X0_isPermission l D _ a2) (va_cwS 1 hts gX0_revoke_X0_isPermission rfl rfl rfl (by decide +kernel) ⟨Nat.le_of_ble_eq_true rfl, Nat.le_of_ble_eq_true rfl⟩) hK hP hD hS hA rfl rfl hl.1 rfl (lv_room (Nat.le_of_ble_eq_true rfl)) dX0_revoke_8 (fun H locs hP hD hS => ?_)
    refine lv_if_ne (tgt := 24) hx hb dX0_revoke_11 (by decide) (fun c_2 => ?_) (fun c_2 => ?_)
    · replace h := (if_neg c_2).symm.trans h
      refine lv_aload_n hx hb dX0_revoke_24 rfl (lv_at hl 0 rfl) ?_
      refine va_get (D := D) (ci := 0) (v := .ref x1) (C := RX0) (T := TX0) (N := 16) hx hb hts hin hown hK hP 0 rfl rfl 0 (by decide) hw_2 (fun _ h9 => h9) rfl dX0_revoke_25 ?_
      refine lv_iload_n hx hb dX0_revoke_28 rfl (lv_at hl 1 rfl) ?_
      obtain ⟨h_3, h⟩ := ix_some h
      refine va_iald hx hb hK hP 1 0 rfl rfl h_3 dX0_revoke_29 ?_
      refine lv_iload_n hx hb dX0_revoke_30 rfl (lv_at hl 2 rfl) ?_
      refine cl_Si0 (As := [.int (g (Int32.toNatClampNeg a1)), .int a2]) (rest := []) ⟨hx, hb, hml, hown, hts⟩ (c_X0_has l D _ (g (Int32.toNatClampNeg a1)) a2) (va_cwS 2 hts gX0_revoke_X0_has rfl rfl rfl (by decide +kernel) ⟨Nat.le_of_ble_eq_true rfl, Nat.le_of_ble_eq_true rfl⟩) hK hP hD hS hA rfl rfl hl.1 rfl (lv_room (Nat.le_of_ble_eq_true rfl)) dX0_revoke_31 (fun H locs hP hD hS => ?_)
      refine lv_istore_n (lv' := [(3, .int (m_X0_has (g (Int32.toNatClampNeg a1)) a2)), (0, .ref x0), (1, .int a1), (2, .int a2)]) hx hb dX0_revoke_34 rfl hl (by decide) rfl (fun ls hl => ?_)
      refine lv_aload_n hx hb dX0_revoke_35 rfl (lv_at hl 1 rfl) ?_
      refine va_get (D := D) (ci := 0) (v := .ref x1) (C := RX0) (T := TX0) (N := 16) hx hb hts hin hown hK hP 0 rfl rfl 0 (by decide) hw_2 (fun _ h9 => h9) rfl dX0_revoke_36 ?_
      refine lv_iload_n hx hb dX0_revoke_39 rfl (lv_at hl 2 rfl) ?_
      refine lv_dup2_11 hx hb dX0_revoke_40 rfl rfl ?_
      refine va_iald hx hb hK hP 1 0 rfl rfl h_3 dX0_revoke_41 ?_
      refine lv_iconst (v := 1) hx hb dX0_revoke_42 (by decide) ?_
      refine lv_iload_n hx hb dX0_revoke_43 rfl (lv_at hl 3 rfl) ?_
      refine lv_ishl hx hb dX0_revoke_44 ?_
      refine lv_iconst (v := (-1)) hx hb dX0_revoke_45 (by decide) ?_
      refine lv_ixor hx hb dX0_revoke_46 ?_
      refine lv_iand hx hb dX0_revoke_47 ?_
      refine va_iast hx hb hK hP hD hS 1 0 rfl rfl h_3 dX0_revoke_48 (fun H locs hP hD hS => ?_)
      have hP : va_P D vwCl (wX cI cJ x0 x1 x2 x3 x4 x5 x6 x7 x8 x9 (upd g (Int32.toNatClampNeg a1) ((g (Int32.toNatClampNeg a1)) &&& ((1 <<< (a2 &&& 31)) ^^^ (-1)))) rm op rc ec su pe qt rs rn cs cn lc hc lg hg) H := hP
      have hD : va_D A (wX cI cJ x0 x1 x2 x3 x4 x5 x6 x7 x8 x9 (upd g (Int32.toNatClampNeg a1) ((g (Int32.toNatClampNeg a1)) &&& ((1 <<< (a2 &&& 31)) ^^^ (-1)))) rm op rc ec su pe qt rs rn cs cn lc hc lg hg) := hD
      refine lv_iload_n hx hb dX0_revoke_49 rfl (lv_at hl 0 rfl) ?_
      cases h
      refine vx_ret ?_
      refine W.widen (k := 1) (n := 6) (Nat.zero_le _) (Nat.zero_le _) ?_
      exact W.zret hx hb hr (nb_X0_has ..) (fun t ht hW => ⟨⟨_, (), rfl, rfl, by rw [ht]; exact hP, va_K.moved hW.alike hK, hD⟩, hS.F ht⟩) hS.2.2 dX0_revoke_50
    · replace h := (if_pos c_2).symm.trans h
      cases h
      obtain ⟨sa, hsa⟩ := hT.2.2.1
      exact vx_throwS (sa := sa) (A := A) (text := "no such user or permission") (names := ["java/lang/RuntimeException", "java/lang/Exception"]) hx hb hst hown (by decide +kernel) (by decide +kernel) hw_0 hw_1 hsa (xt_hat (Ts := wsX0_revoke) hts (fun w h9 => List.mem_cons_of_mem _ (List.mem_append_right _ h9)) xo_71 hT.1.1 hT.1.2.2.2.1 hT.1.2.2.2.2.1 hT.1.2.2.2.2.2) xg_71 hT.2.1.1 hT.2.1.2 hS (hl.1.trans hml.symm) dX0_revoke_14 dX0_revoke_17 dX0_revoke_18 dX0_revoke_20 dX0_revoke_23 (fun x h9 => (hnt x h9).elim) (Nat.le_of_ble_eq_true rfl) (Nat.le_of_ble_eq_true rfl) (Nat.le_of_ble_eq_true rfl) (Nat.le_of_ble_eq_true rfl) hlocks (fun t ht hz hk => ⟨(), trivial, ⟨rfl, hP.kept (fun k9 q9 h9 => hk q9.1 (hP k9 q9 h9).lt), va_K.moved ht hK, hD⟩, Nat.le_trans hS.1 hz, fun q9 g1 g2 => (hk q9 (Nat.lt_of_lt_of_le g1 hS.1)).trans (hS.2.1 q9 g1 g2)⟩) hS.2.2 (Nat.le_refl _) (Nat.le_refl _)
-- X0_setGrants
def m_X0_setGrants_44 (fu : Nat) (qt : Int32) (a1 : Int32) (a2 : Int32) : Nat → Int32 → Int32 → (Nat → Int32) → (Nat → Int32) → Option ((String ⊕ Int32) × ((Nat → Int32)) × ((Nat → Int32)))
  | 0, _, _, _, _ => none
  | n + 1, v3, v4, g, rm => (if 12 ≤ v4 then (ix a1 8 (some (.inr (m_J6_bitCount_0f7a4 (v3 ^^^ a2)), (upd g (Int32.toNatClampNeg a1) a2), rm))) else (if (m_X0_has (a2 &&& (v3 ^^^ (-1))) v4) = 0 then (m_X0_setGrants_44 fu qt a1 a2 n v3 (v4 + 1) g rm) else (ix (m_X0_grantIndex a1 v4) 96 (m_X0_setGrants_44 fu qt a1 a2 n v3 (v4 + 1) g (upd rm (Int32.toNatClampNeg (m_X0_grantIndex a1 v4)) qt)))))
def m_X0_setGrants (fu : Nat) (g : Nat → Int32) (rm : Nat → Int32) (qt : Int32) (a1 : Int32) (a2 : Int32) : Option ((String ⊕ Int32) × ((Nat → Int32)) × ((Nat → Int32))) := (if (m_X0_isUser a1) = 0 then some (.inl "java/lang/IndexOutOfBoundsException", g, rm) else (if (m_X0_isPermissionSet a2) = 0 then some (.inl "java/lang/IllegalArgumentException", g, rm) else (ix a1 8 (m_X0_setGrants_44 fu qt a1 a2 fu (g (Int32.toNatClampNeg a1)) 0 g rm))))
set_option maxHeartbeats 4000000 in
set_option maxRecDepth 100000 in
theorem c_X0_setGrants (l : Launch) (hst : l.stackTraces = false) (D : va_G) (cI cJ : ClassId) (x0 x1 x2 x3 x4 x5 x6 x7 x8 x9 : Nat) (sz : Nat) (g : Nat → Int32) (rm : Nat → Int32) (op : Nat → Int32) (rc : Int32) (ec : Int32) (su : Int32) (pe : Int32) (qt : Int32) (rs : Nat → Int32) (rn : Int32) (cs : Nat → Int32) (cn : Int32) (lc : Nat → Int64) (hc : Nat → Int64) (lg : Nat → Int64) (hg : Nat → Int64) (fu : Nat) (a1 : Int32) (a2 : Int32) (r0 : String ⊕ Int32) (g' : Nat → Int32) (rm' : Nat → Int32) (h : m_X0_setGrants fu g rm qt a1 a2 = some (r0, g', rm')) : vx_Met l yX0_setGrants wsX0_setGrants ({ frames := 6, cells := 1, slots := 6, locals := 90 }) (va_Pc [.ref x0, .int a1, .int a2] (bx_PreT D [(cI, .int), (cJ, .long)] (wX cI cJ x0 x1 x2 x3 x4 x5 x6 x7 x8 x9 g rm op rc ec su pe qt rs rn cs cn lc hc lg hg) sz)) (va_Qi (fun (r : Int32) (_ : Unit) => r0 = Sum.inr r) (fun (_ : Unit) t => bx_Post D [(cI, .int), (cJ, .long)] (wX cI cJ x0 x1 x2 x3 x4 x5 x6 x7 x8 x9 g' rm' op rc ec su pe qt rs rn cs cn lc hc lg hg) (va_A (wX cI cJ x0 x1 x2 x3 x4 x5 x6 x7 x8 x9 g rm op rc ec su pe qt rs rn cs cn lc hc lg hg) sz) t) (va_A (wX cI cJ x0 x1 x2 x3 x4 x5 x6 x7 x8 x9 g rm op rc ec su pe qt rs rn cs cn lc hc lg hg) sz)) (vx_X (fun (_ : Unit) => True) (fun E (_ : Unit) t => r0 = Sum.inl E ∧ bx_Post D [(cI, .int), (cJ, .long)] (wX cI cJ x0 x1 x2 x3 x4 x5 x6 x7 x8 x9 g' rm' op rc ec su pe qt rs rn cs cn lc hc lg hg) (va_A (wX cI cJ x0 x1 x2 x3 x4 x5 x6 x7 x8 x9 g rm op rc ec su pe qt rs rn cs cn lc hc lg hg) sz) t) (va_A (wX cI cJ x0 x1 x2 x3 x4 x5 x6 x7 x8 x9 g rm op rc ec su pe qt rs rn cs cn lc hc lg hg) sz)) 1 6 (va_A (wX cI cJ x0 x1 x2 x3 x4 x5 x6 x7 x8 x9 g rm op rc ec su pe qt rs rn cs cn lc hc lg hg) sz) := by
  refine vx_ofW (cc := cX0_setGrants) (maxL := 5) (ret := (some .int)) (by decide) rfl ?_
  intro p e s m args below meth c s₁ B hml hnt hv
  obtain ⟨rfl, hsz, hP, hK, hD0, hT⟩ := hv
  have hx := B.exec
  have hb := B.bytes
  have hr := B.returns
  have hts := atoms_spec (ws := wsX0_setGrants) B.pre
  have hown : s.vm.findClass RX0 = some m.cls := findClass_of_methodNamed B.named
  have hlocks := B.notSynchronized
  subst hsz
  have hD := hD0.self (sz := s.heap.size)
  generalize hAe : va_A (wX cI cJ x0 x1 x2 x3 x4 x5 x6 x7 x8 x9 g rm op rc ec su pe qt rs rn cs cn lc hc lg hg) s.heap.size = A at hD hT ⊢
  have hA : ∀ q : Nat, s.heap.size ≤ q → A q := fun q h9 => by rw [← hAe]; exact Or.inr h9
  have hS : va_S A s.heap s.heap [] := va_S.rf
  have hin : ∀ w ∈ wsX00, w ∈ wsX0_setGrants := fun _ h9 => List.mem_cons_of_mem _ (List.mem_append_left _ (List.mem_append_left _ (List.mem_append_right _ h9)))
  have hw_0 := hts (.fieldLink RX0 9 "RoleMiner" "granted" "[I") (by decide +kernel)
  have hw_1 := hts (.classLink RX0 87 "java/lang/IllegalArgumentException") (by decide +kernel)
  have hw_2 := hts (.initialized "java/lang/IllegalArgumentException") (by decide +kernel)
  have hw_3 := hts (.classLink RX0 67 "java/lang/IndexOutOfBoundsException") (by decide +kernel)
  have hw_4 := hts (.initialized "java/lang/IndexOutOfBoundsException") (by decide +kernel)
  have hw_5 := hts (.fieldLink RX0 13 "RoleMiner" "remembered" "[I") (by decide +kernel)
  have hw_6 := hts (.fieldLink RX0 32 "RoleMiner" "quarter" "I") (by decide +kernel)
  have hl := lv_entry ([.ref x0, .int a1, .int a2]) (n := 5) (Nat.le_of_ble_eq_true rfl)
  rw [lg_entry_eq]
  generalize (lg_sl ([.ref x0, .int a1, .int a2]) ++ List.replicate (5 - (lg_sl ([.ref x0, .int a1, .int a2])).length) Slot.unset).toArray = ls at hl ⊢
  have hl : lv_has ls 5 [(0, .ref x0), (1, .int a1), (2, .int a2)] := hl
  have L44 : ∀ (n : Nat) (v3 : Int32) (v4 : Int32) (g : Nat → Int32) (rm : Nat → Int32) (H : Heap) (locs : List Loc) (ls : Array Slot), m_X0_setGrants_44 fu qt a1 a2 n v3 v4 g rm = some (r0, g', rm') → va_P D vwCl (wX cI cJ x0 x1 x2 x3 x4 x5 x6 x7 x8 x9 g rm op rc ec su pe qt rs rn cs cn lc hc lg hg) H → va_D A (wX cI cJ x0 x1 x2 x3 x4 x5 x6 x7 x8 x9 g rm op rc ec su pe qt rs rn cs cn lc hc lg hg) → va_S A s.heap H locs → lv_has ls 5 [(0, .ref x0), (1, .int a1), (2, .int a2), (3, .int v3), (4, .int v4)] → W p l e (headSpec wsX0_setGrants ({ frames := 6, cells := 1, slots := 6, locals := 90 })).room s m ([.ref x0, .int a1, .int a2] : List Value).toArray below meth c H locs 0 0 (vx_MQ below (va_Qi (fun (r : Int32) (_ : Unit) => r0 = Sum.inr r) (fun (_ : Unit) t => bx_Post D [(cI, .int), (cJ, .long)] (wX cI cJ x0 x1 x2 x3 x4 x5 x6 x7 x8 x9 g' rm' op rc ec su pe qt rs rn cs cn lc hc lg hg) A t) A) (vx_X (fun (_ : Unit) => True) (fun E (_ : Unit) t => r0 = Sum.inl E ∧ bx_Post D [(cI, .int), (cJ, .long)] (wX cI cJ x0 x1 x2 x3 x4 x5 x6 x7 x8 x9 g' rm' op rc ec su pe qt rs rn cs cn lc hc lg hg) A t) A) ([.ref x0, .int a1, .int a2] : List Value).toArray s 1 6 A) (F0 m 44 ls []) := by
    intro n
    induction n with
    | zero =>
      intro v3 v4 g rm H locs ls h
      rw [m_X0_setGrants_44] at h
      cases h
    | succ n ih =>
      intro v3 v4 g rm H locs ls h hP hD hS hl
      rw [m_X0_setGrants_44] at h
      refine lv_iload hx hb dX0_setGrants_44 (lv_at hl 4 rfl) ?_
      refine lv_bipush (v := 12) hx hb dX0_setGrants_46 (by decide) ?_
      refine lv_icmp_ge (tgt := 85) hx hb dX0_setGrants_48 (by decide) (fun c_4 => ?_) (fun c_4 => ?_)
      · replace h := (if_pos c_4).symm.trans h
        refine lv_aload_n hx hb dX0_setGrants_85 rfl (lv_at hl 0 rfl) ?_
        refine va_get (D := D) (ci := 0) (v := .ref x1) (C := RX0) (T := TX0) (N := 16) hx hb hts hin hown hK hP 0 rfl rfl 0 (by decide) hw_0 (fun _ h9 => h9) rfl dX0_setGrants_86 ?_
        refine lv_iload_n hx hb dX0_setGrants_89 rfl (lv_at hl 1 rfl) ?_
        refine lv_iload_n hx hb dX0_setGrants_90 rfl (lv_at hl 2 rfl) ?_
        obtain ⟨h_5, h⟩ := ix_some h
        refine va_iast hx hb hK hP hD hS 1 0 rfl rfl h_5 dX0_setGrants_91 (fun H locs hP hD hS => ?_)
        have hP : va_P D vwCl (wX cI cJ x0 x1 x2 x3 x4 x5 x6 x7 x8 x9 (upd g (Int32.toNatClampNeg a1) a2) rm op rc ec su pe qt rs rn cs cn lc hc lg hg) H := hP
        have hD : va_D A (wX cI cJ x0 x1 x2 x3 x4 x5 x6 x7 x8 x9 (upd g (Int32.toNatClampNeg a1) a2) rm op rc ec su pe qt rs rn cs cn lc hc lg hg) := hD
        refine lv_iload_n hx hb dX0_setGrants_92 rfl (lv_at hl 3 rfl) ?_
        refine lv_iload_n hx hb dX0_setGrants_93 rfl (lv_at hl 2 rfl) ?_
        refine lv_ixor hx hb dX0_setGrants_94 ?_
        refine cl_Si0 (As := [.int (v3 ^^^ a2)]) (rest := []) ⟨hx, hb, hml, hown, hts⟩ (c_J6_bitCount_0f7a4 l D _ (v3 ^^^ a2)) (va_cwS 1 hts gX0_setGrants_J6_bitCount_0f7a4 rfl rfl rfl (by decide +kernel) ⟨Nat.le_of_ble_eq_true rfl, Nat.le_of_ble_eq_true rfl⟩) hK hP hD hS hA rfl rfl hl.1 rfl (lv_room (Nat.le_of_ble_eq_true rfl)) dX0_setGrants_95 (fun H locs hP hD hS => ?_)
        cases h
        refine vx_ret ?_
        refine W.widen (k := 1) (n := 6) (Nat.zero_le _) (Nat.zero_le _) ?_
        exact W.iret hx hb hr (fun t ht hW => ⟨⟨_, (), rfl, rfl, by rw [ht]; exact hP, va_K.moved hW.alike hK, hD⟩, hS.F ht⟩) hS.2.2 dX0_setGrants_98
      · replace h := (if_neg c_4).symm.trans h
        refine lv_iload_n hx hb dX0_setGrants_51 rfl (lv_at hl 2 rfl) ?_
        refine lv_iload_n hx hb dX0_setGrants_52 rfl (lv_at hl 3 rfl) ?_
        refine lv_iconst (v := (-1)) hx hb dX0_setGrants_53 (by decide) ?_
        refine lv_ixor hx hb dX0_setGrants_54 ?_
        refine lv_iand hx hb dX0_setGrants_55 ?_
        refine lv_iload hx hb dX0_setGrants_56 (lv_at hl 4 rfl) ?_
        refine cl_Si0 (As := [.int (a2 &&& (v3 ^^^ (-1))), .int v4]) (rest := []) ⟨hx, hb, hml, hown, hts⟩ (c_X0_has l D _ (a2 &&& (v3 ^^^ (-1))) v4) (va_cwS 2 hts gX0_setGrants_X0_has rfl rfl rfl (by decide +kernel) ⟨Nat.le_of_ble_eq_true rfl, Nat.le_of_ble_eq_true rfl⟩) hK hP hD hS hA rfl rfl hl.1 rfl (lv_room (Nat.le_of_ble_eq_true rfl)) dX0_setGrants_58 (fun H locs hP hD hS => ?_)
        refine lv_if_eq (tgt := 79) hx hb dX0_setGrants_61 (by decide) (fun c_6 => ?_) (fun c_6 => ?_)
        · replace h := (if_pos c_6).symm.trans h
          refine lv_iinc (v := (v4 + 1)) (lv' := [(4, .int (v4 + 1)), (0, .ref x0), (1, .int a1), (2, .int a2), (3, .int v3)]) hx hb dX0_setGrants_79 hl (k := 4) rfl rfl (by decide) rfl (fun ls hl => ?_)
          refine lv_goto (tgt := 44) hx hb dX0_setGrants_82 (by decide) ?_
          exact ih v3 (v4 + 1) g rm _ _ _ h hP hD hS (lv_sub hl [1, 2, 3, 4, 0] rfl)
        · replace h := (if_neg c_6).symm.trans h
          refine lv_aload_n hx hb dX0_setGrants_64 rfl (lv_at hl 0 rfl) ?_
          refine va_get (D := D) (ci := 0) (v := .ref x2) (C := RX0) (T := TX0) (N := 16) hx hb hts hin hown hK hP 0 rfl rfl 1 (by decide) hw_5 (fun _ h9 => h9) rfl dX0_setGrants_65 ?_
          refine lv_iload_n hx hb dX0_setGrants_68 rfl (lv_at hl 1 rfl) ?_
          refine lv_iload hx hb dX0_setGrants_69 (lv_at hl 4 rfl) ?_
          refine cl_Si0 (As := [.int a1, .int v4]) (rest := [.ref x2]) ⟨hx, hb, hml, hown, hts⟩ (c_X0_grantIndex l D _ a1 v4) (va_cwS 2 hts gX0_setGrants_X0_grantIndex rfl rfl rfl (by decide +kernel) ⟨Nat.le_of_ble_eq_true rfl, Nat.le_of_ble_eq_true rfl⟩) hK hP hD hS hA rfl rfl hl.1 rfl (lv_room (Nat.le_of_ble_eq_true rfl)) dX0_setGrants_71 (fun H locs hP hD hS => ?_)
          refine lv_aload_n hx hb dX0_setGrants_74 rfl (lv_at hl 0 rfl) ?_
          refine va_get (D := D) (ci := 0) (v := .int qt) (C := RX0) (T := TX0) (N := 16) hx hb hts hin hown hK hP 0 rfl rfl 7 (by decide) hw_6 (fun _ h9 => h9) rfl dX0_setGrants_75 ?_
          obtain ⟨h_7, h⟩ := ix_some h
          refine va_iast hx hb hK hP hD hS 2 0 rfl rfl h_7 dX0_setGrants_78 (fun H locs hP hD hS => ?_)
          have hP : va_P D vwCl (wX cI cJ x0 x1 x2 x3 x4 x5 x6 x7 x8 x9 g (upd rm (Int32.toNatClampNeg (m_X0_grantIndex a1 v4)) qt) op rc ec su pe qt rs rn cs cn lc hc lg hg) H := hP
          have hD : va_D A (wX cI cJ x0 x1 x2 x3 x4 x5 x6 x7 x8 x9 g (upd rm (Int32.toNatClampNeg (m_X0_grantIndex a1 v4)) qt) op rc ec su pe qt rs rn cs cn lc hc lg hg) := hD
          refine lv_iinc (v := (v4 + 1)) (lv' := [(4, .int (v4 + 1)), (0, .ref x0), (1, .int a1), (2, .int a2), (3, .int v3)]) hx hb dX0_setGrants_79 hl (k := 4) rfl rfl (by decide) rfl (fun ls hl => ?_)
          refine lv_goto (tgt := 44) hx hb dX0_setGrants_82 (by decide) ?_
          exact ih v3 (v4 + 1) g (upd rm (Int32.toNatClampNeg (m_X0_grantIndex a1 v4)) qt) _ _ _ h hP hD hS (lv_sub hl [1, 2, 3, 4, 0] rfl)
  rw [m_X0_setGrants] at h
  refine lv_iload_n hx hb dX0_setGrants_0 rfl (lv_at hl 1 rfl) ?_
  refine cl_Si0 (As := [.int a1]) (rest := []) ⟨hx, hb, hml, hown, hts⟩ (c_X0_isUser l D _ a1) (va_cwS 1 hts gX0_setGrants_X0_isUser rfl rfl rfl (by decide +kernel) ⟨Nat.le_of_ble_eq_true rfl, Nat.le_of_ble_eq_true rfl⟩) hK hP hD hS hA rfl rfl hl.1 rfl (lv_room (Nat.le_of_ble_eq_true rfl)) dX0_setGrants_1 (fun H locs hP hD hS => ?_)
  refine lv_if_ne (tgt := 17) hx hb dX0_setGrants_4 (by decide) (fun c_1 => ?_) (fun c_1 => ?_)
  · replace h := (if_neg c_1).symm.trans h
    refine lv_iload_n hx hb dX0_setGrants_17 rfl (lv_at hl 2 rfl) ?_
    refine cl_Si0 (As := [.int a2]) (rest := []) ⟨hx, hb, hml, hown, hts⟩ (c_X0_isPermissionSet l D _ a2) (va_cwS 1 hts gX0_setGrants_X0_isPermissionSet rfl rfl rfl (by decide +kernel) ⟨Nat.le_of_ble_eq_true rfl, Nat.le_of_ble_eq_true rfl⟩) hK hP hD hS hA rfl rfl hl.1 rfl (lv_room (Nat.le_of_ble_eq_true rfl)) dX0_setGrants_18 (fun H locs hP hD hS => ?_)
    refine lv_if_ne (tgt := 34) hx hb dX0_setGrants_21 (by decide) (fun c_2 => ?_) (fun c_2 => ?_)
    · replace h := (if_neg c_2).symm.trans h
      refine lv_aload_n hx hb dX0_setGrants_34 rfl (lv_at hl 0 rfl) ?_
      refine va_get (D := D) (ci := 0) (v := .ref x1) (C := RX0) (T := TX0) (N := 16) hx hb hts hin hown hK hP 0 rfl rfl 0 (by decide) hw_0 (fun _ h9 => h9) rfl dX0_setGrants_35 ?_
      refine lv_iload_n hx hb dX0_setGrants_38 rfl (lv_at hl 1 rfl) ?_
      obtain ⟨h_3, h⟩ := ix_some h
      refine va_iald hx hb hK hP 1 0 rfl rfl h_3 dX0_setGrants_39 ?_
      refine lv_istore_n (lv' := [(3, .int (g (Int32.toNatClampNeg a1))), (0, .ref x0), (1, .int a1), (2, .int a2)]) hx hb dX0_setGrants_40 rfl hl (by decide) rfl (fun ls hl => ?_)
      refine lv_iconst (v := 0) hx hb dX0_setGrants_41 (by decide) ?_
      refine lv_istore (lv' := [(4, .int 0), (3, .int (g (Int32.toNatClampNeg a1))), (0, .ref x0), (1, .int a1), (2, .int a2)]) hx hb dX0_setGrants_42 hl (by decide) rfl (fun ls hl => ?_)
      exact L44 fu (g (Int32.toNatClampNeg a1)) 0 g rm _ _ _ h hP hD hS (lv_sub hl [2, 3, 4, 1, 0] rfl)
    · replace h := (if_pos c_2).symm.trans h
      cases h
      obtain ⟨sa, hsa⟩ := hT.2.2.2.2.1
      exact vx_throwS (sa := sa) (A := A) (text := "permissions is not 0 to 4095") (names := ["java/lang/RuntimeException", "java/lang/Exception"]) hx hb hst hown (by decide +kernel) (by decide +kernel) hw_1 hw_2 hsa (xt_hat (Ts := wsX0_setGrants) hts (fun w h9 => List.mem_cons_of_mem _ (List.mem_append_right _ h9)) xo_91 hT.1.2.1 hT.1.2.2.2.1 hT.1.2.2.2.2.1 hT.1.2.2.2.2.2) xg_91 hT.2.1.1 hT.2.1.2 hS (hl.1.trans hml.symm) dX0_setGrants_24 dX0_setGrants_27 dX0_setGrants_28 dX0_setGrants_30 dX0_setGrants_33 (fun x h9 => (hnt x h9).elim) (Nat.le_of_ble_eq_true rfl) (Nat.le_of_ble_eq_true rfl) (Nat.le_of_ble_eq_true rfl) (Nat.le_of_ble_eq_true rfl) hlocks (fun t ht hz hk => ⟨(), trivial, ⟨rfl, hP.kept (fun k9 q9 h9 => hk q9.1 (hP k9 q9 h9).lt), va_K.moved ht hK, hD⟩, Nat.le_trans hS.1 hz, fun q9 g1 g2 => (hk q9 (Nat.lt_of_lt_of_le g1 hS.1)).trans (hS.2.1 q9 g1 g2)⟩) hS.2.2 (Nat.le_refl _) (Nat.le_refl _)
  · replace h := (if_pos c_1).symm.trans h
    cases h
    obtain ⟨sa, hsa⟩ := hT.2.2.2.1
    exact vx_throwS (sa := sa) (A := A) (text := "no such user") (names := ["java/lang/RuntimeException", "java/lang/Exception"]) hx hb hst hown (by decide +kernel) (by decide +kernel) hw_3 hw_4 hsa (xt_hat (Ts := wsX0_setGrants) hts (fun w h9 => List.mem_cons_of_mem _ (List.mem_append_left _ (List.mem_append_right _ h9))) xo_71 hT.1.1 hT.1.2.2.2.1 hT.1.2.2.2.2.1 hT.1.2.2.2.2.2) xg_71 hT.2.1.1 hT.2.1.2 hS (hl.1.trans hml.symm) dX0_setGrants_7 dX0_setGrants_10 dX0_setGrants_11 dX0_setGrants_13 dX0_setGrants_16 (fun x h9 => (hnt x h9).elim) (Nat.le_of_ble_eq_true rfl) (Nat.le_of_ble_eq_true rfl) (Nat.le_of_ble_eq_true rfl) (Nat.le_of_ble_eq_true rfl) hlocks (fun t ht hz hk => ⟨(), trivial, ⟨rfl, hP.kept (fun k9 q9 h9 => hk q9.1 (hP k9 q9 h9).lt), va_K.moved ht hK, hD⟩, Nat.le_trans hS.1 hz, fun q9 g1 g2 => (hk q9 (Nat.lt_of_lt_of_le g1 hS.1)).trans (hS.2.1 q9 g1 g2)⟩) hS.2.2 (Nat.le_refl _) (Nat.le_refl _)
-- X0_setConflict
def m_X0_setConflict (op : Nat → Int32) (a1 : Int32) (a2 : Int32) (a3 : Int32) : Option ((String ⊕ Int32) × ((Nat → Int32))) := (if (m_X0_isPermission a1) = 0 then some (.inl "java/lang/IndexOutOfBoundsException", op) else (if (m_X0_isPermission a2) = 0 then some (.inl "java/lang/IndexOutOfBoundsException", op) else (if a1 = a2 then some (.inl "java/lang/IllegalArgumentException", op) else (ix a1 12 (if a3 = 0 then (ix a2 12 (some (.inr (m_X0_has (op (Int32.toNatClampNeg a1)) a2), (upd (upd op (Int32.toNatClampNeg a1) ((op (Int32.toNatClampNeg a1)) &&& ((1 <<< (a2 &&& 31)) ^^^ (-1)))) (Int32.toNatClampNeg a2) (((upd op (Int32.toNatClampNeg a1) ((op (Int32.toNatClampNeg a1)) &&& ((1 <<< (a2 &&& 31)) ^^^ (-1)))) (Int32.toNatClampNeg a2)) &&& ((1 <<< (a1 &&& 31)) ^^^ (-1))))))) else (ix a2 12 (some (.inr (m_X0_has (op (Int32.toNatClampNeg a1)) a2), (upd (upd op (Int32.toNatClampNeg a1) ((op (Int32.toNatClampNeg a1)) ||| (1 <<< (a2 &&& 31)))) (Int32.toNatClampNeg a2) (((upd op (Int32.toNatClampNeg a1) ((op (Int32.toNatClampNeg a1)) ||| (1 <<< (a2 &&& 31)))) (Int32.toNatClampNeg a2)) ||| (1 <<< (a1 &&& 31))))))))))))
set_option maxHeartbeats 4000000 in
set_option maxRecDepth 100000 in
theorem c_X0_setConflict (l : Launch) (hst : l.stackTraces = false) (D : va_G) (cI cJ : ClassId) (x0 x1 x2 x3 x4 x5 x6 x7 x8 x9 : Nat) (sz : Nat) (g : Nat → Int32) (rm : Nat → Int32) (op : Nat → Int32) (rc : Int32) (ec : Int32) (su : Int32) (pe : Int32) (qt : Int32) (rs : Nat → Int32) (rn : Int32) (cs : Nat → Int32) (cn : Int32) (lc : Nat → Int64) (hc : Nat → Int64) (lg : Nat → Int64) (hg : Nat → Int64) (a1 : Int32) (a2 : Int32) (a3 : Int32) (r0 : String ⊕ Int32) (op' : Nat → Int32) (h : m_X0_setConflict op a1 a2 a3 = some (r0, op')) : vx_Met l yX0_setConflict wsX0_setConflict ({ frames := 6, cells := 1, slots := 6, locals := 90 }) (va_Pc [.ref x0, .int a1, .int a2, .int a3] (bx_PreT D [(cI, .int), (cJ, .long)] (wX cI cJ x0 x1 x2 x3 x4 x5 x6 x7 x8 x9 g rm op rc ec su pe qt rs rn cs cn lc hc lg hg) sz)) (va_Qi (fun (r : Int32) (_ : Unit) => r0 = Sum.inr r) (fun (_ : Unit) t => bx_Post D [(cI, .int), (cJ, .long)] (wX cI cJ x0 x1 x2 x3 x4 x5 x6 x7 x8 x9 g rm op' rc ec su pe qt rs rn cs cn lc hc lg hg) (va_A (wX cI cJ x0 x1 x2 x3 x4 x5 x6 x7 x8 x9 g rm op rc ec su pe qt rs rn cs cn lc hc lg hg) sz) t) (va_A (wX cI cJ x0 x1 x2 x3 x4 x5 x6 x7 x8 x9 g rm op rc ec su pe qt rs rn cs cn lc hc lg hg) sz)) (vx_X (fun (_ : Unit) => True) (fun E (_ : Unit) t => r0 = Sum.inl E ∧ bx_Post D [(cI, .int), (cJ, .long)] (wX cI cJ x0 x1 x2 x3 x4 x5 x6 x7 x8 x9 g rm op' rc ec su pe qt rs rn cs cn lc hc lg hg) (va_A (wX cI cJ x0 x1 x2 x3 x4 x5 x6 x7 x8 x9 g rm op rc ec su pe qt rs rn cs cn lc hc lg hg) sz) t) (va_A (wX cI cJ x0 x1 x2 x3 x4 x5 x6 x7 x8 x9 g rm op rc ec su pe qt rs rn cs cn lc hc lg hg) sz)) 1 6 (va_A (wX cI cJ x0 x1 x2 x3 x4 x5 x6 x7 x8 x9 g rm op rc ec su pe qt rs rn cs cn lc hc lg hg) sz) := by
  refine vx_ofW (cc := cX0_setConflict) (maxL := 5) (ret := (some .boolean)) (by decide) rfl ?_
  intro p e s m args below meth c s₁ B hml hnt hv
  obtain ⟨rfl, hsz, hP, hK, hD0, hT⟩ := hv
  have hx := B.exec
  have hb := B.bytes
  have hr := B.returns
  have hts := atoms_spec (ws := wsX0_setConflict) B.pre
  have hown : s.vm.findClass RX0 = some m.cls := findClass_of_methodNamed B.named
  have hlocks := B.notSynchronized
  subst hsz
  have hD := hD0.self (sz := s.heap.size)
  generalize hAe : va_A (wX cI cJ x0 x1 x2 x3 x4 x5 x6 x7 x8 x9 g rm op rc ec su pe qt rs rn cs cn lc hc lg hg) s.heap.size = A at hD hT ⊢
  have hA : ∀ q : Nat, s.heap.size ≤ q → A q := fun q h9 => by rw [← hAe]; exact Or.inr h9
  have hS : va_S A s.heap s.heap [] := va_S.rf
  have hin : ∀ w ∈ wsX00, w ∈ wsX0_setConflict := fun _ h9 => List.mem_cons_of_mem _ (List.mem_append_left _ (List.mem_append_left _ (List.mem_append_right _ h9)))
  have hw_0 := hts (.classLink RX0 67 "java/lang/IndexOutOfBoundsException") (by decide +kernel)
  have hw_1 := hts (.initialized "java/lang/IndexOutOfBoundsException") (by decide +kernel)
  have hw_2 := hts (.fieldLink RX0 16 "RoleMiner" "opposed" "[I") (by decide +kernel)
  have hw_3 := hts (.classLink RX0 87 "java/lang/IllegalArgumentException") (by decide +kernel)
  have hw_4 := hts (.initialized "java/lang/IllegalArgumentException") (by decide +kernel)
  have hl := lv_entry ([.ref x0, .int a1, .int a2, .int a3]) (n := 5) (Nat.le_of_ble_eq_true rfl)
  rw [lg_entry_eq]
  generalize (lg_sl ([.ref x0, .int a1, .int a2, .int a3]) ++ List.replicate (5 - (lg_sl ([.ref x0, .int a1, .int a2, .int a3])).length) Slot.unset).toArray = ls at hl ⊢
  have hl : lv_has ls 5 [(0, .ref x0), (1, .int a1), (2, .int a2), (3, .int a3)] := hl
  rw [m_X0_setConflict] at h
  refine lv_iload_n hx hb dX0_setConflict_0 rfl (lv_at hl 1 rfl) ?_
  refine cl_Si0 (As := [.int a1]) (rest := []) ⟨hx, hb, hml, hown, hts⟩ (c_X0_isPermission l D _ a1) (va_cwS 1 hts gX0_setConflict_X0_isPermission rfl rfl rfl (by decide +kernel) ⟨Nat.le_of_ble_eq_true rfl, Nat.le_of_ble_eq_true rfl⟩) hK hP hD hS hA rfl rfl hl.1 rfl (lv_room (Nat.le_of_ble_eq_true rfl)) dX0_setConflict_1 (fun H locs hP hD hS => ?_)
  refine lv_if_eq (tgt := 14) hx hb dX0_setConflict_4 (by decide) (fun c_1 => ?_) (fun c_1 => ?_)
  · replace h := (if_pos c_1).symm.trans h
    cases h
    obtain ⟨sa, hsa⟩ := hT.2.2.2.2.2.1
    exact vx_throwS (sa := sa) (A := A) (text := "no such permission") (names := ["java/lang/RuntimeException", "java/lang/Exception"]) hx hb hst hown (by decide +kernel) (by decide +kernel) hw_0 hw_1 hsa (xt_hat (Ts := wsX0_setConflict) hts (fun w h9 => List.mem_cons_of_mem _ (List.mem_append_left _ (List.mem_append_right _ h9))) xo_71 hT.1.1 hT.1.2.2.2.1 hT.1.2.2.2.2.1 hT.1.2.2.2.2.2) xg_71 hT.2.1.1 hT.2.1.2 hS (hl.1.trans hml.symm) dX0_setConflict_14 dX0_setConflict_17 dX0_setConflict_18 dX0_setConflict_20 dX0_setConflict_23 (fun x h9 => (hnt x h9).elim) (Nat.le_of_ble_eq_true rfl) (Nat.le_of_ble_eq_true rfl) (Nat.le_of_ble_eq_true rfl) (Nat.le_of_ble_eq_true rfl) hlocks (fun t ht hz hk => ⟨(), trivial, ⟨rfl, hP.kept (fun k9 q9 h9 => hk q9.1 (hP k9 q9 h9).lt), va_K.moved ht hK, hD⟩, Nat.le_trans hS.1 hz, fun q9 g1 g2 => (hk q9 (Nat.lt_of_lt_of_le g1 hS.1)).trans (hS.2.1 q9 g1 g2)⟩) hS.2.2 (Nat.le_refl _) (Nat.le_refl _)
  · replace h := (if_neg c_1).symm.trans h
    refine lv_iload_n hx hb dX0_setConflict_7 rfl (lv_at hl 2 rfl) ?_
    refine cl_Si0 (As := [.int a2]) (rest := []) ⟨hx, hb, hml, hown, hts⟩ (c_X0_isPermission l D _ a2) (va_cwS 1 hts gX0_setConflict_X0_isPermission rfl rfl rfl (by decide +kernel) ⟨Nat.le_of_ble_eq_true rfl, Nat.le_of_ble_eq_true rfl⟩) hK hP hD hS hA rfl rfl hl.1 rfl (lv_room (Nat.le_of_ble_eq_true rfl)) dX0_setConflict_8 (fun H locs hP hD hS => ?_)
    refine lv_if_ne (tgt := 24) hx hb dX0_setConflict_11 (by decide) (fun c_2 => ?_) (fun c_2 => ?_)
    · replace h := (if_neg c_2).symm.trans h
      refine lv_iload_n hx hb dX0_setConflict_24 rfl (lv_at hl 1 rfl) ?_
      refine lv_iload_n hx hb dX0_setConflict_25 rfl (lv_at hl 2 rfl) ?_
      refine lv_icmp_ne (tgt := 39) hx hb dX0_setConflict_26 (by decide) (fun c_3 => ?_) (fun c_3 => ?_)
      · replace h := (if_neg c_3).symm.trans h
        refine lv_aload_n hx hb dX0_setConflict_39 rfl (lv_at hl 0 rfl) ?_
        refine va_get (D := D) (ci := 0) (v := .ref x3) (C := RX0) (T := TX0) (N := 16) hx hb hts hin hown hK hP 0 rfl rfl 2 (by decide) hw_2 (fun _ h9 => h9) rfl dX0_setConflict_40 ?_
        refine lv_iload_n hx hb dX0_setConflict_43 rfl (lv_at hl 1 rfl) ?_
        obtain ⟨h_4, h⟩ := ix_some h
        refine va_iald hx hb hK hP 3 0 rfl rfl h_4 dX0_setConflict_44 ?_
        refine lv_iload_n hx hb dX0_setConflict_45 rfl (lv_at hl 2 rfl) ?_
        refine cl_Si0 (As := [.int (op (Int32.toNatClampNeg a1)), .int a2]) (rest := []) ⟨hx, hb, hml, hown, hts⟩ (c_X0_has l D _ (op (Int32.toNatClampNeg a1)) a2) (va_cwS 2 hts gX0_setConflict_X0_has rfl rfl rfl (by decide +kernel) ⟨Nat.le_of_ble_eq_true rfl, Nat.le_of_ble_eq_true rfl⟩) hK hP hD hS hA rfl rfl hl.1 rfl (lv_room (Nat.le_of_ble_eq_true rfl)) dX0_setConflict_46 (fun H locs hP hD hS => ?_)
        refine lv_istore (lv' := [(4, .int (m_X0_has (op (Int32.toNatClampNeg a1)) a2)), (0, .ref x0), (1, .int a1), (2, .int a2), (3, .int a3)]) hx hb dX0_setConflict_49 hl (by decide) rfl (fun ls hl => ?_)
        refine lv_iload_n hx hb dX0_setConflict_51 rfl (lv_at hl 4 rfl) ?_
        refine lv_if_eq (tgt := 82) hx hb dX0_setConflict_52 (by decide) (fun c_5 => ?_) (fun c_5 => ?_)
        · replace h := (if_pos c_5).symm.trans h
          refine lv_aload_n hx hb dX0_setConflict_82 rfl (lv_at hl 1 rfl) ?_
          refine va_get (D := D) (ci := 0) (v := .ref x3) (C := RX0) (T := TX0) (N := 16) hx hb hts hin hown hK hP 0 rfl rfl 2 (by decide) hw_2 (fun _ h9 => h9) rfl dX0_setConflict_83 ?_
          refine lv_iload_n hx hb dX0_setConflict_86 rfl (lv_at hl 2 rfl) ?_
          refine lv_dup2_11 hx hb dX0_setConflict_87 rfl rfl ?_
          refine va_iald hx hb hK hP 3 0 rfl rfl h_4 dX0_setConflict_88 ?_
          refine lv_iconst (v := 1) hx hb dX0_setConflict_89 (by decide) ?_
          refine lv_iload_n hx hb dX0_setConflict_90 rfl (lv_at hl 3 rfl) ?_
          refine lv_ishl hx hb dX0_setConflict_91 ?_
          refine lv_iconst (v := (-1)) hx hb dX0_setConflict_92 (by decide) ?_
          refine lv_ixor hx hb dX0_setConflict_93 ?_
          refine lv_iand hx hb dX0_setConflict_94 ?_
          refine va_iast hx hb hK hP hD hS 3 0 rfl rfl h_4 dX0_setConflict_95 (fun H locs hP hD hS => ?_)
          have hP : va_P D vwCl (wX cI cJ x0 x1 x2 x3 x4 x5 x6 x7 x8 x9 g rm (upd op (Int32.toNatClampNeg a1) ((op (Int32.toNatClampNeg a1)) &&& ((1 <<< (a2 &&& 31)) ^^^ (-1)))) rc ec su pe qt rs rn cs cn lc hc lg hg) H := hP
          have hD : va_D A (wX cI cJ x0 x1 x2 x3 x4 x5 x6 x7 x8 x9 g rm (upd op (Int32.toNatClampNeg a1) ((op (Int32.toNatClampNeg a1)) &&& ((1 <<< (a2 &&& 31)) ^^^ (-1)))) rc ec su pe qt rs rn cs cn lc hc lg hg) := hD
          refine lv_aload_n hx hb dX0_setConflict_96 rfl (lv_at hl 1 rfl) ?_
          refine va_get (D := D) (ci := 0) (v := .ref x3) (C := RX0) (T := TX0) (N := 16) hx hb hts hin hown hK hP 0 rfl rfl 2 (by decide) hw_2 (fun _ h9 => h9) rfl dX0_setConflict_97 ?_
          refine lv_iload_n hx hb dX0_setConflict_100 rfl (lv_at hl 3 rfl) ?_
          refine lv_dup2_11 hx hb dX0_setConflict_101 rfl rfl ?_
          obtain ⟨h_6, h⟩ := ix_some h
          refine va_iald hx hb hK hP 3 0 rfl rfl h_6 dX0_setConflict_102 ?_
          refine lv_iconst (v := 1) hx hb dX0_setConflict_103 (by decide) ?_
          refine lv_iload_n hx hb dX0_setConflict_104 rfl (lv_at hl 2 rfl) ?_
          refine lv_ishl hx hb dX0_setConflict_105 ?_
          refine lv_iconst (v := (-1)) hx hb dX0_setConflict_106 (by decide) ?_
          refine lv_ixor hx hb dX0_setConflict_107 ?_
          refine lv_iand hx hb dX0_setConflict_108 ?_
          refine va_iast hx hb hK hP hD hS 3 0 rfl rfl h_6 dX0_setConflict_109 (fun H locs hP hD hS => ?_)
          have hP : va_P D vwCl (wX cI cJ x0 x1 x2 x3 x4 x5 x6 x7 x8 x9 g rm (upd (upd op (Int32.toNatClampNeg a1) ((op (Int32.toNatClampNeg a1)) &&& ((1 <<< (a2 &&& 31)) ^^^ (-1)))) (Int32.toNatClampNeg a2) (((upd op (Int32.toNatClampNeg a1) ((op (Int32.toNatClampNeg a1)) &&& ((1 <<< (a2 &&& 31)) ^^^ (-1)))) (Int32.toNatClampNeg a2)) &&& ((1 <<< (a1 &&& 31)) ^^^ (-1)))) rc ec su pe qt rs rn cs cn lc hc lg hg) H := hP
          have hD : va_D A (wX cI cJ x0 x1 x2 x3 x4 x5 x6 x7 x8 x9 g rm (upd (upd op (Int32.toNatClampNeg a1) ((op (Int32.toNatClampNeg a1)) &&& ((1 <<< (a2 &&& 31)) ^^^ (-1)))) (Int32.toNatClampNeg a2) (((upd op (Int32.toNatClampNeg a1) ((op (Int32.toNatClampNeg a1)) &&& ((1 <<< (a2 &&& 31)) ^^^ (-1)))) (Int32.toNatClampNeg a2)) &&& ((1 <<< (a1 &&& 31)) ^^^ (-1)))) rc ec su pe qt rs rn cs cn lc hc lg hg) := hD
          refine lv_iload hx hb dX0_setConflict_110 (lv_at hl 0 rfl) ?_
          cases h
          refine vx_ret ?_
          refine W.widen (k := 1) (n := 6) (Nat.zero_le _) (Nat.zero_le _) ?_
          exact W.zret hx hb hr (nb_X0_has ..) (fun t ht hW => ⟨⟨_, (), rfl, rfl, by rw [ht]; exact hP, va_K.moved hW.alike hK, hD⟩, hS.F ht⟩) hS.2.2 dX0_setConflict_112
        · replace h := (if_neg c_5).symm.trans h
          refine lv_aload_n hx hb dX0_setConflict_55 rfl (lv_at hl 1 rfl) ?_
          refine va_get (D := D) (ci := 0) (v := .ref x3) (C := RX0) (T := TX0) (N := 16) hx hb hts hin hown hK hP 0 rfl rfl 2 (by decide) hw_2 (fun _ h9 => h9) rfl dX0_setConflict_56 ?_
          refine lv_iload_n hx hb dX0_setConflict_59 rfl (lv_at hl 2 rfl) ?_
          refine lv_dup2_11 hx hb dX0_setConflict_60 rfl rfl ?_
          refine va_iald hx hb hK hP 3 0 rfl rfl h_4 dX0_setConflict_61 ?_
          refine lv_iconst (v := 1) hx hb dX0_setConflict_62 (by decide) ?_
          refine lv_iload_n hx hb dX0_setConflict_63 rfl (lv_at hl 3 rfl) ?_
          refine lv_ishl hx hb dX0_setConflict_64 ?_
          refine lv_ior hx hb dX0_setConflict_65 ?_
          refine va_iast hx hb hK hP hD hS 3 0 rfl rfl h_4 dX0_setConflict_66 (fun H locs hP hD hS => ?_)
          have hP : va_P D vwCl (wX cI cJ x0 x1 x2 x3 x4 x5 x6 x7 x8 x9 g rm (upd op (Int32.toNatClampNeg a1) ((op (Int32.toNatClampNeg a1)) ||| (1 <<< (a2 &&& 31)))) rc ec su pe qt rs rn cs cn lc hc lg hg) H := hP
          have hD : va_D A (wX cI cJ x0 x1 x2 x3 x4 x5 x6 x7 x8 x9 g rm (upd op (Int32.toNatClampNeg a1) ((op (Int32.toNatClampNeg a1)) ||| (1 <<< (a2 &&& 31)))) rc ec su pe qt rs rn cs cn lc hc lg hg) := hD
          refine lv_aload_n hx hb dX0_setConflict_67 rfl (lv_at hl 1 rfl) ?_
          refine va_get (D := D) (ci := 0) (v := .ref x3) (C := RX0) (T := TX0) (N := 16) hx hb hts hin hown hK hP 0 rfl rfl 2 (by decide) hw_2 (fun _ h9 => h9) rfl dX0_setConflict_68 ?_
          refine lv_iload_n hx hb dX0_setConflict_71 rfl (lv_at hl 3 rfl) ?_
          refine lv_dup2_11 hx hb dX0_setConflict_72 rfl rfl ?_
          obtain ⟨h_7, h⟩ := ix_some h
          refine va_iald hx hb hK hP 3 0 rfl rfl h_7 dX0_setConflict_73 ?_
          refine lv_iconst (v := 1) hx hb dX0_setConflict_74 (by decide) ?_
          refine lv_iload_n hx hb dX0_setConflict_75 rfl (lv_at hl 2 rfl) ?_
          refine lv_ishl hx hb dX0_setConflict_76 ?_
          refine lv_ior hx hb dX0_setConflict_77 ?_
          refine va_iast hx hb hK hP hD hS 3 0 rfl rfl h_7 dX0_setConflict_78 (fun H locs hP hD hS => ?_)
          have hP : va_P D vwCl (wX cI cJ x0 x1 x2 x3 x4 x5 x6 x7 x8 x9 g rm (upd (upd op (Int32.toNatClampNeg a1) ((op (Int32.toNatClampNeg a1)) ||| (1 <<< (a2 &&& 31)))) (Int32.toNatClampNeg a2) (((upd op (Int32.toNatClampNeg a1) ((op (Int32.toNatClampNeg a1)) ||| (1 <<< (a2 &&& 31)))) (Int32.toNatClampNeg a2)) ||| (1 <<< (a1 &&& 31)))) rc ec su pe qt rs rn cs cn lc hc lg hg) H := hP
          have hD : va_D A (wX cI cJ x0 x1 x2 x3 x4 x5 x6 x7 x8 x9 g rm (upd (upd op (Int32.toNatClampNeg a1) ((op (Int32.toNatClampNeg a1)) ||| (1 <<< (a2 &&& 31)))) (Int32.toNatClampNeg a2) (((upd op (Int32.toNatClampNeg a1) ((op (Int32.toNatClampNeg a1)) ||| (1 <<< (a2 &&& 31)))) (Int32.toNatClampNeg a2)) ||| (1 <<< (a1 &&& 31)))) rc ec su pe qt rs rn cs cn lc hc lg hg) := hD
          refine lv_goto (tgt := 110) hx hb dX0_setConflict_79 (by decide) ?_
          refine lv_iload hx hb dX0_setConflict_110 (lv_at hl 0 rfl) ?_
          cases h
          refine vx_ret ?_
          refine W.widen (k := 1) (n := 6) (Nat.zero_le _) (Nat.zero_le _) ?_
          exact W.zret hx hb hr (nb_X0_has ..) (fun t ht hW => ⟨⟨_, (), rfl, rfl, by rw [ht]; exact hP, va_K.moved hW.alike hK, hD⟩, hS.F ht⟩) hS.2.2 dX0_setConflict_112
      · replace h := (if_pos c_3).symm.trans h
        cases h
        obtain ⟨sa, hsa⟩ := hT.2.2.2.2.2.2.1
        exact vx_throwS (sa := sa) (A := A) (text := "both permissions are the same") (names := ["java/lang/RuntimeException", "java/lang/Exception"]) hx hb hst hown (by decide +kernel) (by decide +kernel) hw_3 hw_4 hsa (xt_hat (Ts := wsX0_setConflict) hts (fun w h9 => List.mem_cons_of_mem _ (List.mem_append_right _ h9)) xo_91 hT.1.2.1 hT.1.2.2.2.1 hT.1.2.2.2.2.1 hT.1.2.2.2.2.2) xg_91 hT.2.1.1 hT.2.1.2 hS (hl.1.trans hml.symm) dX0_setConflict_29 dX0_setConflict_32 dX0_setConflict_33 dX0_setConflict_35 dX0_setConflict_38 (fun x h9 => (hnt x h9).elim) (Nat.le_of_ble_eq_true rfl) (Nat.le_of_ble_eq_true rfl) (Nat.le_of_ble_eq_true rfl) (Nat.le_of_ble_eq_true rfl) hlocks (fun t ht hz hk => ⟨(), trivial, ⟨rfl, hP.kept (fun k9 q9 h9 => hk q9.1 (hP k9 q9 h9).lt), va_K.moved ht hK, hD⟩, Nat.le_trans hS.1 hz, fun q9 g1 g2 => (hk q9 (Nat.lt_of_lt_of_le g1 hS.1)).trans (hS.2.1 q9 g1 g2)⟩) hS.2.2 (Nat.le_refl _) (Nat.le_refl _)
    · replace h := (if_pos c_2).symm.trans h
      cases h
      obtain ⟨sa, hsa⟩ := hT.2.2.2.2.2.1
      exact vx_throwS (sa := sa) (A := A) (text := "no such permission") (names := ["java/lang/RuntimeException", "java/lang/Exception"]) hx hb hst hown (by decide +kernel) (by decide +kernel) hw_0 hw_1 hsa (xt_hat (Ts := wsX0_setConflict) hts (fun w h9 => List.mem_cons_of_mem _ (List.mem_append_left _ (List.mem_append_right _ h9))) xo_71 hT.1.1 hT.1.2.2.2.1 hT.1.2.2.2.2.1 hT.1.2.2.2.2.2) xg_71 hT.2.1.1 hT.2.1.2 hS (hl.1.trans hml.symm) dX0_setConflict_14 dX0_setConflict_17 dX0_setConflict_18 dX0_setConflict_20 dX0_setConflict_23 (fun x h9 => (hnt x h9).elim) (Nat.le_of_ble_eq_true rfl) (Nat.le_of_ble_eq_true rfl) (Nat.le_of_ble_eq_true rfl) (Nat.le_of_ble_eq_true rfl) hlocks (fun t ht hz hk => ⟨(), trivial, ⟨rfl, hP.kept (fun k9 q9 h9 => hk q9.1 (hP k9 q9 h9).lt), va_K.moved ht hK, hD⟩, Nat.le_trans hS.1 hz, fun q9 g1 g2 => (hk q9 (Nat.lt_of_lt_of_le g1 hS.1)).trans (hS.2.1 q9 g1 g2)⟩) hS.2.2 (Nat.le_refl _) (Nat.le_refl _)
-- X0_setCosts
def m_X0_setCosts (rc : Int32) (ec : Int32) (a1 : Int32) (a2 : Int32) : Option ((String ⊕ Int32) × ((Int32)) × ((Int32))) := (if (m_X0_isCost a1) = 0 then some (.inl "java/lang/IllegalArgumentException", rc, ec) else (if (m_X0_isCost a2) = 0 then some (.inl "java/lang/IllegalArgumentException", rc, ec) else some (.inr 0, a1, a2)))
set_option maxHeartbeats 4000000 in
set_option maxRecDepth 100000 in
theorem c_X0_setCosts (l : Launch) (hst : l.stackTraces = false) (D : va_G) (cI cJ : ClassId) (x0 x1 x2 x3 x4 x5 x6 x7 x8 x9 : Nat) (sz : Nat) (g : Nat → Int32) (rm : Nat → Int32) (op : Nat → Int32) (rc : Int32) (ec : Int32) (su : Int32) (pe : Int32) (qt : Int32) (rs : Nat → Int32) (rn : Int32) (cs : Nat → Int32) (cn : Int32) (lc : Nat → Int64) (hc : Nat → Int64) (lg : Nat → Int64) (hg : Nat → Int64) (a1 : Int32) (a2 : Int32) (r0 : String ⊕ Int32) (rc' : Int32) (ec' : Int32) (h : m_X0_setCosts rc ec a1 a2 = some (r0, rc', ec')) : vx_Met l yX0_setCosts wsX0_setCosts ({ frames := 6, cells := 1, slots := 6, locals := 90 }) (va_Pc [.ref x0, .int a1, .int a2] (bx_PreT D [(cI, .int), (cJ, .long)] (wX cI cJ x0 x1 x2 x3 x4 x5 x6 x7 x8 x9 g rm op rc ec su pe qt rs rn cs cn lc hc lg hg) sz)) (va_Qv (fun (_ : Unit) => r0 = Sum.inr 0) (fun (_ : Unit) t => bx_Post D [(cI, .int), (cJ, .long)] (wX cI cJ x0 x1 x2 x3 x4 x5 x6 x7 x8 x9 g rm op rc' ec' su pe qt rs rn cs cn lc hc lg hg) (va_A (wX cI cJ x0 x1 x2 x3 x4 x5 x6 x7 x8 x9 g rm op rc ec su pe qt rs rn cs cn lc hc lg hg) sz) t) (va_A (wX cI cJ x0 x1 x2 x3 x4 x5 x6 x7 x8 x9 g rm op rc ec su pe qt rs rn cs cn lc hc lg hg) sz)) (vx_X (fun (_ : Unit) => True) (fun E (_ : Unit) t => r0 = Sum.inl E ∧ bx_Post D [(cI, .int), (cJ, .long)] (wX cI cJ x0 x1 x2 x3 x4 x5 x6 x7 x8 x9 g rm op rc' ec' su pe qt rs rn cs cn lc hc lg hg) (va_A (wX cI cJ x0 x1 x2 x3 x4 x5 x6 x7 x8 x9 g rm op rc ec su pe qt rs rn cs cn lc hc lg hg) sz) t) (va_A (wX cI cJ x0 x1 x2 x3 x4 x5 x6 x7 x8 x9 g rm op rc ec su pe qt rs rn cs cn lc hc lg hg) sz)) 1 6 (va_A (wX cI cJ x0 x1 x2 x3 x4 x5 x6 x7 x8 x9 g rm op rc ec su pe qt rs rn cs cn lc hc lg hg) sz) := by
  refine vx_ofW (cc := cX0_setCosts) (maxL := 3) (ret := none) (by decide) rfl ?_
  intro p e s m args below meth c s₁ B hml hnt hv
  obtain ⟨rfl, hsz, hP, hK, hD0, hT⟩ := hv
  have hx := B.exec
  have hb := B.bytes
  have hr := B.returns
  have hts := atoms_spec (ws := wsX0_setCosts) B.pre
  have hown : s.vm.findClass RX0 = some m.cls := findClass_of_methodNamed B.named
  have hlocks := B.notSynchronized
  subst hsz
  have hD := hD0.self (sz := s.heap.size)
  generalize hAe : va_A (wX cI cJ x0 x1 x2 x3 x4 x5 x6 x7 x8 x9 g rm op rc ec su pe qt rs rn cs cn lc hc lg hg) s.heap.size = A at hD hT ⊢
  have hA : ∀ q : Nat, s.heap.size ≤ q → A q := fun q h9 => by rw [← hAe]; exact Or.inr h9
  have hS : va_S A s.heap s.heap [] := va_S.rf
  have hin : ∀ w ∈ wsX00, w ∈ wsX0_setCosts := fun _ h9 => List.mem_cons_of_mem _ (List.mem_append_left _ (List.mem_append_right _ h9))
  have hw_0 := hts (.classLink RX0 87 "java/lang/IllegalArgumentException") (by decide +kernel)
  have hw_1 := hts (.initialized "java/lang/IllegalArgumentException") (by decide +kernel)
  have hw_2 := hts (.fieldLink RX0 19 "RoleMiner" "roleCost" "I") (by decide +kernel)
  have hw_3 := hts (.fieldLink RX0 23 "RoleMiner" "exceptionCost" "I") (by decide +kernel)
  have hl := lv_entry ([.ref x0, .int a1, .int a2]) (n := 3) (Nat.le_of_ble_eq_true rfl)
  rw [lg_entry_eq]
  generalize (lg_sl ([.ref x0, .int a1, .int a2]) ++ List.replicate (3 - (lg_sl ([.ref x0, .int a1, .int a2])).length) Slot.unset).toArray = ls at hl ⊢
  have hl : lv_has ls 3 [(0, .ref x0), (1, .int a1), (2, .int a2)] := hl
  rw [m_X0_setCosts] at h
  refine lv_iload_n hx hb dX0_setCosts_0 rfl (lv_at hl 1 rfl) ?_
  refine cl_Si0 (As := [.int a1]) (rest := []) ⟨hx, hb, hml, hown, hts⟩ (c_X0_isCost l D _ a1) (va_cwS 1 hts gX0_setCosts_X0_isCost rfl rfl rfl (by decide +kernel) ⟨Nat.le_of_ble_eq_true rfl, Nat.le_of_ble_eq_true rfl⟩) hK hP hD hS hA rfl rfl hl.1 rfl (lv_room (Nat.le_of_ble_eq_true rfl)) dX0_setCosts_1 (fun H locs hP hD hS => ?_)
  refine lv_if_eq (tgt := 14) hx hb dX0_setCosts_4 (by decide) (fun c_1 => ?_) (fun c_1 => ?_)
  · replace h := (if_pos c_1).symm.trans h
    cases h
    obtain ⟨sa, hsa⟩ := hT.2.2.2.2.2.2.2.1
    exact vx_throwS (sa := sa) (A := A) (text := "a cost is not 0 to 100") (names := ["java/lang/RuntimeException", "java/lang/Exception"]) hx hb hst hown (by decide +kernel) (by decide +kernel) hw_0 hw_1 hsa (xt_hat (Ts := wsX0_setCosts) hts (fun w h9 => List.mem_cons_of_mem _ (List.mem_append_right _ h9)) xo_91 hT.1.2.1 hT.1.2.2.2.1 hT.1.2.2.2.2.1 hT.1.2.2.2.2.2) xg_91 hT.2.1.1 hT.2.1.2 hS (hl.1.trans hml.symm) dX0_setCosts_14 dX0_setCosts_17 dX0_setCosts_18 dX0_setCosts_20 dX0_setCosts_23 (fun x h9 => (hnt x h9).elim) (Nat.le_of_ble_eq_true rfl) (Nat.le_of_ble_eq_true rfl) (Nat.le_of_ble_eq_true rfl) (Nat.le_of_ble_eq_true rfl) hlocks (fun t ht hz hk => ⟨(), trivial, ⟨rfl, hP.kept (fun k9 q9 h9 => hk q9.1 (hP k9 q9 h9).lt), va_K.moved ht hK, hD⟩, Nat.le_trans hS.1 hz, fun q9 g1 g2 => (hk q9 (Nat.lt_of_lt_of_le g1 hS.1)).trans (hS.2.1 q9 g1 g2)⟩) hS.2.2 (Nat.le_refl _) (Nat.le_refl _)
  · replace h := (if_neg c_1).symm.trans h
    refine lv_iload_n hx hb dX0_setCosts_7 rfl (lv_at hl 2 rfl) ?_
    refine cl_Si0 (As := [.int a2]) (rest := []) ⟨hx, hb, hml, hown, hts⟩ (c_X0_isCost l D _ a2) (va_cwS 1 hts gX0_setCosts_X0_isCost rfl rfl rfl (by decide +kernel) ⟨Nat.le_of_ble_eq_true rfl, Nat.le_of_ble_eq_true rfl⟩) hK hP hD hS hA rfl rfl hl.1 rfl (lv_room (Nat.le_of_ble_eq_true rfl)) dX0_setCosts_8 (fun H locs hP hD hS => ?_)
    refine lv_if_ne (tgt := 24) hx hb dX0_setCosts_11 (by decide) (fun c_2 => ?_) (fun c_2 => ?_)
    · replace h := (if_neg c_2).symm.trans h
      refine lv_aload_n hx hb dX0_setCosts_24 rfl (lv_at hl 0 rfl) ?_
      refine lv_iload_n hx hb dX0_setCosts_25 rfl (lv_at hl 1 rfl) ?_
      refine va_put (D := D) (ci := 0) (v := .int a1) (ty := .int) (C := RX0) (T := TX0) (N := 16) hx hb hts hin tyX0 tyX0_ok nmX0 hown hK hP hD hS 0 rfl rfl 3 (by decide) hw_2 (fun _ h9 => h9) rfl (by decide +kernel) rfl rfl (Nat.le_of_ble_eq_true rfl) dX0_setCosts_26 (fun H locs hP hD hS => ?_)
      have hP : va_P D vwCl (wX cI cJ x0 x1 x2 x3 x4 x5 x6 x7 x8 x9 g rm op a1 ec su pe qt rs rn cs cn lc hc lg hg) H := hP
      have hD : va_D A (wX cI cJ x0 x1 x2 x3 x4 x5 x6 x7 x8 x9 g rm op a1 ec su pe qt rs rn cs cn lc hc lg hg) := hD
      refine lv_aload_n hx hb dX0_setCosts_29 rfl (lv_at hl 0 rfl) ?_
      refine lv_iload_n hx hb dX0_setCosts_30 rfl (lv_at hl 2 rfl) ?_
      refine va_put (D := D) (ci := 0) (v := .int a2) (ty := .int) (C := RX0) (T := TX0) (N := 16) hx hb hts hin tyX0 tyX0_ok nmX0 hown hK hP hD hS 0 rfl rfl 4 (by decide) hw_3 (fun _ h9 => h9) rfl (by decide +kernel) rfl rfl (Nat.le_of_ble_eq_true rfl) dX0_setCosts_31 (fun H locs hP hD hS => ?_)
      have hP : va_P D vwCl (wX cI cJ x0 x1 x2 x3 x4 x5 x6 x7 x8 x9 g rm op a1 a2 su pe qt rs rn cs cn lc hc lg hg) H := hP
      have hD : va_D A (wX cI cJ x0 x1 x2 x3 x4 x5 x6 x7 x8 x9 g rm op a1 a2 su pe qt rs rn cs cn lc hc lg hg) := hD
      cases h
      refine vx_ret ?_
      refine W.widen (k := 1) (n := 6) (Nat.zero_le _) (Nat.zero_le _) ?_
      exact W.vret hx hb hr (fun t ht hW => ⟨⟨(), rfl, rfl, by rw [ht]; exact hP, va_K.moved hW.alike hK, hD⟩, hS.F ht⟩) hS.2.2 dX0_setCosts_34
    · replace h := (if_pos c_2).symm.trans h
      cases h
      obtain ⟨sa, hsa⟩ := hT.2.2.2.2.2.2.2.1
      exact vx_throwS (sa := sa) (A := A) (text := "a cost is not 0 to 100") (names := ["java/lang/RuntimeException", "java/lang/Exception"]) hx hb hst hown (by decide +kernel) (by decide +kernel) hw_0 hw_1 hsa (xt_hat (Ts := wsX0_setCosts) hts (fun w h9 => List.mem_cons_of_mem _ (List.mem_append_right _ h9)) xo_91 hT.1.2.1 hT.1.2.2.2.1 hT.1.2.2.2.2.1 hT.1.2.2.2.2.2) xg_91 hT.2.1.1 hT.2.1.2 hS (hl.1.trans hml.symm) dX0_setCosts_14 dX0_setCosts_17 dX0_setCosts_18 dX0_setCosts_20 dX0_setCosts_23 (fun x h9 => (hnt x h9).elim) (Nat.le_of_ble_eq_true rfl) (Nat.le_of_ble_eq_true rfl) (Nat.le_of_ble_eq_true rfl) (Nat.le_of_ble_eq_true rfl) hlocks (fun t ht hz hk => ⟨(), trivial, ⟨rfl, hP.kept (fun k9 q9 h9 => hk q9.1 (hP k9 q9 h9).lt), va_K.moved ht hK, hD⟩, Nat.le_trans hS.1 hz, fun q9 g1 g2 => (hk q9 (Nat.lt_of_lt_of_le g1 hS.1)).trans (hS.2.1 q9 g1 g2)⟩) hS.2.2 (Nat.le_refl _) (Nat.le_refl _)
-- X0_setSupport
def m_X0_setSupport (su : Int32) (a1 : Int32) : Option ((String ⊕ Int32) × ((Int32))) := (if a1 < 1 then some (.inl "java/lang/IllegalArgumentException", su) else (if a1 ≤ 8 then some (.inr su, a1) else some (.inl "java/lang/IllegalArgumentException", su)))
set_option maxHeartbeats 4000000 in
set_option maxRecDepth 100000 in
theorem c_X0_setSupport (l : Launch) (hst : l.stackTraces = false) (D : va_G) (cI cJ : ClassId) (x0 x1 x2 x3 x4 x5 x6 x7 x8 x9 : Nat) (sz : Nat) (g : Nat → Int32) (rm : Nat → Int32) (op : Nat → Int32) (rc : Int32) (ec : Int32) (su : Int32) (pe : Int32) (qt : Int32) (rs : Nat → Int32) (rn : Int32) (cs : Nat → Int32) (cn : Int32) (lc : Nat → Int64) (hc : Nat → Int64) (lg : Nat → Int64) (hg : Nat → Int64) (a1 : Int32) (r0 : String ⊕ Int32) (su' : Int32) (h : m_X0_setSupport su a1 = some (r0, su')) : vx_Met l yX0_setSupport wsX0_setSupport ({ frames := 6, cells := 1, slots := 6, locals := 90 }) (va_Pc [.ref x0, .int a1] (bx_PreT D [(cI, .int), (cJ, .long)] (wX cI cJ x0 x1 x2 x3 x4 x5 x6 x7 x8 x9 g rm op rc ec su pe qt rs rn cs cn lc hc lg hg) sz)) (va_Qi (fun (r : Int32) (_ : Unit) => r0 = Sum.inr r) (fun (_ : Unit) t => bx_Post D [(cI, .int), (cJ, .long)] (wX cI cJ x0 x1 x2 x3 x4 x5 x6 x7 x8 x9 g rm op rc ec su' pe qt rs rn cs cn lc hc lg hg) (va_A (wX cI cJ x0 x1 x2 x3 x4 x5 x6 x7 x8 x9 g rm op rc ec su pe qt rs rn cs cn lc hc lg hg) sz) t) (va_A (wX cI cJ x0 x1 x2 x3 x4 x5 x6 x7 x8 x9 g rm op rc ec su pe qt rs rn cs cn lc hc lg hg) sz)) (vx_X (fun (_ : Unit) => True) (fun E (_ : Unit) t => r0 = Sum.inl E ∧ bx_Post D [(cI, .int), (cJ, .long)] (wX cI cJ x0 x1 x2 x3 x4 x5 x6 x7 x8 x9 g rm op rc ec su' pe qt rs rn cs cn lc hc lg hg) (va_A (wX cI cJ x0 x1 x2 x3 x4 x5 x6 x7 x8 x9 g rm op rc ec su pe qt rs rn cs cn lc hc lg hg) sz) t) (va_A (wX cI cJ x0 x1 x2 x3 x4 x5 x6 x7 x8 x9 g rm op rc ec su pe qt rs rn cs cn lc hc lg hg) sz)) 1 6 (va_A (wX cI cJ x0 x1 x2 x3 x4 x5 x6 x7 x8 x9 g rm op rc ec su pe qt rs rn cs cn lc hc lg hg) sz) := by
  refine vx_ofW (cc := cX0_setSupport) (maxL := 3) (ret := (some .int)) (by decide) rfl ?_
  intro p e s m args below meth c s₁ B hml hnt hv
  obtain ⟨rfl, hsz, hP, hK, hD0, hT⟩ := hv
  have hx := B.exec
  have hb := B.bytes
  have hr := B.returns
  have hts := atoms_spec (ws := wsX0_setSupport) B.pre
  have hown : s.vm.findClass RX0 = some m.cls := findClass_of_methodNamed B.named
  have hlocks := B.notSynchronized
  subst hsz
  have hD := hD0.self (sz := s.heap.size)
  generalize hAe : va_A (wX cI cJ x0 x1 x2 x3 x4 x5 x6 x7 x8 x9 g rm op rc ec su pe qt rs rn cs cn lc hc lg hg) s.heap.size = A at hD hT ⊢
  have hA : ∀ q : Nat, s.heap.size ≤ q → A q := fun q h9 => by rw [← hAe]; exact Or.inr h9
  have hS : va_S A s.heap s.heap [] := va_S.rf
  have hin : ∀ w ∈ wsX00, w ∈ wsX0_setSupport := fun _ h9 => List.mem_cons_of_mem _ (List.mem_append_left _ (List.mem_append_right _ h9))
  have hw_0 := hts (.classLink RX0 87 "java/lang/IllegalArgumentException") (by decide +kernel)
  have hw_1 := hts (.initialized "java/lang/IllegalArgumentException") (by decide +kernel)
  have hw_2 := hts (.fieldLink RX0 26 "RoleMiner" "support" "I") (by decide +kernel)
  have hl := lv_entry ([.ref x0, .int a1]) (n := 3) (Nat.le_of_ble_eq_true rfl)
  rw [lg_entry_eq]
  generalize (lg_sl ([.ref x0, .int a1]) ++ List.replicate (3 - (lg_sl ([.ref x0, .int a1])).length) Slot.unset).toArray = ls at hl ⊢
  have hl : lv_has ls 3 [(0, .ref x0), (1, .int a1)] := hl
  rw [m_X0_setSupport] at h
  refine lv_iload_n hx hb dX0_setSupport_0 rfl (lv_at hl 1 rfl) ?_
  refine lv_iconst (v := 1) hx hb dX0_setSupport_1 (by decide) ?_
  refine lv_icmp_lt (tgt := 11) hx hb dX0_setSupport_2 (by decide) (fun c_1 => ?_) (fun c_1 => ?_)
  · replace h := (if_pos c_1).symm.trans h
    cases h
    obtain ⟨sa, hsa⟩ := hT.2.2.2.2.2.2.2.2.1
    exact vx_throwS (sa := sa) (A := A) (text := "the support is not 1 to 8") (names := ["java/lang/RuntimeException", "java/lang/Exception"]) hx hb hst hown (by decide +kernel) (by decide +kernel) hw_0 hw_1 hsa (xt_hat (Ts := wsX0_setSupport) hts (fun w h9 => List.mem_cons_of_mem _ (List.mem_append_right _ h9)) xo_91 hT.1.2.1 hT.1.2.2.2.1 hT.1.2.2.2.2.1 hT.1.2.2.2.2.2) xg_91 hT.2.1.1 hT.2.1.2 hS (hl.1.trans hml.symm) dX0_setSupport_11 dX0_setSupport_14 dX0_setSupport_15 dX0_setSupport_17 dX0_setSupport_20 (fun x h9 => (hnt x h9).elim) (Nat.le_of_ble_eq_true rfl) (Nat.le_of_ble_eq_true rfl) (Nat.le_of_ble_eq_true rfl) (Nat.le_of_ble_eq_true rfl) hlocks (fun t ht hz hk => ⟨(), trivial, ⟨rfl, hP.kept (fun k9 q9 h9 => hk q9.1 (hP k9 q9 h9).lt), va_K.moved ht hK, hD⟩, Nat.le_trans hS.1 hz, fun q9 g1 g2 => (hk q9 (Nat.lt_of_lt_of_le g1 hS.1)).trans (hS.2.1 q9 g1 g2)⟩) hS.2.2 (Nat.le_refl _) (Nat.le_refl _)
  · replace h := (if_neg c_1).symm.trans h
    refine lv_iload_n hx hb dX0_setSupport_5 rfl (lv_at hl 1 rfl) ?_
    refine lv_bipush (v := 8) hx hb dX0_setSupport_6 (by decide) ?_
    refine lv_icmp_le (tgt := 21) hx hb dX0_setSupport_8 (by decide) (fun c_2 => ?_) (fun c_2 => ?_)
    · replace h := (if_pos c_2).symm.trans h
      refine lv_aload_n hx hb dX0_setSupport_21 rfl (lv_at hl 0 rfl) ?_
      refine va_get (D := D) (ci := 0) (v := .int su) (C := RX0) (T := TX0) (N := 16) hx hb hts hin hown hK hP 0 rfl rfl 5 (by decide) hw_2 (fun _ h9 => h9) rfl dX0_setSupport_22 ?_
      refine lv_istore_n (lv' := [(2, .int su), (0, .ref x0), (1, .int a1)]) hx hb dX0_setSupport_25 rfl hl (by decide) rfl (fun ls hl => ?_)
      refine lv_aload_n hx hb dX0_setSupport_26 rfl (lv_at hl 1 rfl) ?_
      refine lv_iload_n hx hb dX0_setSupport_27 rfl (lv_at hl 2 rfl) ?_
      refine va_put (D := D) (ci := 0) (v := .int a1) (ty := .int) (C := RX0) (T := TX0) (N := 16) hx hb hts hin tyX0 tyX0_ok nmX0 hown hK hP hD hS 0 rfl rfl 5 (by decide) hw_2 (fun _ h9 => h9) rfl (by decide +kernel) rfl rfl (Nat.le_of_ble_eq_true rfl) dX0_setSupport_28 (fun H locs hP hD hS => ?_)
      have hP : va_P D vwCl (wX cI cJ x0 x1 x2 x3 x4 x5 x6 x7 x8 x9 g rm op rc ec a1 pe qt rs rn cs cn lc hc lg hg) H := hP
      have hD : va_D A (wX cI cJ x0 x1 x2 x3 x4 x5 x6 x7 x8 x9 g rm op rc ec a1 pe qt rs rn cs cn lc hc lg hg) := hD
      refine lv_iload_n hx hb dX0_setSupport_31 rfl (lv_at hl 0 rfl) ?_
      cases h
      refine vx_ret ?_
      refine W.widen (k := 1) (n := 6) (Nat.zero_le _) (Nat.zero_le _) ?_
      exact W.iret hx hb hr (fun t ht hW => ⟨⟨_, (), rfl, rfl, by rw [ht]; exact hP, va_K.moved hW.alike hK, hD⟩, hS.F ht⟩) hS.2.2 dX0_setSupport_32
    · replace h := (if_neg c_2).symm.trans h
      cases h
      obtain ⟨sa, hsa⟩ := hT.2.2.2.2.2.2.2.2.1
      exact vx_throwS (sa := sa) (A := A) (text := "the support is not 1 to 8") (names := ["java/lang/RuntimeException", "java/lang/Exception"]) hx hb hst hown (by decide +kernel) (by decide +kernel) hw_0 hw_1 hsa (xt_hat (Ts := wsX0_setSupport) hts (fun w h9 => List.mem_cons_of_mem _ (List.mem_append_right _ h9)) xo_91 hT.1.2.1 hT.1.2.2.2.1 hT.1.2.2.2.2.1 hT.1.2.2.2.2.2) xg_91 hT.2.1.1 hT.2.1.2 hS (hl.1.trans hml.symm) dX0_setSupport_11 dX0_setSupport_14 dX0_setSupport_15 dX0_setSupport_17 dX0_setSupport_20 (fun x h9 => (hnt x h9).elim) (Nat.le_of_ble_eq_true rfl) (Nat.le_of_ble_eq_true rfl) (Nat.le_of_ble_eq_true rfl) (Nat.le_of_ble_eq_true rfl) hlocks (fun t ht hz hk => ⟨(), trivial, ⟨rfl, hP.kept (fun k9 q9 h9 => hk q9.1 (hP k9 q9 h9).lt), va_K.moved ht hK, hD⟩, Nat.le_trans hS.1 hz, fun q9 g1 g2 => (hk q9 (Nat.lt_of_lt_of_le g1 hS.1)).trans (hS.2.1 q9 g1 g2)⟩) hS.2.2 (Nat.le_refl _) (Nat.le_refl _)
-- X0_setPeriod
def m_X0_setPeriod (pe : Int32) (a1 : Int32) : Option ((String ⊕ Int32) × ((Int32))) := (if a1 < 1 then some (.inl "java/lang/IllegalArgumentException", pe) else (if a1 ≤ 8 then some (.inr pe, a1) else some (.inl "java/lang/IllegalArgumentException", pe)))
set_option maxHeartbeats 4000000 in
set_option maxRecDepth 100000 in
theorem c_X0_setPeriod (l : Launch) (hst : l.stackTraces = false) (D : va_G) (cI cJ : ClassId) (x0 x1 x2 x3 x4 x5 x6 x7 x8 x9 : Nat) (sz : Nat) (g : Nat → Int32) (rm : Nat → Int32) (op : Nat → Int32) (rc : Int32) (ec : Int32) (su : Int32) (pe : Int32) (qt : Int32) (rs : Nat → Int32) (rn : Int32) (cs : Nat → Int32) (cn : Int32) (lc : Nat → Int64) (hc : Nat → Int64) (lg : Nat → Int64) (hg : Nat → Int64) (a1 : Int32) (r0 : String ⊕ Int32) (pe' : Int32) (h : m_X0_setPeriod pe a1 = some (r0, pe')) : vx_Met l yX0_setPeriod wsX0_setPeriod ({ frames := 6, cells := 1, slots := 6, locals := 90 }) (va_Pc [.ref x0, .int a1] (bx_PreT D [(cI, .int), (cJ, .long)] (wX cI cJ x0 x1 x2 x3 x4 x5 x6 x7 x8 x9 g rm op rc ec su pe qt rs rn cs cn lc hc lg hg) sz)) (va_Qi (fun (r : Int32) (_ : Unit) => r0 = Sum.inr r) (fun (_ : Unit) t => bx_Post D [(cI, .int), (cJ, .long)] (wX cI cJ x0 x1 x2 x3 x4 x5 x6 x7 x8 x9 g rm op rc ec su pe' qt rs rn cs cn lc hc lg hg) (va_A (wX cI cJ x0 x1 x2 x3 x4 x5 x6 x7 x8 x9 g rm op rc ec su pe qt rs rn cs cn lc hc lg hg) sz) t) (va_A (wX cI cJ x0 x1 x2 x3 x4 x5 x6 x7 x8 x9 g rm op rc ec su pe qt rs rn cs cn lc hc lg hg) sz)) (vx_X (fun (_ : Unit) => True) (fun E (_ : Unit) t => r0 = Sum.inl E ∧ bx_Post D [(cI, .int), (cJ, .long)] (wX cI cJ x0 x1 x2 x3 x4 x5 x6 x7 x8 x9 g rm op rc ec su pe' qt rs rn cs cn lc hc lg hg) (va_A (wX cI cJ x0 x1 x2 x3 x4 x5 x6 x7 x8 x9 g rm op rc ec su pe qt rs rn cs cn lc hc lg hg) sz) t) (va_A (wX cI cJ x0 x1 x2 x3 x4 x5 x6 x7 x8 x9 g rm op rc ec su pe qt rs rn cs cn lc hc lg hg) sz)) 1 6 (va_A (wX cI cJ x0 x1 x2 x3 x4 x5 x6 x7 x8 x9 g rm op rc ec su pe qt rs rn cs cn lc hc lg hg) sz) := by
  refine vx_ofW (cc := cX0_setPeriod) (maxL := 3) (ret := (some .int)) (by decide) rfl ?_
  intro p e s m args below meth c s₁ B hml hnt hv
  obtain ⟨rfl, hsz, hP, hK, hD0, hT⟩ := hv
  have hx := B.exec
  have hb := B.bytes
  have hr := B.returns
  have hts := atoms_spec (ws := wsX0_setPeriod) B.pre
  have hown : s.vm.findClass RX0 = some m.cls := findClass_of_methodNamed B.named
  have hlocks := B.notSynchronized
  subst hsz
  have hD := hD0.self (sz := s.heap.size)
  generalize hAe : va_A (wX cI cJ x0 x1 x2 x3 x4 x5 x6 x7 x8 x9 g rm op rc ec su pe qt rs rn cs cn lc hc lg hg) s.heap.size = A at hD hT ⊢
  have hA : ∀ q : Nat, s.heap.size ≤ q → A q := fun q h9 => by rw [← hAe]; exact Or.inr h9
  have hS : va_S A s.heap s.heap [] := va_S.rf
  have hin : ∀ w ∈ wsX00, w ∈ wsX0_setPeriod := fun _ h9 => List.mem_cons_of_mem _ (List.mem_append_left _ (List.mem_append_right _ h9))
  have hw_0 := hts (.classLink RX0 87 "java/lang/IllegalArgumentException") (by decide +kernel)
  have hw_1 := hts (.initialized "java/lang/IllegalArgumentException") (by decide +kernel)
  have hw_2 := hts (.fieldLink RX0 29 "RoleMiner" "period" "I") (by decide +kernel)
  have hl := lv_entry ([.ref x0, .int a1]) (n := 3) (Nat.le_of_ble_eq_true rfl)
  rw [lg_entry_eq]
  generalize (lg_sl ([.ref x0, .int a1]) ++ List.replicate (3 - (lg_sl ([.ref x0, .int a1])).length) Slot.unset).toArray = ls at hl ⊢
  have hl : lv_has ls 3 [(0, .ref x0), (1, .int a1)] := hl
  rw [m_X0_setPeriod] at h
  refine lv_iload_n hx hb dX0_setPeriod_0 rfl (lv_at hl 1 rfl) ?_
  refine lv_iconst (v := 1) hx hb dX0_setPeriod_1 (by decide) ?_
  refine lv_icmp_lt (tgt := 11) hx hb dX0_setPeriod_2 (by decide) (fun c_1 => ?_) (fun c_1 => ?_)
  · replace h := (if_pos c_1).symm.trans h
    cases h
    obtain ⟨sa, hsa⟩ := hT.2.2.2.2.2.2.2.2.2.1
    exact vx_throwS (sa := sa) (A := A) (text := "the period is not 1 to 8") (names := ["java/lang/RuntimeException", "java/lang/Exception"]) hx hb hst hown (by decide +kernel) (by decide +kernel) hw_0 hw_1 hsa (xt_hat (Ts := wsX0_setPeriod) hts (fun w h9 => List.mem_cons_of_mem _ (List.mem_append_right _ h9)) xo_91 hT.1.2.1 hT.1.2.2.2.1 hT.1.2.2.2.2.1 hT.1.2.2.2.2.2) xg_91 hT.2.1.1 hT.2.1.2 hS (hl.1.trans hml.symm) dX0_setPeriod_11 dX0_setPeriod_14 dX0_setPeriod_15 dX0_setPeriod_17 dX0_setPeriod_20 (fun x h9 => (hnt x h9).elim) (Nat.le_of_ble_eq_true rfl) (Nat.le_of_ble_eq_true rfl) (Nat.le_of_ble_eq_true rfl) (Nat.le_of_ble_eq_true rfl) hlocks (fun t ht hz hk => ⟨(), trivial, ⟨rfl, hP.kept (fun k9 q9 h9 => hk q9.1 (hP k9 q9 h9).lt), va_K.moved ht hK, hD⟩, Nat.le_trans hS.1 hz, fun q9 g1 g2 => (hk q9 (Nat.lt_of_lt_of_le g1 hS.1)).trans (hS.2.1 q9 g1 g2)⟩) hS.2.2 (Nat.le_refl _) (Nat.le_refl _)
  · replace h := (if_neg c_1).symm.trans h
    refine lv_iload_n hx hb dX0_setPeriod_5 rfl (lv_at hl 1 rfl) ?_
    refine lv_bipush (v := 8) hx hb dX0_setPeriod_6 (by decide) ?_
    refine lv_icmp_le (tgt := 21) hx hb dX0_setPeriod_8 (by decide) (fun c_2 => ?_) (fun c_2 => ?_)
    · replace h := (if_pos c_2).symm.trans h
      refine lv_aload_n hx hb dX0_setPeriod_21 rfl (lv_at hl 0 rfl) ?_
      refine va_get (D := D) (ci := 0) (v := .int pe) (C := RX0) (T := TX0) (N := 16) hx hb hts hin hown hK hP 0 rfl rfl 6 (by decide) hw_2 (fun _ h9 => h9) rfl dX0_setPeriod_22 ?_
      refine lv_istore_n (lv' := [(2, .int pe), (0, .ref x0), (1, .int a1)]) hx hb dX0_setPeriod_25 rfl hl (by decide) rfl (fun ls hl => ?_)
      refine lv_aload_n hx hb dX0_setPeriod_26 rfl (lv_at hl 1 rfl) ?_
      refine lv_iload_n hx hb dX0_setPeriod_27 rfl (lv_at hl 2 rfl) ?_
      refine va_put (D := D) (ci := 0) (v := .int a1) (ty := .int) (C := RX0) (T := TX0) (N := 16) hx hb hts hin tyX0 tyX0_ok nmX0 hown hK hP hD hS 0 rfl rfl 6 (by decide) hw_2 (fun _ h9 => h9) rfl (by decide +kernel) rfl rfl (Nat.le_of_ble_eq_true rfl) dX0_setPeriod_28 (fun H locs hP hD hS => ?_)
      have hP : va_P D vwCl (wX cI cJ x0 x1 x2 x3 x4 x5 x6 x7 x8 x9 g rm op rc ec su a1 qt rs rn cs cn lc hc lg hg) H := hP
      have hD : va_D A (wX cI cJ x0 x1 x2 x3 x4 x5 x6 x7 x8 x9 g rm op rc ec su a1 qt rs rn cs cn lc hc lg hg) := hD
      refine lv_iload_n hx hb dX0_setPeriod_31 rfl (lv_at hl 0 rfl) ?_
      cases h
      refine vx_ret ?_
      refine W.widen (k := 1) (n := 6) (Nat.zero_le _) (Nat.zero_le _) ?_
      exact W.iret hx hb hr (fun t ht hW => ⟨⟨_, (), rfl, rfl, by rw [ht]; exact hP, va_K.moved hW.alike hK, hD⟩, hS.F ht⟩) hS.2.2 dX0_setPeriod_32
    · replace h := (if_neg c_2).symm.trans h
      cases h
      obtain ⟨sa, hsa⟩ := hT.2.2.2.2.2.2.2.2.2.1
      exact vx_throwS (sa := sa) (A := A) (text := "the period is not 1 to 8") (names := ["java/lang/RuntimeException", "java/lang/Exception"]) hx hb hst hown (by decide +kernel) (by decide +kernel) hw_0 hw_1 hsa (xt_hat (Ts := wsX0_setPeriod) hts (fun w h9 => List.mem_cons_of_mem _ (List.mem_append_right _ h9)) xo_91 hT.1.2.1 hT.1.2.2.2.1 hT.1.2.2.2.2.1 hT.1.2.2.2.2.2) xg_91 hT.2.1.1 hT.2.1.2 hS (hl.1.trans hml.symm) dX0_setPeriod_11 dX0_setPeriod_14 dX0_setPeriod_15 dX0_setPeriod_17 dX0_setPeriod_20 (fun x h9 => (hnt x h9).elim) (Nat.le_of_ble_eq_true rfl) (Nat.le_of_ble_eq_true rfl) (Nat.le_of_ble_eq_true rfl) (Nat.le_of_ble_eq_true rfl) hlocks (fun t ht hz hk => ⟨(), trivial, ⟨rfl, hP.kept (fun k9 q9 h9 => hk q9.1 (hP k9 q9 h9).lt), va_K.moved ht hK, hD⟩, Nat.le_trans hS.1 hz, fun q9 g1 g2 => (hk q9 (Nat.lt_of_lt_of_le g1 hS.1)).trans (hS.2.1 q9 g1 g2)⟩) hS.2.2 (Nat.le_refl _) (Nat.le_refl _)
-- X0_review
def m_X0_review (g : Nat → Int32) (rm : Nat → Int32) (qt : Int32) (a1 : Int32) (a2 : Int32) : Option ((String ⊕ Int32) × ((Nat → Int32))) := (if (m_X0_isUser a1) = 0 then some (.inl "java/lang/IndexOutOfBoundsException", rm) else (if (m_X0_isPermission a2) = 0 then some (.inl "java/lang/IndexOutOfBoundsException", rm) else (ix a1 8 (if (m_X0_has (g (Int32.toNatClampNeg a1)) a2) = 0 then some (.inl "java/lang/IllegalStateException", rm) else (ix (m_X0_grantIndex a1 a2) 96 (some (.inr (qt - (rm (Int32.toNatClampNeg (m_X0_grantIndex a1 a2)))), (upd rm (Int32.toNatClampNeg (m_X0_grantIndex a1 a2)) qt))))))))
set_option maxHeartbeats 4000000 in
set_option maxRecDepth 100000 in
theorem c_X0_review (l : Launch) (hst : l.stackTraces = false) (D : va_G) (cI cJ : ClassId) (x0 x1 x2 x3 x4 x5 x6 x7 x8 x9 : Nat) (sz : Nat) (g : Nat → Int32) (rm : Nat → Int32) (op : Nat → Int32) (rc : Int32) (ec : Int32) (su : Int32) (pe : Int32) (qt : Int32) (rs : Nat → Int32) (rn : Int32) (cs : Nat → Int32) (cn : Int32) (lc : Nat → Int64) (hc : Nat → Int64) (lg : Nat → Int64) (hg : Nat → Int64) (a1 : Int32) (a2 : Int32) (r0 : String ⊕ Int32) (rm' : Nat → Int32) (h : m_X0_review g rm qt a1 a2 = some (r0, rm')) : vx_Met l yX0_review wsX0_review ({ frames := 6, cells := 1, slots := 6, locals := 90 }) (va_Pc [.ref x0, .int a1, .int a2] (bx_PreT D [(cI, .int), (cJ, .long)] (wX cI cJ x0 x1 x2 x3 x4 x5 x6 x7 x8 x9 g rm op rc ec su pe qt rs rn cs cn lc hc lg hg) sz)) (va_Qi (fun (r : Int32) (_ : Unit) => r0 = Sum.inr r) (fun (_ : Unit) t => bx_Post D [(cI, .int), (cJ, .long)] (wX cI cJ x0 x1 x2 x3 x4 x5 x6 x7 x8 x9 g rm' op rc ec su pe qt rs rn cs cn lc hc lg hg) (va_A (wX cI cJ x0 x1 x2 x3 x4 x5 x6 x7 x8 x9 g rm op rc ec su pe qt rs rn cs cn lc hc lg hg) sz) t) (va_A (wX cI cJ x0 x1 x2 x3 x4 x5 x6 x7 x8 x9 g rm op rc ec su pe qt rs rn cs cn lc hc lg hg) sz)) (vx_X (fun (_ : Unit) => True) (fun E (_ : Unit) t => r0 = Sum.inl E ∧ bx_Post D [(cI, .int), (cJ, .long)] (wX cI cJ x0 x1 x2 x3 x4 x5 x6 x7 x8 x9 g rm' op rc ec su pe qt rs rn cs cn lc hc lg hg) (va_A (wX cI cJ x0 x1 x2 x3 x4 x5 x6 x7 x8 x9 g rm op rc ec su pe qt rs rn cs cn lc hc lg hg) sz) t) (va_A (wX cI cJ x0 x1 x2 x3 x4 x5 x6 x7 x8 x9 g rm op rc ec su pe qt rs rn cs cn lc hc lg hg) sz)) 1 6 (va_A (wX cI cJ x0 x1 x2 x3 x4 x5 x6 x7 x8 x9 g rm op rc ec su pe qt rs rn cs cn lc hc lg hg) sz) := by
  refine vx_ofW (cc := cX0_review) (maxL := 5) (ret := (some .int)) (by decide) rfl ?_
  intro p e s m args below meth c s₁ B hml hnt hv
  obtain ⟨rfl, hsz, hP, hK, hD0, hT⟩ := hv
  have hx := B.exec
  have hb := B.bytes
  have hr := B.returns
  have hts := atoms_spec (ws := wsX0_review) B.pre
  have hown : s.vm.findClass RX0 = some m.cls := findClass_of_methodNamed B.named
  have hlocks := B.notSynchronized
  subst hsz
  have hD := hD0.self (sz := s.heap.size)
  generalize hAe : va_A (wX cI cJ x0 x1 x2 x3 x4 x5 x6 x7 x8 x9 g rm op rc ec su pe qt rs rn cs cn lc hc lg hg) s.heap.size = A at hD hT ⊢
  have hA : ∀ q : Nat, s.heap.size ≤ q → A q := fun q h9 => by rw [← hAe]; exact Or.inr h9
  have hS : va_S A s.heap s.heap [] := va_S.rf
  have hin : ∀ w ∈ wsX00, w ∈ wsX0_review := fun _ h9 => List.mem_cons_of_mem _ (List.mem_append_left _ (List.mem_append_left _ (List.mem_append_right _ h9)))
  have hw_0 := hts (.classLink RX0 67 "java/lang/IndexOutOfBoundsException") (by decide +kernel)
  have hw_1 := hts (.initialized "java/lang/IndexOutOfBoundsException") (by decide +kernel)
  have hw_2 := hts (.fieldLink RX0 9 "RoleMiner" "granted" "[I") (by decide +kernel)
  have hw_3 := hts (.fieldLink RX0 32 "RoleMiner" "quarter" "I") (by decide +kernel)
  have hw_4 := hts (.fieldLink RX0 13 "RoleMiner" "remembered" "[I") (by decide +kernel)
  have hw_5 := hts (.classLink RX0 111 "java/lang/IllegalStateException") (by decide +kernel)
  have hw_6 := hts (.initialized "java/lang/IllegalStateException") (by decide +kernel)
  have hl := lv_entry ([.ref x0, .int a1, .int a2]) (n := 5) (Nat.le_of_ble_eq_true rfl)
  rw [lg_entry_eq]
  generalize (lg_sl ([.ref x0, .int a1, .int a2]) ++ List.replicate (5 - (lg_sl ([.ref x0, .int a1, .int a2])).length) Slot.unset).toArray = ls at hl ⊢
  have hl : lv_has ls 5 [(0, .ref x0), (1, .int a1), (2, .int a2)] := hl
  rw [m_X0_review] at h
  refine lv_iload_n hx hb dX0_review_0 rfl (lv_at hl 1 rfl) ?_
  refine cl_Si0 (As := [.int a1]) (rest := []) ⟨hx, hb, hml, hown, hts⟩ (c_X0_isUser l D _ a1) (va_cwS 1 hts gX0_review_X0_isUser rfl rfl rfl (by decide +kernel) ⟨Nat.le_of_ble_eq_true rfl, Nat.le_of_ble_eq_true rfl⟩) hK hP hD hS hA rfl rfl hl.1 rfl (lv_room (Nat.le_of_ble_eq_true rfl)) dX0_review_1 (fun H locs hP hD hS => ?_)
  refine lv_if_eq (tgt := 14) hx hb dX0_review_4 (by decide) (fun c_1 => ?_) (fun c_1 => ?_)
  · replace h := (if_pos c_1).symm.trans h
    cases h
    obtain ⟨sa, hsa⟩ := hT.2.2.1
    exact vx_throwS (sa := sa) (A := A) (text := "no such user or permission") (names := ["java/lang/RuntimeException", "java/lang/Exception"]) hx hb hst hown (by decide +kernel) (by decide +kernel) hw_0 hw_1 hsa (xt_hat (Ts := wsX0_review) hts (fun w h9 => List.mem_cons_of_mem _ (List.mem_append_left _ (List.mem_append_right _ h9))) xo_71 hT.1.1 hT.1.2.2.2.1 hT.1.2.2.2.2.1 hT.1.2.2.2.2.2) xg_71 hT.2.1.1 hT.2.1.2 hS (hl.1.trans hml.symm) dX0_review_14 dX0_review_17 dX0_review_18 dX0_review_20 dX0_review_23 (fun x h9 => (hnt x h9).elim) (Nat.le_of_ble_eq_true rfl) (Nat.le_of_ble_eq_true rfl) (Nat.le_of_ble_eq_true rfl) (Nat.le_of_ble_eq_true rfl) hlocks (fun t ht hz hk => ⟨(), trivial, ⟨rfl, hP.kept (fun k9 q9 h9 => hk q9.1 (hP k9 q9 h9).lt), va_K.moved ht hK, hD⟩, Nat.le_trans hS.1 hz, fun q9 g1 g2 => (hk q9 (Nat.lt_of_lt_of_le g1 hS.1)).trans (hS.2.1 q9 g1 g2)⟩) hS.2.2 (Nat.le_refl _) (Nat.le_refl _)
  · replace h := (if_neg c_1).symm.trans h
    refine lv_iload_n hx hb dX0_review_7 rfl (lv_at hl 2 rfl) ?_
    refine cl_Si0 (As := [.int a2]) (rest := []) ⟨hx, hb, hml, hown, hts⟩ (c_X0_isPermission l D _ a2) (va_cwS 1 hts gX0_review_X0_isPermission rfl rfl rfl (by decide +kernel) ⟨Nat.le_of_ble_eq_true rfl, Nat.le_of_ble_eq_true rfl⟩) hK hP hD hS hA rfl rfl hl.1 rfl (lv_room (Nat.le_of_ble_eq_true rfl)) dX0_review_8 (fun H locs hP hD hS => ?_)
    refine lv_if_ne (tgt := 24) hx hb dX0_review_11 (by decide) (fun c_2 => ?_) (fun c_2 => ?_)
    · replace h := (if_neg c_2).symm.trans h
      refine lv_aload_n hx hb dX0_review_24 rfl (lv_at hl 0 rfl) ?_
      refine va_get (D := D) (ci := 0) (v := .ref x1) (C := RX0) (T := TX0) (N := 16) hx hb hts hin hown hK hP 0 rfl rfl 0 (by decide) hw_2 (fun _ h9 => h9) rfl dX0_review_25 ?_
      refine lv_iload_n hx hb dX0_review_28 rfl (lv_at hl 1 rfl) ?_
      obtain ⟨h_3, h⟩ := ix_some h
      refine va_iald hx hb hK hP 1 0 rfl rfl h_3 dX0_review_29 ?_
      refine lv_iload_n hx hb dX0_review_30 rfl (lv_at hl 2 rfl) ?_
      refine cl_Si0 (As := [.int (g (Int32.toNatClampNeg a1)), .int a2]) (rest := []) ⟨hx, hb, hml, hown, hts⟩ (c_X0_has l D _ (g (Int32.toNatClampNeg a1)) a2) (va_cwS 2 hts gX0_review_X0_has rfl rfl rfl (by decide +kernel) ⟨Nat.le_of_ble_eq_true rfl, Nat.le_of_ble_eq_true rfl⟩) hK hP hD hS hA rfl rfl hl.1 rfl (lv_room (Nat.le_of_ble_eq_true rfl)) dX0_review_31 (fun H locs hP hD hS => ?_)
      refine lv_if_ne (tgt := 47) hx hb dX0_review_34 (by decide) (fun c_4 => ?_) (fun c_4 => ?_)
      · replace h := (if_neg c_4).symm.trans h
        refine lv_iload_n hx hb dX0_review_47 rfl (lv_at hl 1 rfl) ?_
        refine lv_iload_n hx hb dX0_review_48 rfl (lv_at hl 2 rfl) ?_
        refine cl_Si0 (As := [.int a1, .int a2]) (rest := []) ⟨hx, hb, hml, hown, hts⟩ (c_X0_grantIndex l D _ a1 a2) (va_cwS 2 hts gX0_review_X0_grantIndex rfl rfl rfl (by decide +kernel) ⟨Nat.le_of_ble_eq_true rfl, Nat.le_of_ble_eq_true rfl⟩) hK hP hD hS hA rfl rfl hl.1 rfl (lv_room (Nat.le_of_ble_eq_true rfl)) dX0_review_49 (fun H locs hP hD hS => ?_)
        refine lv_istore_n (lv' := [(3, .int (m_X0_grantIndex a1 a2)), (0, .ref x0), (1, .int a1), (2, .int a2)]) hx hb dX0_review_52 rfl hl (by decide) rfl (fun ls hl => ?_)
        refine lv_aload_n hx hb dX0_review_53 rfl (lv_at hl 1 rfl) ?_
        refine va_get (D := D) (ci := 0) (v := .int qt) (C := RX0) (T := TX0) (N := 16) hx hb hts hin hown hK hP 0 rfl rfl 7 (by decide) hw_3 (fun _ h9 => h9) rfl dX0_review_54 ?_
        refine lv_aload_n hx hb dX0_review_57 rfl (lv_at hl 1 rfl) ?_
        refine va_get (D := D) (ci := 0) (v := .ref x2) (C := RX0) (T := TX0) (N := 16) hx hb hts hin hown hK hP 0 rfl rfl 1 (by decide) hw_4 (fun _ h9 => h9) rfl dX0_review_58 ?_
        refine lv_iload_n hx hb dX0_review_61 rfl (lv_at hl 0 rfl) ?_
        obtain ⟨h_5, h⟩ := ix_some h
        refine va_iald hx hb hK hP 2 0 rfl rfl h_5 dX0_review_62 ?_
        refine lv_isub hx hb dX0_review_63 ?_
        refine lv_istore (lv' := [(4, .int (qt - (rm (Int32.toNatClampNeg (m_X0_grantIndex a1 a2))))), (3, .int (m_X0_grantIndex a1 a2)), (0, .ref x0), (1, .int a1), (2, .int a2)]) hx hb dX0_review_64 hl (by decide) rfl (fun ls hl => ?_)
        refine lv_aload_n hx hb dX0_review_66 rfl (lv_at hl 2 rfl) ?_
        refine va_get (D := D) (ci := 0) (v := .ref x2) (C := RX0) (T := TX0) (N := 16) hx hb hts hin hown hK hP 0 rfl rfl 1 (by decide) hw_4 (fun _ h9 => h9) rfl dX0_review_67 ?_
        refine lv_iload_n hx hb dX0_review_70 rfl (lv_at hl 1 rfl) ?_
        refine lv_aload_n hx hb dX0_review_71 rfl (lv_at hl 2 rfl) ?_
        refine va_get (D := D) (ci := 0) (v := .int qt) (C := RX0) (T := TX0) (N := 16) hx hb hts hin hown hK hP 0 rfl rfl 7 (by decide) hw_3 (fun _ h9 => h9) rfl dX0_review_72 ?_
        refine va_iast hx hb hK hP hD hS 2 0 rfl rfl h_5 dX0_review_75 (fun H locs hP hD hS => ?_)
        have hP : va_P D vwCl (wX cI cJ x0 x1 x2 x3 x4 x5 x6 x7 x8 x9 g (upd rm (Int32.toNatClampNeg (m_X0_grantIndex a1 a2)) qt) op rc ec su pe qt rs rn cs cn lc hc lg hg) H := hP
        have hD : va_D A (wX cI cJ x0 x1 x2 x3 x4 x5 x6 x7 x8 x9 g (upd rm (Int32.toNatClampNeg (m_X0_grantIndex a1 a2)) qt) op rc ec su pe qt rs rn cs cn lc hc lg hg) := hD
        refine lv_iload hx hb dX0_review_76 (lv_at hl 0 rfl) ?_
        cases h
        refine vx_ret ?_
        refine W.widen (k := 1) (n := 6) (Nat.zero_le _) (Nat.zero_le _) ?_
        exact W.iret hx hb hr (fun t ht hW => ⟨⟨_, (), rfl, rfl, by rw [ht]; exact hP, va_K.moved hW.alike hK, hD⟩, hS.F ht⟩) hS.2.2 dX0_review_78
      · replace h := (if_pos c_4).symm.trans h
        cases h
        obtain ⟨sa, hsa⟩ := hT.2.2.2.2.2.2.2.2.2.2.1
        exact vx_throwS (sa := sa) (A := A) (text := "the permission is not granted") (names := ["java/lang/RuntimeException", "java/lang/Exception"]) hx hb hst hown (by decide +kernel) (by decide +kernel) hw_5 hw_6 hsa (xt_hat (Ts := wsX0_review) hts (fun w h9 => List.mem_cons_of_mem _ (List.mem_append_right _ h9)) xo_115 hT.1.2.2.1 hT.1.2.2.2.1 hT.1.2.2.2.2.1 hT.1.2.2.2.2.2) xg_115 hT.2.1.1 hT.2.1.2 hS (hl.1.trans hml.symm) dX0_review_37 dX0_review_40 dX0_review_41 dX0_review_43 dX0_review_46 (fun x h9 => (hnt x h9).elim) (Nat.le_of_ble_eq_true rfl) (Nat.le_of_ble_eq_true rfl) (Nat.le_of_ble_eq_true rfl) (Nat.le_of_ble_eq_true rfl) hlocks (fun t ht hz hk => ⟨(), trivial, ⟨rfl, hP.kept (fun k9 q9 h9 => hk q9.1 (hP k9 q9 h9).lt), va_K.moved ht hK, hD⟩, Nat.le_trans hS.1 hz, fun q9 g1 g2 => (hk q9 (Nat.lt_of_lt_of_le g1 hS.1)).trans (hS.2.1 q9 g1 g2)⟩) hS.2.2 (Nat.le_refl _) (Nat.le_refl _)
    · replace h := (if_pos c_2).symm.trans h
      cases h
      obtain ⟨sa, hsa⟩ := hT.2.2.1
      exact vx_throwS (sa := sa) (A := A) (text := "no such user or permission") (names := ["java/lang/RuntimeException", "java/lang/Exception"]) hx hb hst hown (by decide +kernel) (by decide +kernel) hw_0 hw_1 hsa (xt_hat (Ts := wsX0_review) hts (fun w h9 => List.mem_cons_of_mem _ (List.mem_append_left _ (List.mem_append_right _ h9))) xo_71 hT.1.1 hT.1.2.2.2.1 hT.1.2.2.2.2.1 hT.1.2.2.2.2.2) xg_71 hT.2.1.1 hT.2.1.2 hS (hl.1.trans hml.symm) dX0_review_14 dX0_review_17 dX0_review_18 dX0_review_20 dX0_review_23 (fun x h9 => (hnt x h9).elim) (Nat.le_of_ble_eq_true rfl) (Nat.le_of_ble_eq_true rfl) (Nat.le_of_ble_eq_true rfl) (Nat.le_of_ble_eq_true rfl) hlocks (fun t ht hz hk => ⟨(), trivial, ⟨rfl, hP.kept (fun k9 q9 h9 => hk q9.1 (hP k9 q9 h9).lt), va_K.moved ht hK, hD⟩, Nat.le_trans hS.1 hz, fun q9 g1 g2 => (hk q9 (Nat.lt_of_lt_of_le g1 hS.1)).trans (hS.2.1 q9 g1 g2)⟩) hS.2.2 (Nat.le_refl _) (Nat.le_refl _)
-- X0_nextQuarter
def m_X0_nextQuarter_33 (fu : Nat) (rm : Nat → Int32) (pe : Int32) : Nat → Int32 → Int32 → (Nat → Int32) → (Int32) → Option ((String ⊕ Int32) × ((Nat → Int32)) × ((Int32)))
  | 0, _, _, _, _ => none
  | n + 1, v1, v2, g, qt => (if 8 ≤ v2 then some (.inr v1, g, qt) else (bnd1 (m_X0_lapsingIn fu g rm pe qt v2) (fun r_3 => (ix v2 8 (m_X0_nextQuarter_33 fu rm pe n (v1 + (m_J6_bitCount_0f7a4 r_3)) (v2 + 1) (upd g (Int32.toNatClampNeg v2) ((g (Int32.toNatClampNeg v2)) &&& (r_3 ^^^ (-1)))) qt)))))
def m_X0_nextQuarter (fu : Nat) (g : Nat → Int32) (rm : Nat → Int32) (pe : Int32) (qt : Int32) : Option ((String ⊕ Int32) × ((Nat → Int32)) × ((Int32))) := (if qt < 100 then (m_X0_nextQuarter_33 fu rm pe fu 0 0 g (qt + 1)) else some (.inl "java/lang/IllegalStateException", g, qt))
set_option maxHeartbeats 4000000 in
set_option maxRecDepth 100000 in
theorem c_X0_nextQuarter (l : Launch) (hst : l.stackTraces = false) (D : va_G) (cI cJ : ClassId) (x0 x1 x2 x3 x4 x5 x6 x7 x8 x9 : Nat) (sz : Nat) (g : Nat → Int32) (rm : Nat → Int32) (op : Nat → Int32) (rc : Int32) (ec : Int32) (su : Int32) (pe : Int32) (qt : Int32) (rs : Nat → Int32) (rn : Int32) (cs : Nat → Int32) (cn : Int32) (lc : Nat → Int64) (hc : Nat → Int64) (lg : Nat → Int64) (hg : Nat → Int64) (fu : Nat) (r0 : String ⊕ Int32) (g' : Nat → Int32) (qt' : Int32) (h : m_X0_nextQuarter fu g rm pe qt = some (r0, g', qt')) : vx_Met l yX0_nextQuarter wsX0_nextQuarter ({ frames := 6, cells := 1, slots := 6, locals := 90 }) (va_Pc [.ref x0] (bx_PreT D [(cI, .int), (cJ, .long)] (wX cI cJ x0 x1 x2 x3 x4 x5 x6 x7 x8 x9 g rm op rc ec su pe qt rs rn cs cn lc hc lg hg) sz)) (va_Qi (fun (r : Int32) (_ : Unit) => r0 = Sum.inr r) (fun (_ : Unit) t => bx_Post D [(cI, .int), (cJ, .long)] (wX cI cJ x0 x1 x2 x3 x4 x5 x6 x7 x8 x9 g' rm op rc ec su pe qt' rs rn cs cn lc hc lg hg) (va_A (wX cI cJ x0 x1 x2 x3 x4 x5 x6 x7 x8 x9 g rm op rc ec su pe qt rs rn cs cn lc hc lg hg) sz) t) (va_A (wX cI cJ x0 x1 x2 x3 x4 x5 x6 x7 x8 x9 g rm op rc ec su pe qt rs rn cs cn lc hc lg hg) sz)) (vx_X (fun (_ : Unit) => True) (fun E (_ : Unit) t => r0 = Sum.inl E ∧ bx_Post D [(cI, .int), (cJ, .long)] (wX cI cJ x0 x1 x2 x3 x4 x5 x6 x7 x8 x9 g' rm op rc ec su pe qt' rs rn cs cn lc hc lg hg) (va_A (wX cI cJ x0 x1 x2 x3 x4 x5 x6 x7 x8 x9 g rm op rc ec su pe qt rs rn cs cn lc hc lg hg) sz) t) (va_A (wX cI cJ x0 x1 x2 x3 x4 x5 x6 x7 x8 x9 g rm op rc ec su pe qt rs rn cs cn lc hc lg hg) sz)) 1 6 (va_A (wX cI cJ x0 x1 x2 x3 x4 x5 x6 x7 x8 x9 g rm op rc ec su pe qt rs rn cs cn lc hc lg hg) sz) := by
  refine vx_ofW (cc := cX0_nextQuarter) (maxL := 4) (ret := (some .int)) (by decide) rfl ?_
  intro p e s m args below meth c s₁ B hml hnt hv
  obtain ⟨rfl, hsz, hP, hK, hD0, hT⟩ := hv
  have hx := B.exec
  have hb := B.bytes
  have hr := B.returns
  have hts := atoms_spec (ws := wsX0_nextQuarter) B.pre
  have hown : s.vm.findClass RX0 = some m.cls := findClass_of_methodNamed B.named
  have hlocks := B.notSynchronized
  subst hsz
  have hD := hD0.self (sz := s.heap.size)
  generalize hAe : va_A (wX cI cJ x0 x1 x2 x3 x4 x5 x6 x7 x8 x9 g rm op rc ec su pe qt rs rn cs cn lc hc lg hg) s.heap.size = A at hD hT ⊢
  have hA : ∀ q : Nat, s.heap.size ≤ q → A q := fun q h9 => by rw [← hAe]; exact Or.inr h9
  have hS : va_S A s.heap s.heap [] := va_S.rf
  have hin : ∀ w ∈ wsX00, w ∈ wsX0_nextQuarter := fun _ h9 => List.mem_cons_of_mem _ (List.mem_append_left _ (List.mem_append_right _ h9))
  have hw_0 := hts (.fieldLink RX0 32 "RoleMiner" "quarter" "I") (by decide +kernel)
  have hw_1 := hts (.classLink RX0 111 "java/lang/IllegalStateException") (by decide +kernel)
  have hw_2 := hts (.initialized "java/lang/IllegalStateException") (by decide +kernel)
  have hw_3 := hts (.fieldLink RX0 9 "RoleMiner" "granted" "[I") (by decide +kernel)
  have hl := lv_entry ([.ref x0]) (n := 4) (Nat.le_of_ble_eq_true rfl)
  rw [lg_entry_eq]
  generalize (lg_sl ([.ref x0]) ++ List.replicate (4 - (lg_sl ([.ref x0])).length) Slot.unset).toArray = ls at hl ⊢
  have hl : lv_has ls 4 [(0, .ref x0)] := hl
  have L33 : ∀ (n : Nat) (v1 : Int32) (v2 : Int32) (g : Nat → Int32) (qt : Int32) (H : Heap) (locs : List Loc) (ls : Array Slot), m_X0_nextQuarter_33 fu rm pe n v1 v2 g qt = some (r0, g', qt') → va_P D vwCl (wX cI cJ x0 x1 x2 x3 x4 x5 x6 x7 x8 x9 g rm op rc ec su pe qt rs rn cs cn lc hc lg hg) H → va_D A (wX cI cJ x0 x1 x2 x3 x4 x5 x6 x7 x8 x9 g rm op rc ec su pe qt rs rn cs cn lc hc lg hg) → va_S A s.heap H locs → lv_has ls 4 [(0, .ref x0), (1, .int v1), (2, .int v2)] → W p l e (headSpec wsX0_nextQuarter ({ frames := 6, cells := 1, slots := 6, locals := 90 })).room s m ([.ref x0] : List Value).toArray below meth c H locs 0 0 (vx_MQ below (va_Qi (fun (r : Int32) (_ : Unit) => r0 = Sum.inr r) (fun (_ : Unit) t => bx_Post D [(cI, .int), (cJ, .long)] (wX cI cJ x0 x1 x2 x3 x4 x5 x6 x7 x8 x9 g' rm op rc ec su pe qt' rs rn cs cn lc hc lg hg) A t) A) (vx_X (fun (_ : Unit) => True) (fun E (_ : Unit) t => r0 = Sum.inl E ∧ bx_Post D [(cI, .int), (cJ, .long)] (wX cI cJ x0 x1 x2 x3 x4 x5 x6 x7 x8 x9 g' rm op rc ec su pe qt' rs rn cs cn lc hc lg hg) A t) A) ([.ref x0] : List Value).toArray s 1 6 A) (F0 m 33 ls []) := by
    intro n
    induction n with
    | zero =>
      intro v1 v2 g qt H locs ls h
      rw [m_X0_nextQuarter_33] at h
      cases h
    | succ n ih =>
      intro v1 v2 g qt H locs ls h hP hD hS hl
      rw [m_X0_nextQuarter_33] at h
      refine lv_iload_n hx hb dX0_nextQuarter_33 rfl (lv_at hl 2 rfl) ?_
      refine lv_bipush (v := 8) hx hb dX0_nextQuarter_34 (by decide) ?_
      refine lv_icmp_ge (tgt := 74) hx hb dX0_nextQuarter_36 (by decide) (fun c_2 => ?_) (fun c_2 => ?_)
      · replace h := (if_pos c_2).symm.trans h
        refine lv_iload_n hx hb dX0_nextQuarter_74 rfl (lv_at hl 1 rfl) ?_
        cases h
        refine vx_ret ?_
        refine W.widen (k := 1) (n := 6) (Nat.zero_le _) (Nat.zero_le _) ?_
        exact W.iret hx hb hr (fun t ht hW => ⟨⟨_, (), rfl, rfl, by rw [ht]; exact hP, va_K.moved hW.alike hK, hD⟩, hS.F ht⟩) hS.2.2 dX0_nextQuarter_75
      · replace h := (if_neg c_2).symm.trans h
        refine lv_aload_n hx hb dX0_nextQuarter_39 rfl (lv_at hl 0 rfl) ?_
        refine lv_aload_n hx hb dX0_nextQuarter_40 rfl (lv_at hl 0 rfl) ?_
        refine va_get (D := D) (ci := 0) (v := .int qt) (C := RX0) (T := TX0) (N := 16) hx hb hts hin hown hK hP 0 rfl rfl 7 (by decide) hw_0 (fun _ h9 => h9) rfl dX0_nextQuarter_41 ?_
        refine lv_iload_n hx hb dX0_nextQuarter_44 rfl (lv_at hl 2 rfl) ?_
        obtain ⟨r_3, e_4, h⟩ := bnd1_some h
        refine cl_Vi (As := [.int qt, .int v2]) (rest := []) (wc := wX cI cJ x0 x1 x2 x3 x4 x5 x6 x7 x8 x9 g rm op rc ec su pe qt rs rn cs cn lc hc lg hg) (w1 := wX cI cJ x0 x1 x2 x3 x4 x5 x6 x7 x8 x9 g rm op rc ec su pe qt rs rn cs cn lc hc lg hg) (wr := []) ⟨hx, hb, hml, hown, hts⟩ (c_X0_lapsingIn l D cI cJ x0 x1 x2 x3 x4 x5 x6 x7 x8 x9 _ g rm op rc ec su pe qt rs rn cs cn lc hc lg hg fu qt v2 r_3 e_4) (cwV 2 hts gX0_nextQuarter_X0_lapsingIn rfl rfl rfl (by decide +kernel) ⟨Nat.le_of_ble_eq_true rfl, Nat.le_of_ble_eq_true rfl⟩) hK hP hD hS hA [0, 1, 2, 3, 4, 5, 6, 7, 8, 9] [] rfl rfl (by decide) (by decide) rfl rfl rfl rfl rfl hl.1 rfl (lv_room (Nat.le_of_ble_eq_true rfl)) dX0_nextQuarter_45 (fun H locs hP hD hS => ?_)
        have hP : va_P D vwCl (wX cI cJ x0 x1 x2 x3 x4 x5 x6 x7 x8 x9 g rm op rc ec su pe qt rs rn cs cn lc hc lg hg) H := hP
        have hD : va_D A (wX cI cJ x0 x1 x2 x3 x4 x5 x6 x7 x8 x9 g rm op rc ec su pe qt rs rn cs cn lc hc lg hg) := hD
        refine lv_istore_n (lv' := [(3, .int r_3), (0, .ref x0), (1, .int v1), (2, .int v2)]) hx hb dX0_nextQuarter_48 rfl hl (by decide) rfl (fun ls hl => ?_)
        refine lv_aload_n hx hb dX0_nextQuarter_49 rfl (lv_at hl 1 rfl) ?_
        refine va_get (D := D) (ci := 0) (v := .ref x1) (C := RX0) (T := TX0) (N := 16) hx hb hts hin hown hK hP 0 rfl rfl 0 (by decide) hw_3 (fun _ h9 => h9) rfl dX0_nextQuarter_50 ?_
        refine lv_iload_n hx hb dX0_nextQuarter_53 rfl (lv_at hl 3 rfl) ?_
        refine lv_dup2_11 hx hb dX0_nextQuarter_54 rfl rfl ?_
        obtain ⟨h_5, h⟩ := ix_some h
        refine va_iald hx hb hK hP 1 0 rfl rfl h_5 dX0_nextQuarter_55 ?_
        refine lv_iload_n hx hb dX0_nextQuarter_56 rfl (lv_at hl 0 rfl) ?_
        refine lv_iconst (v := (-1)) hx hb dX0_nextQuarter_57 (by decide) ?_
        refine lv_ixor hx hb dX0_nextQuarter_58 ?_
        refine lv_iand hx hb dX0_nextQuarter_59 ?_
        refine va_iast hx hb hK hP hD hS 1 0 rfl rfl h_5 dX0_nextQuarter_60 (fun H locs hP hD hS => ?_)
        have hP : va_P D vwCl (wX cI cJ x0 x1 x2 x3 x4 x5 x6 x7 x8 x9 (upd g (Int32.toNatClampNeg v2) ((g (Int32.toNatClampNeg v2)) &&& (r_3 ^^^ (-1)))) rm op rc ec su pe qt rs rn cs cn lc hc lg hg) H := hP
        have hD : va_D A (wX cI cJ x0 x1 x2 x3 x4 x5 x6 x7 x8 x9 (upd g (Int32.toNatClampNeg v2) ((g (Int32.toNatClampNeg v2)) &&& (r_3 ^^^ (-1)))) rm op rc ec su pe qt rs rn cs cn lc hc lg hg) := hD
        refine lv_iload_n hx hb dX0_nextQuarter_61 rfl (lv_at hl 2 rfl) ?_
        refine lv_iload_n hx hb dX0_nextQuarter_62 rfl (lv_at hl 0 rfl) ?_
        refine cl_Si0 (As := [.int r_3]) (rest := [.int v1]) ⟨hx, hb, hml, hown, hts⟩ (c_J6_bitCount_0f7a4 l D _ r_3) (va_cwS 1 hts gX0_nextQuarter_J6_bitCount_0f7a4 rfl rfl rfl (by decide +kernel) ⟨Nat.le_of_ble_eq_true rfl, Nat.le_of_ble_eq_true rfl⟩) hK hP hD hS hA rfl rfl hl.1 rfl (lv_room (Nat.le_of_ble_eq_true rfl)) dX0_nextQuarter_63 (fun H locs hP hD hS => ?_)
        refine lv_iadd hx hb dX0_nextQuarter_66 ?_
        refine lv_istore_n (lv' := [(1, .int (v1 + (m_J6_bitCount_0f7a4 r_3))), (3, .int r_3), (0, .ref x0), (2, .int v2)]) hx hb dX0_nextQuarter_67 rfl hl (by decide) rfl (fun ls hl => ?_)
        refine lv_iinc (v := (v2 + 1)) (lv' := [(2, .int (v2 + 1)), (1, .int (v1 + (m_J6_bitCount_0f7a4 r_3))), (3, .int r_3), (0, .ref x0)]) hx hb dX0_nextQuarter_68 hl (k := 3) rfl rfl (by decide) rfl (fun ls hl => ?_)
        refine lv_goto (tgt := 33) hx hb dX0_nextQuarter_71 (by decide) ?_
        exact ih (v1 + (m_J6_bitCount_0f7a4 r_3)) (v2 + 1) (upd g (Int32.toNatClampNeg v2) ((g (Int32.toNatClampNeg v2)) &&& (r_3 ^^^ (-1)))) qt _ _ _ h hP hD hS (lv_sub hl [3, 1, 0] rfl)
  rw [m_X0_nextQuarter] at h
  refine lv_aload_n hx hb dX0_nextQuarter_0 rfl (lv_at hl 0 rfl) ?_
  refine va_get (D := D) (ci := 0) (v := .int qt) (C := RX0) (T := TX0) (N := 16) hx hb hts hin hown hK hP 0 rfl rfl 7 (by decide) hw_0 (fun _ h9 => h9) rfl dX0_nextQuarter_1 ?_
  refine lv_bipush (v := 100) hx hb dX0_nextQuarter_4 (by decide) ?_
  refine lv_icmp_lt (tgt := 19) hx hb dX0_nextQuarter_6 (by decide) (fun c_1 => ?_) (fun c_1 => ?_)
  · replace h := (if_pos c_1).symm.trans h
    refine lv_aload_n hx hb dX0_nextQuarter_19 rfl (lv_at hl 0 rfl) ?_
    refine lv_dup hx hb dX0_nextQuarter_20 rfl ?_
    refine va_get (D := D) (ci := 0) (v := .int qt) (C := RX0) (T := TX0) (N := 16) hx hb hts hin hown hK hP 0 rfl rfl 7 (by decide) hw_0 (fun _ h9 => h9) rfl dX0_nextQuarter_21 ?_
    refine lv_iconst (v := 1) hx hb dX0_nextQuarter_24 (by decide) ?_
    refine lv_iadd hx hb dX0_nextQuarter_25 ?_
    refine va_put (D := D) (ci := 0) (v := .int (qt + 1)) (ty := .int) (C := RX0) (T := TX0) (N := 16) hx hb hts hin tyX0 tyX0_ok nmX0 hown hK hP hD hS 0 rfl rfl 7 (by decide) hw_0 (fun _ h9 => h9) rfl (by decide +kernel) rfl rfl (Nat.le_of_ble_eq_true rfl) dX0_nextQuarter_26 (fun H locs hP hD hS => ?_)
    have hP : va_P D vwCl (wX cI cJ x0 x1 x2 x3 x4 x5 x6 x7 x8 x9 g rm op rc ec su pe (qt + 1) rs rn cs cn lc hc lg hg) H := hP
    have hD : va_D A (wX cI cJ x0 x1 x2 x3 x4 x5 x6 x7 x8 x9 g rm op rc ec su pe (qt + 1) rs rn cs cn lc hc lg hg) := hD
    refine lv_iconst (v := 0) hx hb dX0_nextQuarter_29 (by decide) ?_
    refine lv_istore_n (lv' := [(1, .int 0), (0, .ref x0)]) hx hb dX0_nextQuarter_30 rfl hl (by decide) rfl (fun ls hl => ?_)
    refine lv_iconst (v := 0) hx hb dX0_nextQuarter_31 (by decide) ?_
    refine lv_istore_n (lv' := [(2, .int 0), (1, .int 0), (0, .ref x0)]) hx hb dX0_nextQuarter_32 rfl hl (by decide) rfl (fun ls hl => ?_)
    exact L33 fu 0 0 g (qt + 1) _ _ _ h hP hD hS (lv_sub hl [2, 1, 0] rfl)
  · replace h := (if_neg c_1).symm.trans h
    cases h
    obtain ⟨sa, hsa⟩ := hT.2.2.2.2.2.2.2.2.2.2.2.1
    exact vx_throwS (sa := sa) (A := A) (text := "the quarter is 100") (names := ["java/lang/RuntimeException", "java/lang/Exception"]) hx hb hst hown (by decide +kernel) (by decide +kernel) hw_1 hw_2 hsa (xt_hat (Ts := wsX0_nextQuarter) hts (fun w h9 => List.mem_cons_of_mem _ (List.mem_append_right _ h9)) xo_115 hT.1.2.2.1 hT.1.2.2.2.1 hT.1.2.2.2.2.1 hT.1.2.2.2.2.2) xg_115 hT.2.1.1 hT.2.1.2 hS (hl.1.trans hml.symm) dX0_nextQuarter_9 dX0_nextQuarter_12 dX0_nextQuarter_13 dX0_nextQuarter_15 dX0_nextQuarter_18 (fun x h9 => (hnt x h9).elim) (Nat.le_of_ble_eq_true rfl) (Nat.le_of_ble_eq_true rfl) (Nat.le_of_ble_eq_true rfl) (Nat.le_of_ble_eq_true rfl) hlocks (fun t ht hz hk => ⟨(), trivial, ⟨rfl, hP.kept (fun k9 q9 h9 => hk q9.1 (hP k9 q9 h9).lt), va_K.moved ht hK, hD⟩, Nat.le_trans hS.1 hz, fun q9 g1 g2 => (hk q9 (Nat.lt_of_lt_of_le g1 hS.1)).trans (hS.2.1 q9 g1 g2)⟩) hS.2.2 (Nat.le_refl _) (Nat.le_refl _)
-- X0_mineBest
def m_X0_mineBest_35 (fu : Nat) (g : Nat → Int32) (op : Nat → Int32) (rc : Int32) (ec : Int32) (su : Int32) : Nat → Int32 → Int32 → (Nat → Int32) → (Int32) → (Nat → Int32) → (Int32) → (Nat → Int64) → (Nat → Int64) → (Nat → Int64) → (Nat → Int64) → Option ((String ⊕ Int32) × ((Nat → Int32)) × ((Int32)) × ((Nat → Int32)) × ((Int32)) × ((Nat → Int64)) × ((Nat → Int64)) × ((Nat → Int64)) × ((Nat → Int64)))
  | 0, _, _, _, _, _, _, _, _, _, _ => none
  | n + 1, v1, v2, rs, rn, cs, cn, lc, hc, lg, hg => (if cn ≤ v2 then (bnd1 (m_X0_costOfChoice fu rc ec cn lc hc lg hg v1) (fun r_14 => some (.inr r_14, rs, rn, cs, cn, lc, hc, lg, hg))) else (if (m_X0_has v1 v2) = 0 then (m_X0_mineBest_35 fu g op rc ec su n v1 (v2 + 1) rs rn cs cn lc hc lg hg) else (ix v2 255 (bnd2 (m_X0_insertInOrder fu rs rn (cs (Int32.toNatClampNeg v2))) (fun r_18 f_19 => (m_X0_mineBest_35 fu g op rc ec su n v1 (v2 + 1) f_19 r_18 cs cn lc hc lg hg))))))
def m_X0_mineBest (fu : Nat) (g : Nat → Int32) (op : Nat → Int32) (rc : Int32) (ec : Int32) (su : Int32) (rs : Nat → Int32) (rn : Int32) (cs : Nat → Int32) (cn : Int32) (lc : Nat → Int64) (hc : Nat → Int64) (lg : Nat → Int64) (hg : Nat → Int64) : Option ((String ⊕ Int32) × ((Nat → Int32)) × ((Int32)) × ((Nat → Int32)) × ((Int32)) × ((Nat → Int64)) × ((Nat → Int64)) × ((Nat → Int64)) × ((Nat → Int64))) := (bnd6 (m_X0_findCandidates fu g op su cs cn lc hc lg hg) (fun cs_1 cn_2 lc_3 hc_4 lg_5 hg_6 => (if cn_2 ≤ 14 then (bnd3 (m_X0_bestChoice fu rc ec cn_2 lc_3 hc_4 lg_5 hg_6) (fun r_9 lg_10 hg_11 => (m_X0_mineBest_35 fu g op rc ec su fu r_9 0 rs 0 cs_1 cn_2 lc_3 hc_4 lg_10 hg_11))) else some (.inl "java/lang/IllegalStateException", rs, rn, cs_1, cn_2, lc_3, hc_4, lg_5, hg_6))))
set_option maxHeartbeats 4000000 in
set_option maxRecDepth 100000 in
theorem c_X0_mineBest (l : Launch) (hst : l.stackTraces = false) (D : va_G) (cI cJ : ClassId) (x0 x1 x2 x3 x4 x5 x6 x7 x8 x9 : Nat) (sz : Nat) (g : Nat → Int32) (rm : Nat → Int32) (op : Nat → Int32) (rc : Int32) (ec : Int32) (su : Int32) (pe : Int32) (qt : Int32) (rs : Nat → Int32) (rn : Int32) (cs : Nat → Int32) (cn : Int32) (lc : Nat → Int64) (hc : Nat → Int64) (lg : Nat → Int64) (hg : Nat → Int64) (fu : Nat) (r0 : String ⊕ Int32) (rs' : Nat → Int32) (rn' : Int32) (cs' : Nat → Int32) (cn' : Int32) (lc' : Nat → Int64) (hc' : Nat → Int64) (lg' : Nat → Int64) (hg' : Nat → Int64) (h : m_X0_mineBest fu g op rc ec su rs rn cs cn lc hc lg hg = some (r0, rs', rn', cs', cn', lc', hc', lg', hg')) : vx_Met l yX0_mineBest wsX0_mineBest ({ frames := 6, cells := 1, slots := 6, locals := 99 }) (va_Pc [.ref x0] (bx_PreT D [(cI, .int), (cJ, .long)] (wX cI cJ x0 x1 x2 x3 x4 x5 x6 x7 x8 x9 g rm op rc ec su pe qt rs rn cs cn lc hc lg hg) sz)) (va_Qi (fun (r : Int32) (_ : Unit) => r0 = Sum.inr r) (fun (_ : Unit) t => bx_Post D [(cI, .int), (cJ, .long)] (wX cI cJ x0 x1 x2 x3 x4 x5 x6 x7 x8 x9 g rm op rc ec su pe qt rs' rn' cs' cn' lc' hc' lg' hg') (va_A (wX cI cJ x0 x1 x2 x3 x4 x5 x6 x7 x8 x9 g rm op rc ec su pe qt rs rn cs cn lc hc lg hg) sz) t) (va_A (wX cI cJ x0 x1 x2 x3 x4 x5 x6 x7 x8 x9 g rm op rc ec su pe qt rs rn cs cn lc hc lg hg) sz)) (vx_X (fun (_ : Unit) => True) (fun E (_ : Unit) t => r0 = Sum.inl E ∧ bx_Post D [(cI, .int), (cJ, .long)] (wX cI cJ x0 x1 x2 x3 x4 x5 x6 x7 x8 x9 g rm op rc ec su pe qt rs' rn' cs' cn' lc' hc' lg' hg') (va_A (wX cI cJ x0 x1 x2 x3 x4 x5 x6 x7 x8 x9 g rm op rc ec su pe qt rs rn cs cn lc hc lg hg) sz) t) (va_A (wX cI cJ x0 x1 x2 x3 x4 x5 x6 x7 x8 x9 g rm op rc ec su pe qt rs rn cs cn lc hc lg hg) sz)) 1 6 (va_A (wX cI cJ x0 x1 x2 x3 x4 x5 x6 x7 x8 x9 g rm op rc ec su pe qt rs rn cs cn lc hc lg hg) sz) := by
  refine vx_ofW (cc := cX0_mineBest) (maxL := 3) (ret := (some .int)) (by decide) rfl ?_
  intro p e s m args below meth c s₁ B hml hnt hv
  obtain ⟨rfl, hsz, hP, hK, hD0, hT⟩ := hv
  have hx := B.exec
  have hb := B.bytes
  have hr := B.returns
  have hts := atoms_spec (ws := wsX0_mineBest) B.pre
  have hown : s.vm.findClass RX0 = some m.cls := findClass_of_methodNamed B.named
  have hlocks := B.notSynchronized
  subst hsz
  have hD := hD0.self (sz := s.heap.size)
  generalize hAe : va_A (wX cI cJ x0 x1 x2 x3 x4 x5 x6 x7 x8 x9 g rm op rc ec su pe qt rs rn cs cn lc hc lg hg) s.heap.size = A at hD hT ⊢
  have hA : ∀ q : Nat, s.heap.size ≤ q → A q := fun q h9 => by rw [← hAe]; exact Or.inr h9
  have hS : va_S A s.heap s.heap [] := va_S.rf
  have hin : ∀ w ∈ wsX00, w ∈ wsX0_mineBest := fun _ h9 => List.mem_cons_of_mem _ (List.mem_append_left _ (List.mem_append_right _ h9))
  have hw_0 := hts (.fieldLink RX0 44 "RoleMiner" "candidateCount" "I") (by decide +kernel)
  have hw_1 := hts (.fieldLink RX0 38 "RoleMiner" "roleCount" "I") (by decide +kernel)
  have hw_2 := hts (.classLink RX0 111 "java/lang/IllegalStateException") (by decide +kernel)
  have hw_3 := hts (.initialized "java/lang/IllegalStateException") (by decide +kernel)
  have hw_4 := hts (.fieldLink RX0 35 "RoleMiner" "roleSets" "[I") (by decide +kernel)
  have hw_5 := hts (.fieldLink RX0 41 "RoleMiner" "candidateSets" "[I") (by decide +kernel)
  have hl := lv_entry ([.ref x0]) (n := 3) (Nat.le_of_ble_eq_true rfl)
  rw [lg_entry_eq]
  generalize (lg_sl ([.ref x0]) ++ List.replicate (3 - (lg_sl ([.ref x0])).length) Slot.unset).toArray = ls at hl ⊢
  have hl : lv_has ls 3 [(0, .ref x0)] := hl
  have L35 : ∀ (n : Nat) (v1 : Int32) (v2 : Int32) (rs : Nat → Int32) (rn : Int32) (cs : Nat → Int32) (cn : Int32) (lc : Nat → Int64) (hc : Nat → Int64) (lg : Nat → Int64) (hg : Nat → Int64) (H : Heap) (locs : List Loc) (ls : Array Slot), m_X0_mineBest_35 fu g op rc ec su n v1 v2 rs rn cs cn lc hc lg hg = some (r0, rs', rn', cs', cn', lc', hc', lg', hg') → va_P D vwCl (wX cI cJ x0 x1 x2 x3 x4 x5 x6 x7 x8 x9 g rm op rc ec su pe qt rs rn cs cn lc hc lg hg) H → va_D A (wX cI cJ x0 x1 x2 x3 x4 x5 x6 x7 x8 x9 g rm op rc ec su pe qt rs rn cs cn lc hc lg hg) → va_S A s.heap H locs → lv_has ls 3 [(0, .ref x0), (1, .int v1), (2, .int v2)] → W p l e (headSpec wsX0_mineBest ({ frames := 6, cells := 1, slots := 6, locals := 99 })).room s m ([.ref x0] : List Value).toArray below meth c H locs 0 0 (vx_MQ below (va_Qi (fun (r : Int32) (_ : Unit) => r0 = Sum.inr r) (fun (_ : Unit) t => bx_Post D [(cI, .int), (cJ, .long)] (wX cI cJ x0 x1 x2 x3 x4 x5 x6 x7 x8 x9 g rm op rc ec su pe qt rs' rn' cs' cn' lc' hc' lg' hg') A t) A) (vx_X (fun (_ : Unit) => True) (fun E (_ : Unit) t => r0 = Sum.inl E ∧ bx_Post D [(cI, .int), (cJ, .long)] (wX cI cJ x0 x1 x2 x3 x4 x5 x6 x7 x8 x9 g rm op rc ec su pe qt rs' rn' cs' cn' lc' hc' lg' hg') A t) A) ([.ref x0] : List Value).toArray s 1 6 A) (F0 m 35 ls []) := by
    intro n
    induction n with
    | zero =>
      intro v1 v2 rs rn cs cn lc hc lg hg H locs ls h
      rw [m_X0_mineBest_35] at h
      cases h
    | succ n ih =>
      intro v1 v2 rs rn cs cn lc hc lg hg H locs ls h hP hD hS hl
      rw [m_X0_mineBest_35] at h
      refine lv_iload_n hx hb dX0_mineBest_35 rfl (lv_at hl 2 rfl) ?_
      refine lv_aload_n hx hb dX0_mineBest_36 rfl (lv_at hl 0 rfl) ?_
      refine va_get (D := D) (ci := 0) (v := .int cn) (C := RX0) (T := TX0) (N := 16) hx hb hts hin hown hK hP 0 rfl rfl 11 (by decide) hw_0 (fun _ h9 => h9) rfl dX0_mineBest_37 ?_
      refine lv_icmp_ge (tgt := 78) hx hb dX0_mineBest_40 (by decide) (fun c_13 => ?_) (fun c_13 => ?_)
      · replace h := (if_pos c_13).symm.trans h
        refine lv_aload_n hx hb dX0_mineBest_78 rfl (lv_at hl 0 rfl) ?_
        refine lv_iload_n hx hb dX0_mineBest_79 rfl (lv_at hl 1 rfl) ?_
        obtain ⟨r_14, e_15, h⟩ := bnd1_some h
        refine cl_Vi (As := [.int v1]) (rest := []) (wc := wX cI cJ x0 x1 x2 x3 x4 x5 x6 x7 x8 x9 g rm op rc ec su pe qt rs rn cs cn lc hc lg hg) (w1 := wX cI cJ x0 x1 x2 x3 x4 x5 x6 x7 x8 x9 g rm op rc ec su pe qt rs rn cs cn lc hc lg hg) (wr := []) ⟨hx, hb, hml, hown, hts⟩ (c_X0_costOfChoice l D cI cJ x0 x1 x2 x3 x4 x5 x6 x7 x8 x9 _ g rm op rc ec su pe qt rs rn cs cn lc hc lg hg fu v1 r_14 e_15) (cwV 1 hts gX0_mineBest_X0_costOfChoice rfl rfl rfl (by decide +kernel) ⟨Nat.le_of_ble_eq_true rfl, Nat.le_of_ble_eq_true rfl⟩) hK hP hD hS hA [0, 1, 2, 3, 4, 5, 6, 7, 8, 9] [] rfl rfl (by decide) (by decide) rfl rfl rfl rfl rfl hl.1 rfl (lv_room (Nat.le_of_ble_eq_true rfl)) dX0_mineBest_80 (fun H locs hP hD hS => ?_)
        have hP : va_P D vwCl (wX cI cJ x0 x1 x2 x3 x4 x5 x6 x7 x8 x9 g rm op rc ec su pe qt rs rn cs cn lc hc lg hg) H := hP
        have hD : va_D A (wX cI cJ x0 x1 x2 x3 x4 x5 x6 x7 x8 x9 g rm op rc ec su pe qt rs rn cs cn lc hc lg hg) := hD
        cases h
        refine vx_ret ?_
        refine W.widen (k := 1) (n := 6) (Nat.zero_le _) (Nat.zero_le _) ?_
        exact W.iret hx hb hr (fun t ht hW => ⟨⟨_, (), rfl, rfl, by rw [ht]; exact hP, va_K.moved hW.alike hK, hD⟩, hS.F ht⟩) hS.2.2 dX0_mineBest_83
      · replace h := (if_neg c_13).symm.trans h
        refine lv_iload_n hx hb dX0_mineBest_43 rfl (lv_at hl 1 rfl) ?_
        refine lv_iload_n hx hb dX0_mineBest_44 rfl (lv_at hl 2 rfl) ?_
        refine cl_Si0 (As := [.int v1, .int v2]) (rest := []) ⟨hx, hb, hml, hown, hts⟩ (c_X0_has l D _ v1 v2) (va_cwS 2 hts gX0_mineBest_X0_has rfl rfl rfl (by decide +kernel) ⟨Nat.le_of_ble_eq_true rfl, Nat.le_of_ble_eq_true rfl⟩) hK hP hD hS hA rfl rfl hl.1 rfl (lv_room (Nat.le_of_ble_eq_true rfl)) dX0_mineBest_45 (fun H locs hP hD hS => ?_)
        refine lv_if_eq (tgt := 72) hx hb dX0_mineBest_48 (by decide) (fun c_16 => ?_) (fun c_16 => ?_)
        · replace h := (if_pos c_16).symm.trans h
          refine lv_iinc (v := (v2 + 1)) (lv' := [(2, .int (v2 + 1)), (0, .ref x0), (1, .int v1)]) hx hb dX0_mineBest_72 hl (k := 2) rfl rfl (by decide) rfl (fun ls hl => ?_)
          refine lv_goto (tgt := 35) hx hb dX0_mineBest_75 (by decide) ?_
          exact ih v1 (v2 + 1) rs rn cs cn lc hc lg hg _ _ _ h hP hD hS (lv_sub hl [1, 2, 0] rfl)
        · replace h := (if_neg c_16).symm.trans h
          refine lv_aload_n hx hb dX0_mineBest_51 rfl (lv_at hl 0 rfl) ?_
          refine lv_aload_n hx hb dX0_mineBest_52 rfl (lv_at hl 0 rfl) ?_
          refine va_get (D := D) (ci := 0) (v := .ref x4) (C := RX0) (T := TX0) (N := 16) hx hb hts hin hown hK hP 0 rfl rfl 8 (by decide) hw_4 (fun _ h9 => h9) rfl dX0_mineBest_53 ?_
          refine lv_aload_n hx hb dX0_mineBest_56 rfl (lv_at hl 0 rfl) ?_
          refine va_get (D := D) (ci := 0) (v := .int rn) (C := RX0) (T := TX0) (N := 16) hx hb hts hin hown hK hP 0 rfl rfl 9 (by decide) hw_1 (fun _ h9 => h9) rfl dX0_mineBest_57 ?_
          refine lv_aload_n hx hb dX0_mineBest_60 rfl (lv_at hl 0 rfl) ?_
          refine va_get (D := D) (ci := 0) (v := .ref x5) (C := RX0) (T := TX0) (N := 16) hx hb hts hin hown hK hP 0 rfl rfl 10 (by decide) hw_5 (fun _ h9 => h9) rfl dX0_mineBest_61 ?_
          refine lv_iload_n hx hb dX0_mineBest_64 rfl (lv_at hl 2 rfl) ?_
          obtain ⟨h_17, h⟩ := ix_some h
          refine va_iald hx hb hK hP 5 0 rfl rfl h_17 dX0_mineBest_65 ?_
          obtain ⟨r_18, f_19, e_20, h⟩ := bnd2_some h
          refine cl_Si (As := [.ref x4, .int rn, .int (cs (Int32.toNatClampNeg v2))]) (rest := [.ref x0]) (wc := [(x4, .inl (cI, 255, .inl rs))]) (wr := [(x0, .inr (0, [.ref x1, .ref x2, .ref x3, .int rc, .int ec, .int su, .int pe, .int qt, .ref x4, .int rn, .ref x5, .int cn, .ref x6, .ref x7, .ref x8, .ref x9])), (x1, .inl (cI, 8, .inl g)), (x2, .inl (cI, 96, .inl rm)), (x3, .inl (cI, 12, .inl op)), (x5, .inl (cI, 255, .inl cs)), (x6, .inl (cJ, 255, .inr (.inl lc))), (x7, .inl (cJ, 255, .inr (.inl hc))), (x8, .inl (cJ, 15, .inr (.inl lg))), (x9, .inl (cJ, 15, .inr (.inl hg)))]) ⟨hx, hb, hml, hown, hts⟩ (c_X0_insertInOrder l D cI cJ x4 _ rs fu rn (cs (Int32.toNatClampNeg v2)) r_18 f_19 e_20) (va_cwS 3 hts gX0_mineBest_X0_insertInOrder rfl rfl rfl (by decide +kernel) ⟨Nat.le_of_ble_eq_true rfl, Nat.le_of_ble_eq_true rfl⟩) hK hP hD hS hA [4] [0, 1, 2, 3, 5, 6, 7, 8, 9] rfl rfl (by decide) (by decide) rfl rfl rfl hl.1 rfl (lv_room (Nat.le_of_ble_eq_true rfl)) dX0_mineBest_66 (fun H locs hP hD hS => ?_)
          replace hP := hP.sub (ws' := wX cI cJ x0 x1 x2 x3 x4 x5 x6 x7 x8 x9 g rm op rc ec su pe qt f_19 rn cs cn lc hc lg hg) [0, 1, 2, 3, 9, 4, 5, 6, 7, 8] rfl
          replace hD := hD.sub (ws' := wX cI cJ x0 x1 x2 x3 x4 x5 x6 x7 x8 x9 g rm op rc ec su pe qt f_19 rn cs cn lc hc lg hg) [0, 1, 2, 3, 9, 4, 5, 6, 7, 8] (by decide) rfl
          refine va_put (D := D) (ci := 0) (v := .int r_18) (ty := .int) (C := RX0) (T := TX0) (N := 16) hx hb hts hin tyX0 tyX0_ok nmX0 hown hK hP hD hS 0 rfl rfl 9 (by decide) hw_1 (fun _ h9 => h9) rfl (by decide +kernel) rfl rfl (Nat.le_of_ble_eq_true rfl) dX0_mineBest_69 (fun H locs hP hD hS => ?_)
          have hP : va_P D vwCl (wX cI cJ x0 x1 x2 x3 x4 x5 x6 x7 x8 x9 g rm op rc ec su pe qt f_19 r_18 cs cn lc hc lg hg) H := hP
          have hD : va_D A (wX cI cJ x0 x1 x2 x3 x4 x5 x6 x7 x8 x9 g rm op rc ec su pe qt f_19 r_18 cs cn lc hc lg hg) := hD
          refine lv_iinc (v := (v2 + 1)) (lv' := [(2, .int (v2 + 1)), (0, .ref x0), (1, .int v1)]) hx hb dX0_mineBest_72 hl (k := 2) rfl rfl (by decide) rfl (fun ls hl => ?_)
          refine lv_goto (tgt := 35) hx hb dX0_mineBest_75 (by decide) ?_
          exact ih v1 (v2 + 1) f_19 r_18 cs cn lc hc lg hg _ _ _ h hP hD hS (lv_sub hl [1, 2, 0] rfl)
  rw [m_X0_mineBest] at h
  refine lv_aload_n hx hb dX0_mineBest_0 rfl (lv_at hl 0 rfl) ?_
  obtain ⟨cs_1, cn_2, lc_3, hc_4, lg_5, hg_6, e_7, h⟩ := bnd6_some h
  refine cl_Vv (As := []) (rest := []) (wc := wX cI cJ x0 x1 x2 x3 x4 x5 x6 x7 x8 x9 g rm op rc ec su pe qt rs rn cs cn lc hc lg hg) (w1 := wX cI cJ x0 x1 x2 x3 x4 x5 x6 x7 x8 x9 g rm op rc ec su pe qt rs rn cs_1 cn_2 lc_3 hc_4 lg_5 hg_6) (wr := []) ⟨hx, hb, hml, hown, hts⟩ (c_X0_findCandidates l D cI cJ x0 x1 x2 x3 x4 x5 x6 x7 x8 x9 _ g rm op rc ec su pe qt rs rn cs cn lc hc lg hg fu  cs_1 cn_2 lc_3 hc_4 lg_5 hg_6 e_7) (cwV 0 hts gX0_mineBest_X0_findCandidates rfl rfl rfl (by decide +kernel) ⟨Nat.le_of_ble_eq_true rfl, Nat.le_of_ble_eq_true rfl⟩) hK hP hD hS hA [0, 1, 2, 3, 4, 5, 6, 7, 8, 9] [] rfl rfl (by decide) (by decide) rfl rfl rfl rfl rfl hl.1 rfl (lv_room (Nat.le_of_ble_eq_true rfl)) dX0_mineBest_1 (fun H locs hP hD hS => ?_)
  have hP : va_P D vwCl (wX cI cJ x0 x1 x2 x3 x4 x5 x6 x7 x8 x9 g rm op rc ec su pe qt rs rn cs_1 cn_2 lc_3 hc_4 lg_5 hg_6) H := hP
  have hD : va_D A (wX cI cJ x0 x1 x2 x3 x4 x5 x6 x7 x8 x9 g rm op rc ec su pe qt rs rn cs_1 cn_2 lc_3 hc_4 lg_5 hg_6) := hD
  refine lv_aload_n hx hb dX0_mineBest_4 rfl (lv_at hl 0 rfl) ?_
  refine va_get (D := D) (ci := 0) (v := .int cn_2) (C := RX0) (T := TX0) (N := 16) hx hb hts hin hown hK hP 0 rfl rfl 11 (by decide) hw_0 (fun _ h9 => h9) rfl dX0_mineBest_5 ?_
  refine lv_bipush (v := 14) hx hb dX0_mineBest_8 (by decide) ?_
  refine lv_icmp_le (tgt := 23) hx hb dX0_mineBest_10 (by decide) (fun c_8 => ?_) (fun c_8 => ?_)
  · replace h := (if_pos c_8).symm.trans h
    refine lv_aload_n hx hb dX0_mineBest_23 rfl (lv_at hl 0 rfl) ?_
    obtain ⟨r_9, lg_10, hg_11, e_12, h⟩ := bnd3_some h
    refine cl_Vi (As := []) (rest := []) (wc := wX cI cJ x0 x1 x2 x3 x4 x5 x6 x7 x8 x9 g rm op rc ec su pe qt rs rn cs_1 cn_2 lc_3 hc_4 lg_5 hg_6) (w1 := wX cI cJ x0 x1 x2 x3 x4 x5 x6 x7 x8 x9 g rm op rc ec su pe qt rs rn cs_1 cn_2 lc_3 hc_4 lg_10 hg_11) (wr := []) ⟨hx, hb, hml, hown, hts⟩ (c_X0_bestChoice l D cI cJ x0 x1 x2 x3 x4 x5 x6 x7 x8 x9 _ g rm op rc ec su pe qt rs rn cs_1 cn_2 lc_3 hc_4 lg_5 hg_6 fu  r_9 lg_10 hg_11 e_12) (cwV 0 hts gX0_mineBest_X0_bestChoice rfl rfl rfl (by decide +kernel) ⟨Nat.le_of_ble_eq_true rfl, Nat.le_of_ble_eq_true rfl⟩) hK hP hD hS hA [0, 1, 2, 3, 4, 5, 6, 7, 8, 9] [] rfl rfl (by decide) (by decide) rfl rfl rfl rfl rfl hl.1 rfl (lv_room (Nat.le_of_ble_eq_true rfl)) dX0_mineBest_24 (fun H locs hP hD hS => ?_)
    have hP : va_P D vwCl (wX cI cJ x0 x1 x2 x3 x4 x5 x6 x7 x8 x9 g rm op rc ec su pe qt rs rn cs_1 cn_2 lc_3 hc_4 lg_10 hg_11) H := hP
    have hD : va_D A (wX cI cJ x0 x1 x2 x3 x4 x5 x6 x7 x8 x9 g rm op rc ec su pe qt rs rn cs_1 cn_2 lc_3 hc_4 lg_10 hg_11) := hD
    refine lv_istore_n (lv' := [(1, .int r_9), (0, .ref x0)]) hx hb dX0_mineBest_27 rfl hl (by decide) rfl (fun ls hl => ?_)
    refine lv_aload_n hx hb dX0_mineBest_28 rfl (lv_at hl 1 rfl) ?_
    refine lv_iconst (v := 0) hx hb dX0_mineBest_29 (by decide) ?_
    refine va_put (D := D) (ci := 0) (v := .int 0) (ty := .int) (C := RX0) (T := TX0) (N := 16) hx hb hts hin tyX0 tyX0_ok nmX0 hown hK hP hD hS 0 rfl rfl 9 (by decide) hw_1 (fun _ h9 => h9) rfl (by decide +kernel) rfl rfl (Nat.le_of_ble_eq_true rfl) dX0_mineBest_30 (fun H locs hP hD hS => ?_)
    have hP : va_P D vwCl (wX cI cJ x0 x1 x2 x3 x4 x5 x6 x7 x8 x9 g rm op rc ec su pe qt rs 0 cs_1 cn_2 lc_3 hc_4 lg_10 hg_11) H := hP
    have hD : va_D A (wX cI cJ x0 x1 x2 x3 x4 x5 x6 x7 x8 x9 g rm op rc ec su pe qt rs 0 cs_1 cn_2 lc_3 hc_4 lg_10 hg_11) := hD
    refine lv_iconst (v := 0) hx hb dX0_mineBest_33 (by decide) ?_
    refine lv_istore_n (lv' := [(2, .int 0), (1, .int r_9), (0, .ref x0)]) hx hb dX0_mineBest_34 rfl hl (by decide) rfl (fun ls hl => ?_)
    exact L35 fu r_9 0 rs 0 cs_1 cn_2 lc_3 hc_4 lg_10 hg_11 _ _ _ h hP hD hS (lv_sub hl [2, 1, 0] rfl)
  · replace h := (if_neg c_8).symm.trans h
    cases h
    obtain ⟨sa, hsa⟩ := hT.2.2.2.2.2.2.2.2.2.2.2.2.1
    exact vx_throwS (sa := sa) (A := A) (text := "more than 14 candidates") (names := ["java/lang/RuntimeException", "java/lang/Exception"]) hx hb hst hown (by decide +kernel) (by decide +kernel) hw_2 hw_3 hsa (xt_hat (Ts := wsX0_mineBest) hts (fun w h9 => List.mem_cons_of_mem _ (List.mem_append_right _ h9)) xo_115 hT.1.2.2.1 hT.1.2.2.2.1 hT.1.2.2.2.2.1 hT.1.2.2.2.2.2) xg_115 hT.2.1.1 hT.2.1.2 hS (hl.1.trans hml.symm) dX0_mineBest_13 dX0_mineBest_16 dX0_mineBest_17 dX0_mineBest_19 dX0_mineBest_22 (fun x h9 => (hnt x h9).elim) (Nat.le_of_ble_eq_true rfl) (Nat.le_of_ble_eq_true rfl) (Nat.le_of_ble_eq_true rfl) (Nat.le_of_ble_eq_true rfl) hlocks (fun t ht hz hk => ⟨(), trivial, ⟨rfl, hP.kept (fun k9 q9 h9 => hk q9.1 (hP k9 q9 h9).lt), va_K.moved ht hK, hD⟩, Nat.le_trans hS.1 hz, fun q9 g1 g2 => (hk q9 (Nat.lt_of_lt_of_le g1 hS.1)).trans (hS.2.1 q9 g1 g2)⟩) hS.2.2 (Nat.le_refl _) (Nat.le_refl _)
-- X0_permissions
def m_X0_permissions (g : Nat → Int32) (a1 : Int32) : Option ((String ⊕ Int32)) := (if (m_X0_isUser a1) = 0 then some (.inl "java/lang/IndexOutOfBoundsException") else (ix a1 8 (some (.inr (g (Int32.toNatClampNeg a1))))))
set_option maxHeartbeats 4000000 in
set_option maxRecDepth 100000 in
theorem c_X0_permissions (l : Launch) (hst : l.stackTraces = false) (D : va_G) (cI cJ : ClassId) (x0 x1 x2 x3 x4 x5 x6 x7 x8 x9 : Nat) (sz : Nat) (g : Nat → Int32) (rm : Nat → Int32) (op : Nat → Int32) (rc : Int32) (ec : Int32) (su : Int32) (pe : Int32) (qt : Int32) (rs : Nat → Int32) (rn : Int32) (cs : Nat → Int32) (cn : Int32) (lc : Nat → Int64) (hc : Nat → Int64) (lg : Nat → Int64) (hg : Nat → Int64) (a1 : Int32) (r0 : String ⊕ Int32) (h : m_X0_permissions g a1 = some r0) : vx_Met l yX0_permissions wsX0_permissions ({ frames := 6, cells := 1, slots := 6, locals := 90 }) (va_Pc [.ref x0, .int a1] (bx_PreT D [(cI, .int), (cJ, .long)] (wX cI cJ x0 x1 x2 x3 x4 x5 x6 x7 x8 x9 g rm op rc ec su pe qt rs rn cs cn lc hc lg hg) sz)) (va_Qi (fun (r : Int32) (_ : Unit) => r0 = Sum.inr r) (fun (_ : Unit) t => bx_Post D [(cI, .int), (cJ, .long)] (wX cI cJ x0 x1 x2 x3 x4 x5 x6 x7 x8 x9 g rm op rc ec su pe qt rs rn cs cn lc hc lg hg) (va_A (wX cI cJ x0 x1 x2 x3 x4 x5 x6 x7 x8 x9 g rm op rc ec su pe qt rs rn cs cn lc hc lg hg) sz) t) (va_A (wX cI cJ x0 x1 x2 x3 x4 x5 x6 x7 x8 x9 g rm op rc ec su pe qt rs rn cs cn lc hc lg hg) sz)) (vx_X (fun (_ : Unit) => True) (fun E (_ : Unit) t => r0 = Sum.inl E ∧ bx_Post D [(cI, .int), (cJ, .long)] (wX cI cJ x0 x1 x2 x3 x4 x5 x6 x7 x8 x9 g rm op rc ec su pe qt rs rn cs cn lc hc lg hg) (va_A (wX cI cJ x0 x1 x2 x3 x4 x5 x6 x7 x8 x9 g rm op rc ec su pe qt rs rn cs cn lc hc lg hg) sz) t) (va_A (wX cI cJ x0 x1 x2 x3 x4 x5 x6 x7 x8 x9 g rm op rc ec su pe qt rs rn cs cn lc hc lg hg) sz)) 1 6 (va_A (wX cI cJ x0 x1 x2 x3 x4 x5 x6 x7 x8 x9 g rm op rc ec su pe qt rs rn cs cn lc hc lg hg) sz) := by
  refine vx_ofW (cc := cX0_permissions) (maxL := 2) (ret := (some .int)) (by decide) rfl ?_
  intro p e s m args below meth c s₁ B hml hnt hv
  obtain ⟨rfl, hsz, hP, hK, hD0, hT⟩ := hv
  have hx := B.exec
  have hb := B.bytes
  have hr := B.returns
  have hts := atoms_spec (ws := wsX0_permissions) B.pre
  have hown : s.vm.findClass RX0 = some m.cls := findClass_of_methodNamed B.named
  have hlocks := B.notSynchronized
  subst hsz
  have hD := hD0.self (sz := s.heap.size)
  generalize hAe : va_A (wX cI cJ x0 x1 x2 x3 x4 x5 x6 x7 x8 x9 g rm op rc ec su pe qt rs rn cs cn lc hc lg hg) s.heap.size = A at hD hT ⊢
  have hA : ∀ q : Nat, s.heap.size ≤ q → A q := fun q h9 => by rw [← hAe]; exact Or.inr h9
  have hS : va_S A s.heap s.heap [] := va_S.rf
  have hin : ∀ w ∈ wsX00, w ∈ wsX0_permissions := fun _ h9 => List.mem_cons_of_mem _ (List.mem_append_left _ (List.mem_append_right _ h9))
  have hw_0 := hts (.fieldLink RX0 9 "RoleMiner" "granted" "[I") (by decide +kernel)
  have hw_1 := hts (.classLink RX0 67 "java/lang/IndexOutOfBoundsException") (by decide +kernel)
  have hw_2 := hts (.initialized "java/lang/IndexOutOfBoundsException") (by decide +kernel)
  have hl := lv_entry ([.ref x0, .int a1]) (n := 2) (Nat.le_of_ble_eq_true rfl)
  rw [lg_entry_eq]
  generalize (lg_sl ([.ref x0, .int a1]) ++ List.replicate (2 - (lg_sl ([.ref x0, .int a1])).length) Slot.unset).toArray = ls at hl ⊢
  have hl : lv_has ls 2 [(0, .ref x0), (1, .int a1)] := hl
  rw [m_X0_permissions] at h
  refine lv_iload_n hx hb dX0_permissions_0 rfl (lv_at hl 1 rfl) ?_
  refine cl_Si0 (As := [.int a1]) (rest := []) ⟨hx, hb, hml, hown, hts⟩ (c_X0_isUser l D _ a1) (va_cwS 1 hts gX0_permissions_X0_isUser rfl rfl rfl (by decide +kernel) ⟨Nat.le_of_ble_eq_true rfl, Nat.le_of_ble_eq_true rfl⟩) hK hP hD hS hA rfl rfl hl.1 rfl (lv_room (Nat.le_of_ble_eq_true rfl)) dX0_permissions_1 (fun H locs hP hD hS => ?_)
  refine lv_if_ne (tgt := 17) hx hb dX0_permissions_4 (by decide) (fun c_1 => ?_) (fun c_1 => ?_)
  · replace h := (if_neg c_1).symm.trans h
    refine lv_aload_n hx hb dX0_permissions_17 rfl (lv_at hl 0 rfl) ?_
    refine va_get (D := D) (ci := 0) (v := .ref x1) (C := RX0) (T := TX0) (N := 16) hx hb hts hin hown hK hP 0 rfl rfl 0 (by decide) hw_0 (fun _ h9 => h9) rfl dX0_permissions_18 ?_
    refine lv_iload_n hx hb dX0_permissions_21 rfl (lv_at hl 1 rfl) ?_
    obtain ⟨h_2, h⟩ := ix_some h
    refine va_iald hx hb hK hP 1 0 rfl rfl h_2 dX0_permissions_22 ?_
    cases h
    refine vx_ret ?_
    refine W.widen (k := 1) (n := 6) (Nat.zero_le _) (Nat.zero_le _) ?_
    exact W.iret hx hb hr (fun t ht hW => ⟨⟨_, (), rfl, rfl, by rw [ht]; exact hP, va_K.moved hW.alike hK, hD⟩, hS.F ht⟩) hS.2.2 dX0_permissions_23
  · replace h := (if_pos c_1).symm.trans h
    cases h
    obtain ⟨sa, hsa⟩ := hT.2.2.2.1
    exact vx_throwS (sa := sa) (A := A) (text := "no such user") (names := ["java/lang/RuntimeException", "java/lang/Exception"]) hx hb hst hown (by decide +kernel) (by decide +kernel) hw_1 hw_2 hsa (xt_hat (Ts := wsX0_permissions) hts (fun w h9 => List.mem_cons_of_mem _ (List.mem_append_right _ h9)) xo_71 hT.1.1 hT.1.2.2.2.1 hT.1.2.2.2.2.1 hT.1.2.2.2.2.2) xg_71 hT.2.1.1 hT.2.1.2 hS (hl.1.trans hml.symm) dX0_permissions_7 dX0_permissions_10 dX0_permissions_11 dX0_permissions_13 dX0_permissions_16 (fun x h9 => (hnt x h9).elim) (Nat.le_of_ble_eq_true rfl) (Nat.le_of_ble_eq_true rfl) (Nat.le_of_ble_eq_true rfl) (Nat.le_of_ble_eq_true rfl) hlocks (fun t ht hz hk => ⟨(), trivial, ⟨rfl, hP.kept (fun k9 q9 h9 => hk q9.1 (hP k9 q9 h9).lt), va_K.moved ht hK, hD⟩, Nat.le_trans hS.1 hz, fun q9 g1 g2 => (hk q9 (Nat.lt_of_lt_of_le g1 hS.1)).trans (hS.2.1 q9 g1 g2)⟩) hS.2.2 (Nat.le_refl _) (Nat.le_refl _)
-- X0_violations
def m_X0_violations_21 (fu : Nat) (g : Nat → Int32) (op : Nat → Int32) (a1 : Int32) : Nat → Int32 → Int32 → Option ((String ⊕ Int32))
  | 0, _, _ => none
  | n + 1, v2, v3 => (if 12 ≤ v3 then some (.inr (v2 / 2)) else (ix a1 8 (if (m_X0_has (g (Int32.toNatClampNeg a1)) v3) = 0 then (m_X0_violations_21 fu g op a1 n v2 (v3 + 1)) else (ix v3 12 (m_X0_violations_21 fu g op a1 n (v2 + (m_J6_bitCount_0f7a4 ((op (Int32.toNatClampNeg v3)) &&& (g (Int32.toNatClampNeg a1))))) (v3 + 1))))))
def m_X0_violations (fu : Nat) (g : Nat → Int32) (op : Nat → Int32) (a1 : Int32) : Option ((String ⊕ Int32)) := (if (m_X0_isUser a1) = 0 then some (.inl "java/lang/IndexOutOfBoundsException") else (m_X0_violations_21 fu g op a1 fu 0 0))
set_option maxHeartbeats 4000000 in
set_option maxRecDepth 100000 in
theorem c_X0_violations (l : Launch) (hst : l.stackTraces = false) (D : va_G) (cI cJ : ClassId) (x0 x1 x2 x3 x4 x5 x6 x7 x8 x9 : Nat) (sz : Nat) (g : Nat → Int32) (rm : Nat → Int32) (op : Nat → Int32) (rc : Int32) (ec : Int32) (su : Int32) (pe : Int32) (qt : Int32) (rs : Nat → Int32) (rn : Int32) (cs : Nat → Int32) (cn : Int32) (lc : Nat → Int64) (hc : Nat → Int64) (lg : Nat → Int64) (hg : Nat → Int64) (fu : Nat) (a1 : Int32) (r0 : String ⊕ Int32) (h : m_X0_violations fu g op a1 = some r0) : vx_Met l yX0_violations wsX0_violations ({ frames := 6, cells := 1, slots := 6, locals := 90 }) (va_Pc [.ref x0, .int a1] (bx_PreT D [(cI, .int), (cJ, .long)] (wX cI cJ x0 x1 x2 x3 x4 x5 x6 x7 x8 x9 g rm op rc ec su pe qt rs rn cs cn lc hc lg hg) sz)) (va_Qi (fun (r : Int32) (_ : Unit) => r0 = Sum.inr r) (fun (_ : Unit) t => bx_Post D [(cI, .int), (cJ, .long)] (wX cI cJ x0 x1 x2 x3 x4 x5 x6 x7 x8 x9 g rm op rc ec su pe qt rs rn cs cn lc hc lg hg) (va_A (wX cI cJ x0 x1 x2 x3 x4 x5 x6 x7 x8 x9 g rm op rc ec su pe qt rs rn cs cn lc hc lg hg) sz) t) (va_A (wX cI cJ x0 x1 x2 x3 x4 x5 x6 x7 x8 x9 g rm op rc ec su pe qt rs rn cs cn lc hc lg hg) sz)) (vx_X (fun (_ : Unit) => True) (fun E (_ : Unit) t => r0 = Sum.inl E ∧ bx_Post D [(cI, .int), (cJ, .long)] (wX cI cJ x0 x1 x2 x3 x4 x5 x6 x7 x8 x9 g rm op rc ec su pe qt rs rn cs cn lc hc lg hg) (va_A (wX cI cJ x0 x1 x2 x3 x4 x5 x6 x7 x8 x9 g rm op rc ec su pe qt rs rn cs cn lc hc lg hg) sz) t) (va_A (wX cI cJ x0 x1 x2 x3 x4 x5 x6 x7 x8 x9 g rm op rc ec su pe qt rs rn cs cn lc hc lg hg) sz)) 1 6 (va_A (wX cI cJ x0 x1 x2 x3 x4 x5 x6 x7 x8 x9 g rm op rc ec su pe qt rs rn cs cn lc hc lg hg) sz) := by
  refine vx_ofW (cc := cX0_violations) (maxL := 4) (ret := (some .int)) (by decide) rfl ?_
  intro p e s m args below meth c s₁ B hml hnt hv
  obtain ⟨rfl, hsz, hP, hK, hD0, hT⟩ := hv
  have hx := B.exec
  have hb := B.bytes
  have hr := B.returns
  have hts := atoms_spec (ws := wsX0_violations) B.pre
  have hown : s.vm.findClass RX0 = some m.cls := findClass_of_methodNamed B.named
  have hlocks := B.notSynchronized
  subst hsz
  have hD := hD0.self (sz := s.heap.size)
  generalize hAe : va_A (wX cI cJ x0 x1 x2 x3 x4 x5 x6 x7 x8 x9 g rm op rc ec su pe qt rs rn cs cn lc hc lg hg) s.heap.size = A at hD hT ⊢
  have hA : ∀ q : Nat, s.heap.size ≤ q → A q := fun q h9 => by rw [← hAe]; exact Or.inr h9
  have hS : va_S A s.heap s.heap [] := va_S.rf
  have hin : ∀ w ∈ wsX00, w ∈ wsX0_violations := fun _ h9 => List.mem_cons_of_mem _ (List.mem_append_left _ (List.mem_append_right _ h9))
  have hw_0 := hts (.classLink RX0 67 "java/lang/IndexOutOfBoundsException") (by decide +kernel)
  have hw_1 := hts (.initialized "java/lang/IndexOutOfBoundsException") (by decide +kernel)
  have hw_2 := hts (.fieldLink RX0 9 "RoleMiner" "granted" "[I") (by decide +kernel)
  have hw_3 := hts (.fieldLink RX0 16 "RoleMiner" "opposed" "[I") (by decide +kernel)
  have hl := lv_entry ([.ref x0, .int a1]) (n := 4) (Nat.le_of_ble_eq_true rfl)
  rw [lg_entry_eq]
  generalize (lg_sl ([.ref x0, .int a1]) ++ List.replicate (4 - (lg_sl ([.ref x0, .int a1])).length) Slot.unset).toArray = ls at hl ⊢
  have hl : lv_has ls 4 [(0, .ref x0), (1, .int a1)] := hl
  have L21 : ∀ (n : Nat) (v2 : Int32) (v3 : Int32) (H : Heap) (locs : List Loc) (ls : Array Slot), m_X0_violations_21 fu g op a1 n v2 v3 = some r0 → va_P D vwCl (wX cI cJ x0 x1 x2 x3 x4 x5 x6 x7 x8 x9 g rm op rc ec su pe qt rs rn cs cn lc hc lg hg) H → va_D A (wX cI cJ x0 x1 x2 x3 x4 x5 x6 x7 x8 x9 g rm op rc ec su pe qt rs rn cs cn lc hc lg hg) → va_S A s.heap H locs → lv_has ls 4 [(0, .ref x0), (1, .int a1), (2, .int v2), (3, .int v3)] → W p l e (headSpec wsX0_violations ({ frames := 6, cells := 1, slots := 6, locals := 90 })).room s m ([.ref x0, .int a1] : List Value).toArray below meth c H locs 0 0 (vx_MQ below (va_Qi (fun (r : Int32) (_ : Unit) => r0 = Sum.inr r) (fun (_ : Unit) t => bx_Post D [(cI, .int), (cJ, .long)] (wX cI cJ x0 x1 x2 x3 x4 x5 x6 x7 x8 x9 g rm op rc ec su pe qt rs rn cs cn lc hc lg hg) A t) A) (vx_X (fun (_ : Unit) => True) (fun E (_ : Unit) t => r0 = Sum.inl E ∧ bx_Post D [(cI, .int), (cJ, .long)] (wX cI cJ x0 x1 x2 x3 x4 x5 x6 x7 x8 x9 g rm op rc ec su pe qt rs rn cs cn lc hc lg hg) A t) A) ([.ref x0, .int a1] : List Value).toArray s 1 6 A) (F0 m 21 ls []) := by
    intro n
    induction n with
    | zero =>
      intro v2 v3 H locs ls h
      rw [m_X0_violations_21] at h
      cases h
    | succ n ih =>
      intro v2 v3 H locs ls h hP hD hS hl
      rw [m_X0_violations_21] at h
      refine lv_iload_n hx hb dX0_violations_21 rfl (lv_at hl 3 rfl) ?_
      refine lv_bipush (v := 12) hx hb dX0_violations_22 (by decide) ?_
      refine lv_icmp_ge (tgt := 65) hx hb dX0_violations_24 (by decide) (fun c_2 => ?_) (fun c_2 => ?_)
      · replace h := (if_pos c_2).symm.trans h
        refine lv_iload_n hx hb dX0_violations_65 rfl (lv_at hl 2 rfl) ?_
        refine lv_iconst (v := 2) hx hb dX0_violations_66 (by decide) ?_
        refine lv_idiv hx hb dX0_violations_67 (by decide) ?_
        cases h
        refine vx_ret ?_
        refine W.widen (k := 1) (n := 6) (Nat.zero_le _) (Nat.zero_le _) ?_
        exact W.iret hx hb hr (fun t ht hW => ⟨⟨_, (), rfl, rfl, by rw [ht]; exact hP, va_K.moved hW.alike hK, hD⟩, hS.F ht⟩) hS.2.2 dX0_violations_68
      · replace h := (if_neg c_2).symm.trans h
        refine lv_aload_n hx hb dX0_violations_27 rfl (lv_at hl 0 rfl) ?_
        refine va_get (D := D) (ci := 0) (v := .ref x1) (C := RX0) (T := TX0) (N := 16) hx hb hts hin hown hK hP 0 rfl rfl 0 (by decide) hw_2 (fun _ h9 => h9) rfl dX0_violations_28 ?_
        refine lv_iload_n hx hb dX0_violations_31 rfl (lv_at hl 1 rfl) ?_
        obtain ⟨h_3, h⟩ := ix_some h
        refine va_iald hx hb hK hP 1 0 rfl rfl h_3 dX0_violations_32 ?_
        refine lv_iload_n hx hb dX0_violations_33 rfl (lv_at hl 3 rfl) ?_
        refine cl_Si0 (As := [.int (g (Int32.toNatClampNeg a1)), .int v3]) (rest := []) ⟨hx, hb, hml, hown, hts⟩ (c_X0_has l D _ (g (Int32.toNatClampNeg a1)) v3) (va_cwS 2 hts gX0_violations_X0_has rfl rfl rfl (by decide +kernel) ⟨Nat.le_of_ble_eq_true rfl, Nat.le_of_ble_eq_true rfl⟩) hK hP hD hS hA rfl rfl hl.1 rfl (lv_room (Nat.le_of_ble_eq_true rfl)) dX0_violations_34 (fun H locs hP hD hS => ?_)
        refine lv_if_eq (tgt := 59) hx hb dX0_violations_37 (by decide) (fun c_4 => ?_) (fun c_4 => ?_)
        · replace h := (if_pos c_4).symm.trans h
          refine lv_iinc (v := (v3 + 1)) (lv' := [(3, .int (v3 + 1)), (0, .ref x0), (1, .int a1), (2, .int v2)]) hx hb dX0_violations_59 hl (k := 3) rfl rfl (by decide) rfl (fun ls hl => ?_)
          refine lv_goto (tgt := 21) hx hb dX0_violations_62 (by decide) ?_
          exact ih v2 (v3 + 1) _ _ _ h hP hD hS (lv_sub hl [1, 2, 3, 0] rfl)
        · replace h := (if_neg c_4).symm.trans h
          refine lv_iload_n hx hb dX0_violations_40 rfl (lv_at hl 2 rfl) ?_
          refine lv_aload_n hx hb dX0_violations_41 rfl (lv_at hl 0 rfl) ?_
          refine va_get (D := D) (ci := 0) (v := .ref x3) (C := RX0) (T := TX0) (N := 16) hx hb hts hin hown hK hP 0 rfl rfl 2 (by decide) hw_3 (fun _ h9 => h9) rfl dX0_violations_42 ?_
          refine lv_iload_n hx hb dX0_violations_45 rfl (lv_at hl 3 rfl) ?_
          obtain ⟨h_5, h⟩ := ix_some h
          refine va_iald hx hb hK hP 3 0 rfl rfl h_5 dX0_violations_46 ?_
          refine lv_aload_n hx hb dX0_violations_47 rfl (lv_at hl 0 rfl) ?_
          refine va_get (D := D) (ci := 0) (v := .ref x1) (C := RX0) (T := TX0) (N := 16) hx hb hts hin hown hK hP 0 rfl rfl 0 (by decide) hw_2 (fun _ h9 => h9) rfl dX0_violations_48 ?_
          refine lv_iload_n hx hb dX0_violations_51 rfl (lv_at hl 1 rfl) ?_
          refine va_iald hx hb hK hP 1 0 rfl rfl h_3 dX0_violations_52 ?_
          refine lv_iand hx hb dX0_violations_53 ?_
          refine cl_Si0 (As := [.int ((op (Int32.toNatClampNeg v3)) &&& (g (Int32.toNatClampNeg a1)))]) (rest := [.int v2]) ⟨hx, hb, hml, hown, hts⟩ (c_J6_bitCount_0f7a4 l D _ ((op (Int32.toNatClampNeg v3)) &&& (g (Int32.toNatClampNeg a1)))) (va_cwS 1 hts gX0_violations_J6_bitCount_0f7a4 rfl rfl rfl (by decide +kernel) ⟨Nat.le_of_ble_eq_true rfl, Nat.le_of_ble_eq_true rfl⟩) hK hP hD hS hA rfl rfl hl.1 rfl (lv_room (Nat.le_of_ble_eq_true rfl)) dX0_violations_54 (fun H locs hP hD hS => ?_)
          refine lv_iadd hx hb dX0_violations_57 ?_
          refine lv_istore_n (lv' := [(2, .int (v2 + (m_J6_bitCount_0f7a4 ((op (Int32.toNatClampNeg v3)) &&& (g (Int32.toNatClampNeg a1)))))), (0, .ref x0), (1, .int a1), (3, .int v3)]) hx hb dX0_violations_58 rfl hl (by decide) rfl (fun ls hl => ?_)
          refine lv_iinc (v := (v3 + 1)) (lv' := [(3, .int (v3 + 1)), (2, .int (v2 + (m_J6_bitCount_0f7a4 ((op (Int32.toNatClampNeg v3)) &&& (g (Int32.toNatClampNeg a1)))))), (0, .ref x0), (1, .int a1)]) hx hb dX0_violations_59 hl (k := 3) rfl rfl (by decide) rfl (fun ls hl => ?_)
          refine lv_goto (tgt := 21) hx hb dX0_violations_62 (by decide) ?_
          exact ih (v2 + (m_J6_bitCount_0f7a4 ((op (Int32.toNatClampNeg v3)) &&& (g (Int32.toNatClampNeg a1))))) (v3 + 1) _ _ _ h hP hD hS (lv_sub hl [2, 3, 1, 0] rfl)
  rw [m_X0_violations] at h
  refine lv_iload_n hx hb dX0_violations_0 rfl (lv_at hl 1 rfl) ?_
  refine cl_Si0 (As := [.int a1]) (rest := []) ⟨hx, hb, hml, hown, hts⟩ (c_X0_isUser l D _ a1) (va_cwS 1 hts gX0_violations_X0_isUser rfl rfl rfl (by decide +kernel) ⟨Nat.le_of_ble_eq_true rfl, Nat.le_of_ble_eq_true rfl⟩) hK hP hD hS hA rfl rfl hl.1 rfl (lv_room (Nat.le_of_ble_eq_true rfl)) dX0_violations_1 (fun H locs hP hD hS => ?_)
  refine lv_if_ne (tgt := 17) hx hb dX0_violations_4 (by decide) (fun c_1 => ?_) (fun c_1 => ?_)
  · replace h := (if_neg c_1).symm.trans h
    refine lv_iconst (v := 0) hx hb dX0_violations_17 (by decide) ?_
    refine lv_istore_n (lv' := [(2, .int 0), (0, .ref x0), (1, .int a1)]) hx hb dX0_violations_18 rfl hl (by decide) rfl (fun ls hl => ?_)
    refine lv_iconst (v := 0) hx hb dX0_violations_19 (by decide) ?_
    refine lv_istore_n (lv' := [(3, .int 0), (2, .int 0), (0, .ref x0), (1, .int a1)]) hx hb dX0_violations_20 rfl hl (by decide) rfl (fun ls hl => ?_)
    exact L21 fu 0 0 _ _ _ h hP hD hS (lv_sub hl [2, 3, 1, 0] rfl)
  · replace h := (if_pos c_1).symm.trans h
    cases h
    obtain ⟨sa, hsa⟩ := hT.2.2.2.1
    exact vx_throwS (sa := sa) (A := A) (text := "no such user") (names := ["java/lang/RuntimeException", "java/lang/Exception"]) hx hb hst hown (by decide +kernel) (by decide +kernel) hw_0 hw_1 hsa (xt_hat (Ts := wsX0_violations) hts (fun w h9 => List.mem_cons_of_mem _ (List.mem_append_right _ h9)) xo_71 hT.1.1 hT.1.2.2.2.1 hT.1.2.2.2.2.1 hT.1.2.2.2.2.2) xg_71 hT.2.1.1 hT.2.1.2 hS (hl.1.trans hml.symm) dX0_violations_7 dX0_violations_10 dX0_violations_11 dX0_violations_13 dX0_violations_16 (fun x h9 => (hnt x h9).elim) (Nat.le_of_ble_eq_true rfl) (Nat.le_of_ble_eq_true rfl) (Nat.le_of_ble_eq_true rfl) (Nat.le_of_ble_eq_true rfl) hlocks (fun t ht hz hk => ⟨(), trivial, ⟨rfl, hP.kept (fun k9 q9 h9 => hk q9.1 (hP k9 q9 h9).lt), va_K.moved ht hK, hD⟩, Nat.le_trans hS.1 hz, fun q9 g1 g2 => (hk q9 (Nat.lt_of_lt_of_le g1 hS.1)).trans (hS.2.1 q9 g1 g2)⟩) hS.2.2 (Nat.le_refl _) (Nat.le_refl _)
-- X0_due
def m_X0_due (fu : Nat) (g : Nat → Int32) (rm : Nat → Int32) (pe : Int32) (qt : Int32) (a1 : Int32) : Option ((String ⊕ Int32)) := (if (m_X0_isUser a1) = 0 then some (.inl "java/lang/IndexOutOfBoundsException") else (bnd1 (m_X0_lapsingIn fu g rm pe (qt + 1) a1) (fun r_2 => some (.inr r_2))))
set_option maxHeartbeats 4000000 in
set_option maxRecDepth 100000 in
theorem c_X0_due (l : Launch) (hst : l.stackTraces = false) (D : va_G) (cI cJ : ClassId) (x0 x1 x2 x3 x4 x5 x6 x7 x8 x9 : Nat) (sz : Nat) (g : Nat → Int32) (rm : Nat → Int32) (op : Nat → Int32) (rc : Int32) (ec : Int32) (su : Int32) (pe : Int32) (qt : Int32) (rs : Nat → Int32) (rn : Int32) (cs : Nat → Int32) (cn : Int32) (lc : Nat → Int64) (hc : Nat → Int64) (lg : Nat → Int64) (hg : Nat → Int64) (fu : Nat) (a1 : Int32) (r0 : String ⊕ Int32) (h : m_X0_due fu g rm pe qt a1 = some r0) : vx_Met l yX0_due wsX0_due ({ frames := 6, cells := 1, slots := 6, locals := 90 }) (va_Pc [.ref x0, .int a1] (bx_PreT D [(cI, .int), (cJ, .long)] (wX cI cJ x0 x1 x2 x3 x4 x5 x6 x7 x8 x9 g rm op rc ec su pe qt rs rn cs cn lc hc lg hg) sz)) (va_Qi (fun (r : Int32) (_ : Unit) => r0 = Sum.inr r) (fun (_ : Unit) t => bx_Post D [(cI, .int), (cJ, .long)] (wX cI cJ x0 x1 x2 x3 x4 x5 x6 x7 x8 x9 g rm op rc ec su pe qt rs rn cs cn lc hc lg hg) (va_A (wX cI cJ x0 x1 x2 x3 x4 x5 x6 x7 x8 x9 g rm op rc ec su pe qt rs rn cs cn lc hc lg hg) sz) t) (va_A (wX cI cJ x0 x1 x2 x3 x4 x5 x6 x7 x8 x9 g rm op rc ec su pe qt rs rn cs cn lc hc lg hg) sz)) (vx_X (fun (_ : Unit) => True) (fun E (_ : Unit) t => r0 = Sum.inl E ∧ bx_Post D [(cI, .int), (cJ, .long)] (wX cI cJ x0 x1 x2 x3 x4 x5 x6 x7 x8 x9 g rm op rc ec su pe qt rs rn cs cn lc hc lg hg) (va_A (wX cI cJ x0 x1 x2 x3 x4 x5 x6 x7 x8 x9 g rm op rc ec su pe qt rs rn cs cn lc hc lg hg) sz) t) (va_A (wX cI cJ x0 x1 x2 x3 x4 x5 x6 x7 x8 x9 g rm op rc ec su pe qt rs rn cs cn lc hc lg hg) sz)) 1 6 (va_A (wX cI cJ x0 x1 x2 x3 x4 x5 x6 x7 x8 x9 g rm op rc ec su pe qt rs rn cs cn lc hc lg hg) sz) := by
  refine vx_ofW (cc := cX0_due) (maxL := 2) (ret := (some .int)) (by decide) rfl ?_
  intro p e s m args below meth c s₁ B hml hnt hv
  obtain ⟨rfl, hsz, hP, hK, hD0, hT⟩ := hv
  have hx := B.exec
  have hb := B.bytes
  have hr := B.returns
  have hts := atoms_spec (ws := wsX0_due) B.pre
  have hown : s.vm.findClass RX0 = some m.cls := findClass_of_methodNamed B.named
  have hlocks := B.notSynchronized
  subst hsz
  have hD := hD0.self (sz := s.heap.size)
  generalize hAe : va_A (wX cI cJ x0 x1 x2 x3 x4 x5 x6 x7 x8 x9 g rm op rc ec su pe qt rs rn cs cn lc hc lg hg) s.heap.size = A at hD hT ⊢
  have hA : ∀ q : Nat, s.heap.size ≤ q → A q := fun q h9 => by rw [← hAe]; exact Or.inr h9
  have hS : va_S A s.heap s.heap [] := va_S.rf
  have hin : ∀ w ∈ wsX00, w ∈ wsX0_due := fun _ h9 => List.mem_cons_of_mem _ (List.mem_append_left _ (List.mem_append_right _ h9))
  have hw_0 := hts (.fieldLink RX0 32 "RoleMiner" "quarter" "I") (by decide +kernel)
  have hw_1 := hts (.classLink RX0 67 "java/lang/IndexOutOfBoundsException") (by decide +kernel)
  have hw_2 := hts (.initialized "java/lang/IndexOutOfBoundsException") (by decide +kernel)
  have hl := lv_entry ([.ref x0, .int a1]) (n := 2) (Nat.le_of_ble_eq_true rfl)
  rw [lg_entry_eq]
  generalize (lg_sl ([.ref x0, .int a1]) ++ List.replicate (2 - (lg_sl ([.ref x0, .int a1])).length) Slot.unset).toArray = ls at hl ⊢
  have hl : lv_has ls 2 [(0, .ref x0), (1, .int a1)] := hl
  rw [m_X0_due] at h
  refine lv_iload_n hx hb dX0_due_0 rfl (lv_at hl 1 rfl) ?_
  refine cl_Si0 (As := [.int a1]) (rest := []) ⟨hx, hb, hml, hown, hts⟩ (c_X0_isUser l D _ a1) (va_cwS 1 hts gX0_due_X0_isUser rfl rfl rfl (by decide +kernel) ⟨Nat.le_of_ble_eq_true rfl, Nat.le_of_ble_eq_true rfl⟩) hK hP hD hS hA rfl rfl hl.1 rfl (lv_room (Nat.le_of_ble_eq_true rfl)) dX0_due_1 (fun H locs hP hD hS => ?_)
  refine lv_if_ne (tgt := 17) hx hb dX0_due_4 (by decide) (fun c_1 => ?_) (fun c_1 => ?_)
  · replace h := (if_neg c_1).symm.trans h
    refine lv_aload_n hx hb dX0_due_17 rfl (lv_at hl 0 rfl) ?_
    refine lv_aload_n hx hb dX0_due_18 rfl (lv_at hl 0 rfl) ?_
    refine va_get (D := D) (ci := 0) (v := .int qt) (C := RX0) (T := TX0) (N := 16) hx hb hts hin hown hK hP 0 rfl rfl 7 (by decide) hw_0 (fun _ h9 => h9) rfl dX0_due_19 ?_
    refine lv_iconst (v := 1) hx hb dX0_due_22 (by decide) ?_
    refine lv_iadd hx hb dX0_due_23 ?_
    refine lv_iload_n hx hb dX0_due_24 rfl (lv_at hl 1 rfl) ?_
    obtain ⟨r_2, e_3, h⟩ := bnd1_some h
    refine cl_Vi (As := [.int (qt + 1), .int a1]) (rest := []) (wc := wX cI cJ x0 x1 x2 x3 x4 x5 x6 x7 x8 x9 g rm op rc ec su pe qt rs rn cs cn lc hc lg hg) (w1 := wX cI cJ x0 x1 x2 x3 x4 x5 x6 x7 x8 x9 g rm op rc ec su pe qt rs rn cs cn lc hc lg hg) (wr := []) ⟨hx, hb, hml, hown, hts⟩ (c_X0_lapsingIn l D cI cJ x0 x1 x2 x3 x4 x5 x6 x7 x8 x9 _ g rm op rc ec su pe qt rs rn cs cn lc hc lg hg fu (qt + 1) a1 r_2 e_3) (cwV 2 hts gX0_due_X0_lapsingIn rfl rfl rfl (by decide +kernel) ⟨Nat.le_of_ble_eq_true rfl, Nat.le_of_ble_eq_true rfl⟩) hK hP hD hS hA [0, 1, 2, 3, 4, 5, 6, 7, 8, 9] [] rfl rfl (by decide) (by decide) rfl rfl rfl rfl rfl hl.1 rfl (lv_room (Nat.le_of_ble_eq_true rfl)) dX0_due_25 (fun H locs hP hD hS => ?_)
    have hP : va_P D vwCl (wX cI cJ x0 x1 x2 x3 x4 x5 x6 x7 x8 x9 g rm op rc ec su pe qt rs rn cs cn lc hc lg hg) H := hP
    have hD : va_D A (wX cI cJ x0 x1 x2 x3 x4 x5 x6 x7 x8 x9 g rm op rc ec su pe qt rs rn cs cn lc hc lg hg) := hD
    cases h
    refine vx_ret ?_
    refine W.widen (k := 1) (n := 6) (Nat.zero_le _) (Nat.zero_le _) ?_
    exact W.iret hx hb hr (fun t ht hW => ⟨⟨_, (), rfl, rfl, by rw [ht]; exact hP, va_K.moved hW.alike hK, hD⟩, hS.F ht⟩) hS.2.2 dX0_due_28
  · replace h := (if_pos c_1).symm.trans h
    cases h
    obtain ⟨sa, hsa⟩ := hT.2.2.2.1
    exact vx_throwS (sa := sa) (A := A) (text := "no such user") (names := ["java/lang/RuntimeException", "java/lang/Exception"]) hx hb hst hown (by decide +kernel) (by decide +kernel) hw_1 hw_2 hsa (xt_hat (Ts := wsX0_due) hts (fun w h9 => List.mem_cons_of_mem _ (List.mem_append_right _ h9)) xo_71 hT.1.1 hT.1.2.2.2.1 hT.1.2.2.2.2.1 hT.1.2.2.2.2.2) xg_71 hT.2.1.1 hT.2.1.2 hS (hl.1.trans hml.symm) dX0_due_7 dX0_due_10 dX0_due_11 dX0_due_13 dX0_due_16 (fun x h9 => (hnt x h9).elim) (Nat.le_of_ble_eq_true rfl) (Nat.le_of_ble_eq_true rfl) (Nat.le_of_ble_eq_true rfl) (Nat.le_of_ble_eq_true rfl) hlocks (fun t ht hz hk => ⟨(), trivial, ⟨rfl, hP.kept (fun k9 q9 h9 => hk q9.1 (hP k9 q9 h9).lt), va_K.moved ht hK, hD⟩, Nat.le_trans hS.1 hz, fun q9 g1 g2 => (hk q9 (Nat.lt_of_lt_of_le g1 hS.1)).trans (hS.2.1 q9 g1 g2)⟩) hS.2.2 (Nat.le_refl _) (Nat.le_refl _)
-- X0_candidate
def m_X0_candidate (fu : Nat) (g : Nat → Int32) (op : Nat → Int32) (su : Int32) (cs : Nat → Int32) (cn : Int32) (lc : Nat → Int64) (hc : Nat → Int64) (lg : Nat → Int64) (hg : Nat → Int64) (a1 : Int32) : Option ((String ⊕ Int32) × ((Nat → Int32)) × ((Int32)) × ((Nat → Int64)) × ((Nat → Int64)) × ((Nat → Int64)) × ((Nat → Int64))) := (bnd6 (m_X0_findCandidates fu g op su cs cn lc hc lg hg) (fun cs_1 cn_2 lc_3 hc_4 lg_5 hg_6 => (if a1 < 0 then some (.inl "java/lang/IndexOutOfBoundsException", cs_1, cn_2, lc_3, hc_4, lg_5, hg_6) else (if a1 < cn_2 then (ix a1 255 (some (.inr (cs_1 (Int32.toNatClampNeg a1)), cs_1, cn_2, lc_3, hc_4, lg_5, hg_6))) else some (.inl "java/lang/IndexOutOfBoundsException", cs_1, cn_2, lc_3, hc_4, lg_5, hg_6)))))
set_option maxHeartbeats 4000000 in
set_option maxRecDepth 100000 in
theorem c_X0_candidate (l : Launch) (hst : l.stackTraces = false) (D : va_G) (cI cJ : ClassId) (x0 x1 x2 x3 x4 x5 x6 x7 x8 x9 : Nat) (sz : Nat) (g : Nat → Int32) (rm : Nat → Int32) (op : Nat → Int32) (rc : Int32) (ec : Int32) (su : Int32) (pe : Int32) (qt : Int32) (rs : Nat → Int32) (rn : Int32) (cs : Nat → Int32) (cn : Int32) (lc : Nat → Int64) (hc : Nat → Int64) (lg : Nat → Int64) (hg : Nat → Int64) (fu : Nat) (a1 : Int32) (r0 : String ⊕ Int32) (cs' : Nat → Int32) (cn' : Int32) (lc' : Nat → Int64) (hc' : Nat → Int64) (lg' : Nat → Int64) (hg' : Nat → Int64) (h : m_X0_candidate fu g op su cs cn lc hc lg hg a1 = some (r0, cs', cn', lc', hc', lg', hg')) : vx_Met l yX0_candidate wsX0_candidate ({ frames := 6, cells := 1, slots := 6, locals := 90 }) (va_Pc [.ref x0, .int a1] (bx_PreT D [(cI, .int), (cJ, .long)] (wX cI cJ x0 x1 x2 x3 x4 x5 x6 x7 x8 x9 g rm op rc ec su pe qt rs rn cs cn lc hc lg hg) sz)) (va_Qi (fun (r : Int32) (_ : Unit) => r0 = Sum.inr r) (fun (_ : Unit) t => bx_Post D [(cI, .int), (cJ, .long)] (wX cI cJ x0 x1 x2 x3 x4 x5 x6 x7 x8 x9 g rm op rc ec su pe qt rs rn cs' cn' lc' hc' lg' hg') (va_A (wX cI cJ x0 x1 x2 x3 x4 x5 x6 x7 x8 x9 g rm op rc ec su pe qt rs rn cs cn lc hc lg hg) sz) t) (va_A (wX cI cJ x0 x1 x2 x3 x4 x5 x6 x7 x8 x9 g rm op rc ec su pe qt rs rn cs cn lc hc lg hg) sz)) (vx_X (fun (_ : Unit) => True) (fun E (_ : Unit) t => r0 = Sum.inl E ∧ bx_Post D [(cI, .int), (cJ, .long)] (wX cI cJ x0 x1 x2 x3 x4 x5 x6 x7 x8 x9 g rm op rc ec su pe qt rs rn cs' cn' lc' hc' lg' hg') (va_A (wX cI cJ x0 x1 x2 x3 x4 x5 x6 x7 x8 x9 g rm op rc ec su pe qt rs rn cs cn lc hc lg hg) sz) t) (va_A (wX cI cJ x0 x1 x2 x3 x4 x5 x6 x7 x8 x9 g rm op rc ec su pe qt rs rn cs cn lc hc lg hg) sz)) 1 6 (va_A (wX cI cJ x0 x1 x2 x3 x4 x5 x6 x7 x8 x9 g rm op rc ec su pe qt rs rn cs cn lc hc lg hg) sz) := by
  refine vx_ofW (cc := cX0_candidate) (maxL := 2) (ret := (some .int)) (by decide) rfl ?_
  intro p e s m args below meth c s₁ B hml hnt hv
  obtain ⟨rfl, hsz, hP, hK, hD0, hT⟩ := hv
  have hx := B.exec
  have hb := B.bytes
  have hr := B.returns
  have hts := atoms_spec (ws := wsX0_candidate) B.pre
  have hown : s.vm.findClass RX0 = some m.cls := findClass_of_methodNamed B.named
  have hlocks := B.notSynchronized
  subst hsz
  have hD := hD0.self (sz := s.heap.size)
  generalize hAe : va_A (wX cI cJ x0 x1 x2 x3 x4 x5 x6 x7 x8 x9 g rm op rc ec su pe qt rs rn cs cn lc hc lg hg) s.heap.size = A at hD hT ⊢
  have hA : ∀ q : Nat, s.heap.size ≤ q → A q := fun q h9 => by rw [← hAe]; exact Or.inr h9
  have hS : va_S A s.heap s.heap [] := va_S.rf
  have hin : ∀ w ∈ wsX00, w ∈ wsX0_candidate := fun _ h9 => List.mem_cons_of_mem _ (List.mem_append_left _ (List.mem_append_right _ h9))
  have hw_0 := hts (.classLink RX0 67 "java/lang/IndexOutOfBoundsException") (by decide +kernel)
  have hw_1 := hts (.initialized "java/lang/IndexOutOfBoundsException") (by decide +kernel)
  have hw_2 := hts (.fieldLink RX0 44 "RoleMiner" "candidateCount" "I") (by decide +kernel)
  have hw_3 := hts (.fieldLink RX0 41 "RoleMiner" "candidateSets" "[I") (by decide +kernel)
  have hl := lv_entry ([.ref x0, .int a1]) (n := 2) (Nat.le_of_ble_eq_true rfl)
  rw [lg_entry_eq]
  generalize (lg_sl ([.ref x0, .int a1]) ++ List.replicate (2 - (lg_sl ([.ref x0, .int a1])).length) Slot.unset).toArray = ls at hl ⊢
  have hl : lv_has ls 2 [(0, .ref x0), (1, .int a1)] := hl
  rw [m_X0_candidate] at h
  refine lv_aload_n hx hb dX0_candidate_0 rfl (lv_at hl 0 rfl) ?_
  obtain ⟨cs_1, cn_2, lc_3, hc_4, lg_5, hg_6, e_7, h⟩ := bnd6_some h
  refine cl_Vv (As := []) (rest := []) (wc := wX cI cJ x0 x1 x2 x3 x4 x5 x6 x7 x8 x9 g rm op rc ec su pe qt rs rn cs cn lc hc lg hg) (w1 := wX cI cJ x0 x1 x2 x3 x4 x5 x6 x7 x8 x9 g rm op rc ec su pe qt rs rn cs_1 cn_2 lc_3 hc_4 lg_5 hg_6) (wr := []) ⟨hx, hb, hml, hown, hts⟩ (c_X0_findCandidates l D cI cJ x0 x1 x2 x3 x4 x5 x6 x7 x8 x9 _ g rm op rc ec su pe qt rs rn cs cn lc hc lg hg fu  cs_1 cn_2 lc_3 hc_4 lg_5 hg_6 e_7) (cwV 0 hts gX0_candidate_X0_findCandidates rfl rfl rfl (by decide +kernel) ⟨Nat.le_of_ble_eq_true rfl, Nat.le_of_ble_eq_true rfl⟩) hK hP hD hS hA [0, 1, 2, 3, 4, 5, 6, 7, 8, 9] [] rfl rfl (by decide) (by decide) rfl rfl rfl rfl rfl hl.1 rfl (lv_room (Nat.le_of_ble_eq_true rfl)) dX0_candidate_1 (fun H locs hP hD hS => ?_)
  have hP : va_P D vwCl (wX cI cJ x0 x1 x2 x3 x4 x5 x6 x7 x8 x9 g rm op rc ec su pe qt rs rn cs_1 cn_2 lc_3 hc_4 lg_5 hg_6) H := hP
  have hD : va_D A (wX cI cJ x0 x1 x2 x3 x4 x5 x6 x7 x8 x9 g rm op rc ec su pe qt rs rn cs_1 cn_2 lc_3 hc_4 lg_5 hg_6) := hD
  refine lv_iload_n hx hb dX0_candidate_4 rfl (lv_at hl 1 rfl) ?_
  refine lv_if_lt (tgt := 16) hx hb dX0_candidate_5 (by decide) (fun c_8 => ?_) (fun c_8 => ?_)
  · replace h := (if_pos c_8).symm.trans h
    cases h
    obtain ⟨sa, hsa⟩ := hT.2.2.2.2.2.2.2.2.2.2.2.2.2.1
    exact vx_throwS (sa := sa) (A := A) (text := "no such candidate") (names := ["java/lang/RuntimeException", "java/lang/Exception"]) hx hb hst hown (by decide +kernel) (by decide +kernel) hw_0 hw_1 hsa (xt_hat (Ts := wsX0_candidate) hts (fun w h9 => List.mem_cons_of_mem _ (List.mem_append_right _ h9)) xo_71 hT.1.1 hT.1.2.2.2.1 hT.1.2.2.2.2.1 hT.1.2.2.2.2.2) xg_71 hT.2.1.1 hT.2.1.2 hS (hl.1.trans hml.symm) dX0_candidate_16 dX0_candidate_19 dX0_candidate_20 dX0_candidate_22 dX0_candidate_25 (fun x h9 => (hnt x h9).elim) (Nat.le_of_ble_eq_true rfl) (Nat.le_of_ble_eq_true rfl) (Nat.le_of_ble_eq_true rfl) (Nat.le_of_ble_eq_true rfl) hlocks (fun t ht hz hk => ⟨(), trivial, ⟨rfl, hP.kept (fun k9 q9 h9 => hk q9.1 (hP k9 q9 h9).lt), va_K.moved ht hK, hD⟩, Nat.le_trans hS.1 hz, fun q9 g1 g2 => (hk q9 (Nat.lt_of_lt_of_le g1 hS.1)).trans (hS.2.1 q9 g1 g2)⟩) hS.2.2 (Nat.le_refl _) (Nat.le_refl _)
  · replace h := (if_neg c_8).symm.trans h
    refine lv_iload_n hx hb dX0_candidate_8 rfl (lv_at hl 1 rfl) ?_
    refine lv_aload_n hx hb dX0_candidate_9 rfl (lv_at hl 0 rfl) ?_
    refine va_get (D := D) (ci := 0) (v := .int cn_2) (C := RX0) (T := TX0) (N := 16) hx hb hts hin hown hK hP 0 rfl rfl 11 (by decide) hw_2 (fun _ h9 => h9) rfl dX0_candidate_10 ?_
    refine lv_icmp_lt (tgt := 26) hx hb dX0_candidate_13 (by decide) (fun c_9 => ?_) (fun c_9 => ?_)
    · replace h := (if_pos c_9).symm.trans h
      refine lv_aload_n hx hb dX0_candidate_26 rfl (lv_at hl 0 rfl) ?_
      refine va_get (D := D) (ci := 0) (v := .ref x5) (C := RX0) (T := TX0) (N := 16) hx hb hts hin hown hK hP 0 rfl rfl 10 (by decide) hw_3 (fun _ h9 => h9) rfl dX0_candidate_27 ?_
      refine lv_iload_n hx hb dX0_candidate_30 rfl (lv_at hl 1 rfl) ?_
      obtain ⟨h_10, h⟩ := ix_some h
      refine va_iald hx hb hK hP 5 0 rfl rfl h_10 dX0_candidate_31 ?_
      cases h
      refine vx_ret ?_
      refine W.widen (k := 1) (n := 6) (Nat.zero_le _) (Nat.zero_le _) ?_
      exact W.iret hx hb hr (fun t ht hW => ⟨⟨_, (), rfl, rfl, by rw [ht]; exact hP, va_K.moved hW.alike hK, hD⟩, hS.F ht⟩) hS.2.2 dX0_candidate_32
    · replace h := (if_neg c_9).symm.trans h
      cases h
      obtain ⟨sa, hsa⟩ := hT.2.2.2.2.2.2.2.2.2.2.2.2.2.1
      exact vx_throwS (sa := sa) (A := A) (text := "no such candidate") (names := ["java/lang/RuntimeException", "java/lang/Exception"]) hx hb hst hown (by decide +kernel) (by decide +kernel) hw_0 hw_1 hsa (xt_hat (Ts := wsX0_candidate) hts (fun w h9 => List.mem_cons_of_mem _ (List.mem_append_right _ h9)) xo_71 hT.1.1 hT.1.2.2.2.1 hT.1.2.2.2.2.1 hT.1.2.2.2.2.2) xg_71 hT.2.1.1 hT.2.1.2 hS (hl.1.trans hml.symm) dX0_candidate_16 dX0_candidate_19 dX0_candidate_20 dX0_candidate_22 dX0_candidate_25 (fun x h9 => (hnt x h9).elim) (Nat.le_of_ble_eq_true rfl) (Nat.le_of_ble_eq_true rfl) (Nat.le_of_ble_eq_true rfl) (Nat.le_of_ble_eq_true rfl) hlocks (fun t ht hz hk => ⟨(), trivial, ⟨rfl, hP.kept (fun k9 q9 h9 => hk q9.1 (hP k9 q9 h9).lt), va_K.moved ht hK, hD⟩, Nat.le_trans hS.1 hz, fun q9 g1 g2 => (hk q9 (Nat.lt_of_lt_of_le g1 hS.1)).trans (hS.2.1 q9 g1 g2)⟩) hS.2.2 (Nat.le_refl _) (Nat.le_refl _)
-- X0_holders
def m_X0_holders (fu : Nat) (g : Nat → Int32) (a1 : Int32) : Option ((String ⊕ Int32)) := (if (m_X0_isPermissionSet a1) = 0 then some (.inl "java/lang/IllegalArgumentException") else (bnd1 (m_X0_holdersOf fu g a1) (fun r_2 => some (.inr r_2))))
set_option maxHeartbeats 4000000 in
set_option maxRecDepth 100000 in
theorem c_X0_holders (l : Launch) (hst : l.stackTraces = false) (D : va_G) (cI cJ : ClassId) (x0 x1 x2 x3 x4 x5 x6 x7 x8 x9 : Nat) (sz : Nat) (g : Nat → Int32) (rm : Nat → Int32) (op : Nat → Int32) (rc : Int32) (ec : Int32) (su : Int32) (pe : Int32) (qt : Int32) (rs : Nat → Int32) (rn : Int32) (cs : Nat → Int32) (cn : Int32) (lc : Nat → Int64) (hc : Nat → Int64) (lg : Nat → Int64) (hg : Nat → Int64) (fu : Nat) (a1 : Int32) (r0 : String ⊕ Int32) (h : m_X0_holders fu g a1 = some r0) : vx_Met l yX0_holders wsX0_holders ({ frames := 6, cells := 1, slots := 6, locals := 90 }) (va_Pc [.ref x0, .int a1] (bx_PreT D [(cI, .int), (cJ, .long)] (wX cI cJ x0 x1 x2 x3 x4 x5 x6 x7 x8 x9 g rm op rc ec su pe qt rs rn cs cn lc hc lg hg) sz)) (va_Qi (fun (r : Int32) (_ : Unit) => r0 = Sum.inr r) (fun (_ : Unit) t => bx_Post D [(cI, .int), (cJ, .long)] (wX cI cJ x0 x1 x2 x3 x4 x5 x6 x7 x8 x9 g rm op rc ec su pe qt rs rn cs cn lc hc lg hg) (va_A (wX cI cJ x0 x1 x2 x3 x4 x5 x6 x7 x8 x9 g rm op rc ec su pe qt rs rn cs cn lc hc lg hg) sz) t) (va_A (wX cI cJ x0 x1 x2 x3 x4 x5 x6 x7 x8 x9 g rm op rc ec su pe qt rs rn cs cn lc hc lg hg) sz)) (vx_X (fun (_ : Unit) => True) (fun E (_ : Unit) t => r0 = Sum.inl E ∧ bx_Post D [(cI, .int), (cJ, .long)] (wX cI cJ x0 x1 x2 x3 x4 x5 x6 x7 x8 x9 g rm op rc ec su pe qt rs rn cs cn lc hc lg hg) (va_A (wX cI cJ x0 x1 x2 x3 x4 x5 x6 x7 x8 x9 g rm op rc ec su pe qt rs rn cs cn lc hc lg hg) sz) t) (va_A (wX cI cJ x0 x1 x2 x3 x4 x5 x6 x7 x8 x9 g rm op rc ec su pe qt rs rn cs cn lc hc lg hg) sz)) 1 6 (va_A (wX cI cJ x0 x1 x2 x3 x4 x5 x6 x7 x8 x9 g rm op rc ec su pe qt rs rn cs cn lc hc lg hg) sz) := by
  refine vx_ofW (cc := cX0_holders) (maxL := 2) (ret := (some .int)) (by decide) rfl ?_
  intro p e s m args below meth c s₁ B hml hnt hv
  obtain ⟨rfl, hsz, hP, hK, hD0, hT⟩ := hv
  have hx := B.exec
  have hb := B.bytes
  have hr := B.returns
  have hts := atoms_spec (ws := wsX0_holders) B.pre
  have hown : s.vm.findClass RX0 = some m.cls := findClass_of_methodNamed B.named
  have hlocks := B.notSynchronized
  subst hsz
  have hD := hD0.self (sz := s.heap.size)
  generalize hAe : va_A (wX cI cJ x0 x1 x2 x3 x4 x5 x6 x7 x8 x9 g rm op rc ec su pe qt rs rn cs cn lc hc lg hg) s.heap.size = A at hD hT ⊢
  have hA : ∀ q : Nat, s.heap.size ≤ q → A q := fun q h9 => by rw [← hAe]; exact Or.inr h9
  have hS : va_S A s.heap s.heap [] := va_S.rf
  have hin : ∀ w ∈ wsX00, w ∈ wsX0_holders := fun _ h9 => List.mem_cons_of_mem _ (List.mem_append_left _ (List.mem_append_right _ h9))
  have hw_0 := hts (.classLink RX0 87 "java/lang/IllegalArgumentException") (by decide +kernel)
  have hw_1 := hts (.initialized "java/lang/IllegalArgumentException") (by decide +kernel)
  have hl := lv_entry ([.ref x0, .int a1]) (n := 2) (Nat.le_of_ble_eq_true rfl)
  rw [lg_entry_eq]
  generalize (lg_sl ([.ref x0, .int a1]) ++ List.replicate (2 - (lg_sl ([.ref x0, .int a1])).length) Slot.unset).toArray = ls at hl ⊢
  have hl : lv_has ls 2 [(0, .ref x0), (1, .int a1)] := hl
  rw [m_X0_holders] at h
  refine lv_iload_n hx hb dX0_holders_0 rfl (lv_at hl 1 rfl) ?_
  refine cl_Si0 (As := [.int a1]) (rest := []) ⟨hx, hb, hml, hown, hts⟩ (c_X0_isPermissionSet l D _ a1) (va_cwS 1 hts gX0_holders_X0_isPermissionSet rfl rfl rfl (by decide +kernel) ⟨Nat.le_of_ble_eq_true rfl, Nat.le_of_ble_eq_true rfl⟩) hK hP hD hS hA rfl rfl hl.1 rfl (lv_room (Nat.le_of_ble_eq_true rfl)) dX0_holders_1 (fun H locs hP hD hS => ?_)
  refine lv_if_ne (tgt := 17) hx hb dX0_holders_4 (by decide) (fun c_1 => ?_) (fun c_1 => ?_)
  · replace h := (if_neg c_1).symm.trans h
    refine lv_aload_n hx hb dX0_holders_17 rfl (lv_at hl 0 rfl) ?_
    refine lv_iload_n hx hb dX0_holders_18 rfl (lv_at hl 1 rfl) ?_
    obtain ⟨r_2, e_3, h⟩ := bnd1_some h
    refine cl_Vi (As := [.int a1]) (rest := []) (wc := wX cI cJ x0 x1 x2 x3 x4 x5 x6 x7 x8 x9 g rm op rc ec su pe qt rs rn cs cn lc hc lg hg) (w1 := wX cI cJ x0 x1 x2 x3 x4 x5 x6 x7 x8 x9 g rm op rc ec su pe qt rs rn cs cn lc hc lg hg) (wr := []) ⟨hx, hb, hml, hown, hts⟩ (c_X0_holdersOf l D cI cJ x0 x1 x2 x3 x4 x5 x6 x7 x8 x9 _ g rm op rc ec su pe qt rs rn cs cn lc hc lg hg fu a1 r_2 e_3) (cwV 1 hts gX0_holders_X0_holdersOf rfl rfl rfl (by decide +kernel) ⟨Nat.le_of_ble_eq_true rfl, Nat.le_of_ble_eq_true rfl⟩) hK hP hD hS hA [0, 1, 2, 3, 4, 5, 6, 7, 8, 9] [] rfl rfl (by decide) (by decide) rfl rfl rfl rfl rfl hl.1 rfl (lv_room (Nat.le_of_ble_eq_true rfl)) dX0_holders_19 (fun H locs hP hD hS => ?_)
    have hP : va_P D vwCl (wX cI cJ x0 x1 x2 x3 x4 x5 x6 x7 x8 x9 g rm op rc ec su pe qt rs rn cs cn lc hc lg hg) H := hP
    have hD : va_D A (wX cI cJ x0 x1 x2 x3 x4 x5 x6 x7 x8 x9 g rm op rc ec su pe qt rs rn cs cn lc hc lg hg) := hD
    cases h
    refine vx_ret ?_
    refine W.widen (k := 1) (n := 6) (Nat.zero_le _) (Nat.zero_le _) ?_
    exact W.iret hx hb hr (fun t ht hW => ⟨⟨_, (), rfl, rfl, by rw [ht]; exact hP, va_K.moved hW.alike hK, hD⟩, hS.F ht⟩) hS.2.2 dX0_holders_22
  · replace h := (if_pos c_1).symm.trans h
    cases h
    obtain ⟨sa, hsa⟩ := hT.2.2.2.2.1
    exact vx_throwS (sa := sa) (A := A) (text := "permissions is not 0 to 4095") (names := ["java/lang/RuntimeException", "java/lang/Exception"]) hx hb hst hown (by decide +kernel) (by decide +kernel) hw_0 hw_1 hsa (xt_hat (Ts := wsX0_holders) hts (fun w h9 => List.mem_cons_of_mem _ (List.mem_append_right _ h9)) xo_91 hT.1.2.1 hT.1.2.2.2.1 hT.1.2.2.2.2.1 hT.1.2.2.2.2.2) xg_91 hT.2.1.1 hT.2.1.2 hS (hl.1.trans hml.symm) dX0_holders_7 dX0_holders_10 dX0_holders_11 dX0_holders_13 dX0_holders_16 (fun x h9 => (hnt x h9).elim) (Nat.le_of_ble_eq_true rfl) (Nat.le_of_ble_eq_true rfl) (Nat.le_of_ble_eq_true rfl) (Nat.le_of_ble_eq_true rfl) hlocks (fun t ht hz hk => ⟨(), trivial, ⟨rfl, hP.kept (fun k9 q9 h9 => hk q9.1 (hP k9 q9 h9).lt), va_K.moved ht hK, hD⟩, Nat.le_trans hS.1 hz, fun q9 g1 g2 => (hk q9 (Nat.lt_of_lt_of_le g1 hS.1)).trans (hS.2.1 q9 g1 g2)⟩) hS.2.2 (Nat.le_refl _) (Nat.le_refl _)
-- X0_costOf
def m_X0_costOf (fu : Nat) (g : Nat → Int32) (op : Nat → Int32) (rc : Int32) (ec : Int32) (su : Int32) (cs : Nat → Int32) (cn : Int32) (lc : Nat → Int64) (hc : Nat → Int64) (lg : Nat → Int64) (hg : Nat → Int64) (a1 : Int32) : Option ((String ⊕ Int32) × ((Nat → Int32)) × ((Int32)) × ((Nat → Int64)) × ((Nat → Int64)) × ((Nat → Int64)) × ((Nat → Int64))) := (bnd6 (m_X0_findCandidates fu g op su cs cn lc hc lg hg) (fun cs_1 cn_2 lc_3 hc_4 lg_5 hg_6 => (if cn_2 ≤ 14 then (if a1 < 0 then some (.inl "java/lang/IllegalArgumentException", cs_1, cn_2, lc_3, hc_4, lg_5, hg_6) else (if a1 < (1 <<< (cn_2 &&& 31)) then (bnd1 (m_X0_costOfChoice fu rc ec cn_2 lc_3 hc_4 lg_5 hg_6 a1) (fun r_11 => some (.inr r_11, cs_1, cn_2, lc_3, hc_4, lg_5, hg_6))) else some (.inl "java/lang/IllegalArgumentException", cs_1, cn_2, lc_3, hc_4, lg_5, hg_6))) else some (.inl "java/lang/IllegalStateException", cs_1, cn_2, lc_3, hc_4, lg_5, hg_6))))
set_option maxHeartbeats 4000000 in
set_option maxRecDepth 100000 in
theorem c_X0_costOf (l : Launch) (hst : l.stackTraces = false) (D : va_G) (cI cJ : ClassId) (x0 x1 x2 x3 x4 x5 x6 x7 x8 x9 : Nat) (sz : Nat) (g : Nat → Int32) (rm : Nat → Int32) (op : Nat → Int32) (rc : Int32) (ec : Int32) (su : Int32) (pe : Int32) (qt : Int32) (rs : Nat → Int32) (rn : Int32) (cs : Nat → Int32) (cn : Int32) (lc : Nat → Int64) (hc : Nat → Int64) (lg : Nat → Int64) (hg : Nat → Int64) (fu : Nat) (a1 : Int32) (r0 : String ⊕ Int32) (cs' : Nat → Int32) (cn' : Int32) (lc' : Nat → Int64) (hc' : Nat → Int64) (lg' : Nat → Int64) (hg' : Nat → Int64) (h : m_X0_costOf fu g op rc ec su cs cn lc hc lg hg a1 = some (r0, cs', cn', lc', hc', lg', hg')) : vx_Met l yX0_costOf wsX0_costOf ({ frames := 6, cells := 1, slots := 6, locals := 90 }) (va_Pc [.ref x0, .int a1] (bx_PreT D [(cI, .int), (cJ, .long)] (wX cI cJ x0 x1 x2 x3 x4 x5 x6 x7 x8 x9 g rm op rc ec su pe qt rs rn cs cn lc hc lg hg) sz)) (va_Qi (fun (r : Int32) (_ : Unit) => r0 = Sum.inr r) (fun (_ : Unit) t => bx_Post D [(cI, .int), (cJ, .long)] (wX cI cJ x0 x1 x2 x3 x4 x5 x6 x7 x8 x9 g rm op rc ec su pe qt rs rn cs' cn' lc' hc' lg' hg') (va_A (wX cI cJ x0 x1 x2 x3 x4 x5 x6 x7 x8 x9 g rm op rc ec su pe qt rs rn cs cn lc hc lg hg) sz) t) (va_A (wX cI cJ x0 x1 x2 x3 x4 x5 x6 x7 x8 x9 g rm op rc ec su pe qt rs rn cs cn lc hc lg hg) sz)) (vx_X (fun (_ : Unit) => True) (fun E (_ : Unit) t => r0 = Sum.inl E ∧ bx_Post D [(cI, .int), (cJ, .long)] (wX cI cJ x0 x1 x2 x3 x4 x5 x6 x7 x8 x9 g rm op rc ec su pe qt rs rn cs' cn' lc' hc' lg' hg') (va_A (wX cI cJ x0 x1 x2 x3 x4 x5 x6 x7 x8 x9 g rm op rc ec su pe qt rs rn cs cn lc hc lg hg) sz) t) (va_A (wX cI cJ x0 x1 x2 x3 x4 x5 x6 x7 x8 x9 g rm op rc ec su pe qt rs rn cs cn lc hc lg hg) sz)) 1 6 (va_A (wX cI cJ x0 x1 x2 x3 x4 x5 x6 x7 x8 x9 g rm op rc ec su pe qt rs rn cs cn lc hc lg hg) sz) := by
  refine vx_ofW (cc := cX0_costOf) (maxL := 2) (ret := (some .int)) (by decide) rfl ?_
  intro p e s m args below meth c s₁ B hml hnt hv
  obtain ⟨rfl, hsz, hP, hK, hD0, hT⟩ := hv
  have hx := B.exec
  have hb := B.bytes
  have hr := B.returns
  have hts := atoms_spec (ws := wsX0_costOf) B.pre
  have hown : s.vm.findClass RX0 = some m.cls := findClass_of_methodNamed B.named
  have hlocks := B.notSynchronized
  subst hsz
  have hD := hD0.self (sz := s.heap.size)
  generalize hAe : va_A (wX cI cJ x0 x1 x2 x3 x4 x5 x6 x7 x8 x9 g rm op rc ec su pe qt rs rn cs cn lc hc lg hg) s.heap.size = A at hD hT ⊢
  have hA : ∀ q : Nat, s.heap.size ≤ q → A q := fun q h9 => by rw [← hAe]; exact Or.inr h9
  have hS : va_S A s.heap s.heap [] := va_S.rf
  have hin : ∀ w ∈ wsX00, w ∈ wsX0_costOf := fun _ h9 => List.mem_cons_of_mem _ (List.mem_append_left _ (List.mem_append_left _ (List.mem_append_right _ h9)))
  have hw_0 := hts (.fieldLink RX0 44 "RoleMiner" "candidateCount" "I") (by decide +kernel)
  have hw_1 := hts (.classLink RX0 87 "java/lang/IllegalArgumentException") (by decide +kernel)
  have hw_2 := hts (.initialized "java/lang/IllegalArgumentException") (by decide +kernel)
  have hw_3 := hts (.classLink RX0 111 "java/lang/IllegalStateException") (by decide +kernel)
  have hw_4 := hts (.initialized "java/lang/IllegalStateException") (by decide +kernel)
  have hl := lv_entry ([.ref x0, .int a1]) (n := 2) (Nat.le_of_ble_eq_true rfl)
  rw [lg_entry_eq]
  generalize (lg_sl ([.ref x0, .int a1]) ++ List.replicate (2 - (lg_sl ([.ref x0, .int a1])).length) Slot.unset).toArray = ls at hl ⊢
  have hl : lv_has ls 2 [(0, .ref x0), (1, .int a1)] := hl
  rw [m_X0_costOf] at h
  refine lv_aload_n hx hb dX0_costOf_0 rfl (lv_at hl 0 rfl) ?_
  obtain ⟨cs_1, cn_2, lc_3, hc_4, lg_5, hg_6, e_7, h⟩ := bnd6_some h
  refine cl_Vv (As := []) (rest := []) (wc := wX cI cJ x0 x1 x2 x3 x4 x5 x6 x7 x8 x9 g rm op rc ec su pe qt rs rn cs cn lc hc lg hg) (w1 := wX cI cJ x0 x1 x2 x3 x4 x5 x6 x7 x8 x9 g rm op rc ec su pe qt rs rn cs_1 cn_2 lc_3 hc_4 lg_5 hg_6) (wr := []) ⟨hx, hb, hml, hown, hts⟩ (c_X0_findCandidates l D cI cJ x0 x1 x2 x3 x4 x5 x6 x7 x8 x9 _ g rm op rc ec su pe qt rs rn cs cn lc hc lg hg fu  cs_1 cn_2 lc_3 hc_4 lg_5 hg_6 e_7) (cwV 0 hts gX0_costOf_X0_findCandidates rfl rfl rfl (by decide +kernel) ⟨Nat.le_of_ble_eq_true rfl, Nat.le_of_ble_eq_true rfl⟩) hK hP hD hS hA [0, 1, 2, 3, 4, 5, 6, 7, 8, 9] [] rfl rfl (by decide) (by decide) rfl rfl rfl rfl rfl hl.1 rfl (lv_room (Nat.le_of_ble_eq_true rfl)) dX0_costOf_1 (fun H locs hP hD hS => ?_)
  have hP : va_P D vwCl (wX cI cJ x0 x1 x2 x3 x4 x5 x6 x7 x8 x9 g rm op rc ec su pe qt rs rn cs_1 cn_2 lc_3 hc_4 lg_5 hg_6) H := hP
  have hD : va_D A (wX cI cJ x0 x1 x2 x3 x4 x5 x6 x7 x8 x9 g rm op rc ec su pe qt rs rn cs_1 cn_2 lc_3 hc_4 lg_5 hg_6) := hD
  refine lv_aload_n hx hb dX0_costOf_4 rfl (lv_at hl 0 rfl) ?_
  refine va_get (D := D) (ci := 0) (v := .int cn_2) (C := RX0) (T := TX0) (N := 16) hx hb hts hin hown hK hP 0 rfl rfl 11 (by decide) hw_0 (fun _ h9 => h9) rfl dX0_costOf_5 ?_
  refine lv_bipush (v := 14) hx hb dX0_costOf_8 (by decide) ?_
  refine lv_icmp_le (tgt := 23) hx hb dX0_costOf_10 (by decide) (fun c_8 => ?_) (fun c_8 => ?_)
  · replace h := (if_pos c_8).symm.trans h
    refine lv_iload_n hx hb dX0_costOf_23 rfl (lv_at hl 1 rfl) ?_
    refine lv_if_lt (tgt := 37) hx hb dX0_costOf_24 (by decide) (fun c_9 => ?_) (fun c_9 => ?_)
    · replace h := (if_pos c_9).symm.trans h
      cases h
      obtain ⟨sa, hsa⟩ := hT.2.2.2.2.2.2.2.2.2.2.2.2.2.2.1
      exact vx_throwS (sa := sa) (A := A) (text := "the choice has a bit of no candidate") (names := ["java/lang/RuntimeException", "java/lang/Exception"]) hx hb hst hown (by decide +kernel) (by decide +kernel) hw_1 hw_2 hsa (xt_hat (Ts := wsX0_costOf) hts (fun w h9 => List.mem_cons_of_mem _ (List.mem_append_right _ h9)) xo_91 hT.1.2.1 hT.1.2.2.2.1 hT.1.2.2.2.2.1 hT.1.2.2.2.2.2) xg_91 hT.2.1.1 hT.2.1.2 hS (hl.1.trans hml.symm) dX0_costOf_37 dX0_costOf_40 dX0_costOf_41 dX0_costOf_43 dX0_costOf_46 (fun x h9 => (hnt x h9).elim) (Nat.le_of_ble_eq_true rfl) (Nat.le_of_ble_eq_true rfl) (Nat.le_of_ble_eq_true rfl) (Nat.le_of_ble_eq_true rfl) hlocks (fun t ht hz hk => ⟨(), trivial, ⟨rfl, hP.kept (fun k9 q9 h9 => hk q9.1 (hP k9 q9 h9).lt), va_K.moved ht hK, hD⟩, Nat.le_trans hS.1 hz, fun q9 g1 g2 => (hk q9 (Nat.lt_of_lt_of_le g1 hS.1)).trans (hS.2.1 q9 g1 g2)⟩) hS.2.2 (Nat.le_refl _) (Nat.le_refl _)
    · replace h := (if_neg c_9).symm.trans h
      refine lv_iload_n hx hb dX0_costOf_27 rfl (lv_at hl 1 rfl) ?_
      refine lv_iconst (v := 1) hx hb dX0_costOf_28 (by decide) ?_
      refine lv_aload_n hx hb dX0_costOf_29 rfl (lv_at hl 0 rfl) ?_
      refine va_get (D := D) (ci := 0) (v := .int cn_2) (C := RX0) (T := TX0) (N := 16) hx hb hts hin hown hK hP 0 rfl rfl 11 (by decide) hw_0 (fun _ h9 => h9) rfl dX0_costOf_30 ?_
      refine lv_ishl hx hb dX0_costOf_33 ?_
      refine lv_icmp_lt (tgt := 47) hx hb dX0_costOf_34 (by decide) (fun c_10 => ?_) (fun c_10 => ?_)
      · replace h := (if_pos c_10).symm.trans h
        refine lv_aload_n hx hb dX0_costOf_47 rfl (lv_at hl 0 rfl) ?_
        refine lv_iload_n hx hb dX0_costOf_48 rfl (lv_at hl 1 rfl) ?_
        obtain ⟨r_11, e_12, h⟩ := bnd1_some h
        refine cl_Vi (As := [.int a1]) (rest := []) (wc := wX cI cJ x0 x1 x2 x3 x4 x5 x6 x7 x8 x9 g rm op rc ec su pe qt rs rn cs_1 cn_2 lc_3 hc_4 lg_5 hg_6) (w1 := wX cI cJ x0 x1 x2 x3 x4 x5 x6 x7 x8 x9 g rm op rc ec su pe qt rs rn cs_1 cn_2 lc_3 hc_4 lg_5 hg_6) (wr := []) ⟨hx, hb, hml, hown, hts⟩ (c_X0_costOfChoice l D cI cJ x0 x1 x2 x3 x4 x5 x6 x7 x8 x9 _ g rm op rc ec su pe qt rs rn cs_1 cn_2 lc_3 hc_4 lg_5 hg_6 fu a1 r_11 e_12) (cwV 1 hts gX0_costOf_X0_costOfChoice rfl rfl rfl (by decide +kernel) ⟨Nat.le_of_ble_eq_true rfl, Nat.le_of_ble_eq_true rfl⟩) hK hP hD hS hA [0, 1, 2, 3, 4, 5, 6, 7, 8, 9] [] rfl rfl (by decide) (by decide) rfl rfl rfl rfl rfl hl.1 rfl (lv_room (Nat.le_of_ble_eq_true rfl)) dX0_costOf_49 (fun H locs hP hD hS => ?_)
        have hP : va_P D vwCl (wX cI cJ x0 x1 x2 x3 x4 x5 x6 x7 x8 x9 g rm op rc ec su pe qt rs rn cs_1 cn_2 lc_3 hc_4 lg_5 hg_6) H := hP
        have hD : va_D A (wX cI cJ x0 x1 x2 x3 x4 x5 x6 x7 x8 x9 g rm op rc ec su pe qt rs rn cs_1 cn_2 lc_3 hc_4 lg_5 hg_6) := hD
        cases h
        refine vx_ret ?_
        refine W.widen (k := 1) (n := 6) (Nat.zero_le _) (Nat.zero_le _) ?_
        exact W.iret hx hb hr (fun t ht hW => ⟨⟨_, (), rfl, rfl, by rw [ht]; exact hP, va_K.moved hW.alike hK, hD⟩, hS.F ht⟩) hS.2.2 dX0_costOf_52
      · replace h := (if_neg c_10).symm.trans h
        cases h
        obtain ⟨sa, hsa⟩ := hT.2.2.2.2.2.2.2.2.2.2.2.2.2.2.1
        exact vx_throwS (sa := sa) (A := A) (text := "the choice has a bit of no candidate") (names := ["java/lang/RuntimeException", "java/lang/Exception"]) hx hb hst hown (by decide +kernel) (by decide +kernel) hw_1 hw_2 hsa (xt_hat (Ts := wsX0_costOf) hts (fun w h9 => List.mem_cons_of_mem _ (List.mem_append_right _ h9)) xo_91 hT.1.2.1 hT.1.2.2.2.1 hT.1.2.2.2.2.1 hT.1.2.2.2.2.2) xg_91 hT.2.1.1 hT.2.1.2 hS (hl.1.trans hml.symm) dX0_costOf_37 dX0_costOf_40 dX0_costOf_41 dX0_costOf_43 dX0_costOf_46 (fun x h9 => (hnt x h9).elim) (Nat.le_of_ble_eq_true rfl) (Nat.le_of_ble_eq_true rfl) (Nat.le_of_ble_eq_true rfl) (Nat.le_of_ble_eq_true rfl) hlocks (fun t ht hz hk => ⟨(), trivial, ⟨rfl, hP.kept (fun k9 q9 h9 => hk q9.1 (hP k9 q9 h9).lt), va_K.moved ht hK, hD⟩, Nat.le_trans hS.1 hz, fun q9 g1 g2 => (hk q9 (Nat.lt_of_lt_of_le g1 hS.1)).trans (hS.2.1 q9 g1 g2)⟩) hS.2.2 (Nat.le_refl _) (Nat.le_refl _)
  · replace h := (if_neg c_8).symm.trans h
    cases h
    obtain ⟨sa, hsa⟩ := hT.2.2.2.2.2.2.2.2.2.2.2.2.1
    exact vx_throwS (sa := sa) (A := A) (text := "more than 14 candidates") (names := ["java/lang/RuntimeException", "java/lang/Exception"]) hx hb hst hown (by decide +kernel) (by decide +kernel) hw_3 hw_4 hsa (xt_hat (Ts := wsX0_costOf) hts (fun w h9 => List.mem_cons_of_mem _ (List.mem_append_left _ (List.mem_append_right _ h9))) xo_115 hT.1.2.2.1 hT.1.2.2.2.1 hT.1.2.2.2.2.1 hT.1.2.2.2.2.2) xg_115 hT.2.1.1 hT.2.1.2 hS (hl.1.trans hml.symm) dX0_costOf_13 dX0_costOf_16 dX0_costOf_17 dX0_costOf_19 dX0_costOf_22 (fun x h9 => (hnt x h9).elim) (Nat.le_of_ble_eq_true rfl) (Nat.le_of_ble_eq_true rfl) (Nat.le_of_ble_eq_true rfl) (Nat.le_of_ble_eq_true rfl) hlocks (fun t ht hz hk => ⟨(), trivial, ⟨rfl, hP.kept (fun k9 q9 h9 => hk q9.1 (hP k9 q9 h9).lt), va_K.moved ht hK, hD⟩, Nat.le_trans hS.1 hz, fun q9 g1 g2 => (hk q9 (Nat.lt_of_lt_of_le g1 hS.1)).trans (hS.2.1 q9 g1 g2)⟩) hS.2.2 (Nat.le_refl _) (Nat.le_refl _)
-- X0_leastCost
def m_X0_leastCost (fu : Nat) (g : Nat → Int32) (op : Nat → Int32) (rc : Int32) (ec : Int32) (su : Int32) (cs : Nat → Int32) (cn : Int32) (lc : Nat → Int64) (hc : Nat → Int64) (lg : Nat → Int64) (hg : Nat → Int64) : Option ((String ⊕ Int32) × ((Nat → Int32)) × ((Int32)) × ((Nat → Int64)) × ((Nat → Int64)) × ((Nat → Int64)) × ((Nat → Int64))) := (bnd6 (m_X0_findCandidates fu g op su cs cn lc hc lg hg) (fun cs_1 cn_2 lc_3 hc_4 lg_5 hg_6 => (if cn_2 ≤ 14 then (bnd3 (m_X0_bestChoice fu rc ec cn_2 lc_3 hc_4 lg_5 hg_6) (fun r_9 lg_10 hg_11 => (bnd1 (m_X0_costOfChoice fu rc ec cn_2 lc_3 hc_4 lg_10 hg_11 r_9) (fun r_13 => some (.inr r_13, cs_1, cn_2, lc_3, hc_4, lg_10, hg_11))))) else some (.inl "java/lang/IllegalStateException", cs_1, cn_2, lc_3, hc_4, lg_5, hg_6))))
set_option maxHeartbeats 4000000 in
set_option maxRecDepth 100000 in
theorem c_X0_leastCost (l : Launch) (hst : l.stackTraces = false) (D : va_G) (cI cJ : ClassId) (x0 x1 x2 x3 x4 x5 x6 x7 x8 x9 : Nat) (sz : Nat) (g : Nat → Int32) (rm : Nat → Int32) (op : Nat → Int32) (rc : Int32) (ec : Int32) (su : Int32) (pe : Int32) (qt : Int32) (rs : Nat → Int32) (rn : Int32) (cs : Nat → Int32) (cn : Int32) (lc : Nat → Int64) (hc : Nat → Int64) (lg : Nat → Int64) (hg : Nat → Int64) (fu : Nat) (r0 : String ⊕ Int32) (cs' : Nat → Int32) (cn' : Int32) (lc' : Nat → Int64) (hc' : Nat → Int64) (lg' : Nat → Int64) (hg' : Nat → Int64) (h : m_X0_leastCost fu g op rc ec su cs cn lc hc lg hg = some (r0, cs', cn', lc', hc', lg', hg')) : vx_Met l yX0_leastCost wsX0_leastCost ({ frames := 6, cells := 1, slots := 6, locals := 99 }) (va_Pc [.ref x0] (bx_PreT D [(cI, .int), (cJ, .long)] (wX cI cJ x0 x1 x2 x3 x4 x5 x6 x7 x8 x9 g rm op rc ec su pe qt rs rn cs cn lc hc lg hg) sz)) (va_Qi (fun (r : Int32) (_ : Unit) => r0 = Sum.inr r) (fun (_ : Unit) t => bx_Post D [(cI, .int), (cJ, .long)] (wX cI cJ x0 x1 x2 x3 x4 x5 x6 x7 x8 x9 g rm op rc ec su pe qt rs rn cs' cn' lc' hc' lg' hg') (va_A (wX cI cJ x0 x1 x2 x3 x4 x5 x6 x7 x8 x9 g rm op rc ec su pe qt rs rn cs cn lc hc lg hg) sz) t) (va_A (wX cI cJ x0 x1 x2 x3 x4 x5 x6 x7 x8 x9 g rm op rc ec su pe qt rs rn cs cn lc hc lg hg) sz)) (vx_X (fun (_ : Unit) => True) (fun E (_ : Unit) t => r0 = Sum.inl E ∧ bx_Post D [(cI, .int), (cJ, .long)] (wX cI cJ x0 x1 x2 x3 x4 x5 x6 x7 x8 x9 g rm op rc ec su pe qt rs rn cs' cn' lc' hc' lg' hg') (va_A (wX cI cJ x0 x1 x2 x3 x4 x5 x6 x7 x8 x9 g rm op rc ec su pe qt rs rn cs cn lc hc lg hg) sz) t) (va_A (wX cI cJ x0 x1 x2 x3 x4 x5 x6 x7 x8 x9 g rm op rc ec su pe qt rs rn cs cn lc hc lg hg) sz)) 1 6 (va_A (wX cI cJ x0 x1 x2 x3 x4 x5 x6 x7 x8 x9 g rm op rc ec su pe qt rs rn cs cn lc hc lg hg) sz) := by
  refine vx_ofW (cc := cX0_leastCost) (maxL := 1) (ret := (some .int)) (by decide) rfl ?_
  intro p e s m args below meth c s₁ B hml hnt hv
  obtain ⟨rfl, hsz, hP, hK, hD0, hT⟩ := hv
  have hx := B.exec
  have hb := B.bytes
  have hr := B.returns
  have hts := atoms_spec (ws := wsX0_leastCost) B.pre
  have hown : s.vm.findClass RX0 = some m.cls := findClass_of_methodNamed B.named
  have hlocks := B.notSynchronized
  subst hsz
  have hD := hD0.self (sz := s.heap.size)
  generalize hAe : va_A (wX cI cJ x0 x1 x2 x3 x4 x5 x6 x7 x8 x9 g rm op rc ec su pe qt rs rn cs cn lc hc lg hg) s.heap.size = A at hD hT ⊢
  have hA : ∀ q : Nat, s.heap.size ≤ q → A q := fun q h9 => by rw [← hAe]; exact Or.inr h9
  have hS : va_S A s.heap s.heap [] := va_S.rf
  have hin : ∀ w ∈ wsX00, w ∈ wsX0_leastCost := fun _ h9 => List.mem_cons_of_mem _ (List.mem_append_left _ (List.mem_append_right _ h9))
  have hw_0 := hts (.fieldLink RX0 44 "RoleMiner" "candidateCount" "I") (by decide +kernel)
  have hw_1 := hts (.classLink RX0 111 "java/lang/IllegalStateException") (by decide +kernel)
  have hw_2 := hts (.initialized "java/lang/IllegalStateException") (by decide +kernel)
  have hl := lv_entry ([.ref x0]) (n := 1) (Nat.le_of_ble_eq_true rfl)
  rw [lg_entry_eq]
  generalize (lg_sl ([.ref x0]) ++ List.replicate (1 - (lg_sl ([.ref x0])).length) Slot.unset).toArray = ls at hl ⊢
  have hl : lv_has ls 1 [(0, .ref x0)] := hl
  rw [m_X0_leastCost] at h
  refine lv_aload_n hx hb dX0_leastCost_0 rfl (lv_at hl 0 rfl) ?_
  obtain ⟨cs_1, cn_2, lc_3, hc_4, lg_5, hg_6, e_7, h⟩ := bnd6_some h
  refine cl_Vv (As := []) (rest := []) (wc := wX cI cJ x0 x1 x2 x3 x4 x5 x6 x7 x8 x9 g rm op rc ec su pe qt rs rn cs cn lc hc lg hg) (w1 := wX cI cJ x0 x1 x2 x3 x4 x5 x6 x7 x8 x9 g rm op rc ec su pe qt rs rn cs_1 cn_2 lc_3 hc_4 lg_5 hg_6) (wr := []) ⟨hx, hb, hml, hown, hts⟩ (c_X0_findCandidates l D cI cJ x0 x1 x2 x3 x4 x5 x6 x7 x8 x9 _ g rm op rc ec su pe qt rs rn cs cn lc hc lg hg fu  cs_1 cn_2 lc_3 hc_4 lg_5 hg_6 e_7) (cwV 0 hts gX0_leastCost_X0_findCandidates rfl rfl rfl (by decide +kernel) ⟨Nat.le_of_ble_eq_true rfl, Nat.le_of_ble_eq_true rfl⟩) hK hP hD hS hA [0, 1, 2, 3, 4, 5, 6, 7, 8, 9] [] rfl rfl (by decide) (by decide) rfl rfl rfl rfl rfl hl.1 rfl (lv_room (Nat.le_of_ble_eq_true rfl)) dX0_leastCost_1 (fun H locs hP hD hS => ?_)
  have hP : va_P D vwCl (wX cI cJ x0 x1 x2 x3 x4 x5 x6 x7 x8 x9 g rm op rc ec su pe qt rs rn cs_1 cn_2 lc_3 hc_4 lg_5 hg_6) H := hP
  have hD : va_D A (wX cI cJ x0 x1 x2 x3 x4 x5 x6 x7 x8 x9 g rm op rc ec su pe qt rs rn cs_1 cn_2 lc_3 hc_4 lg_5 hg_6) := hD
  refine lv_aload_n hx hb dX0_leastCost_4 rfl (lv_at hl 0 rfl) ?_
  refine va_get (D := D) (ci := 0) (v := .int cn_2) (C := RX0) (T := TX0) (N := 16) hx hb hts hin hown hK hP 0 rfl rfl 11 (by decide) hw_0 (fun _ h9 => h9) rfl dX0_leastCost_5 ?_
  refine lv_bipush (v := 14) hx hb dX0_leastCost_8 (by decide) ?_
  refine lv_icmp_le (tgt := 23) hx hb dX0_leastCost_10 (by decide) (fun c_8 => ?_) (fun c_8 => ?_)
  · replace h := (if_pos c_8).symm.trans h
    refine lv_aload_n hx hb dX0_leastCost_23 rfl (lv_at hl 0 rfl) ?_
    refine lv_aload_n hx hb dX0_leastCost_24 rfl (lv_at hl 0 rfl) ?_
    obtain ⟨r_9, lg_10, hg_11, e_12, h⟩ := bnd3_some h
    refine cl_Vi (As := []) (rest := [.ref x0]) (wc := wX cI cJ x0 x1 x2 x3 x4 x5 x6 x7 x8 x9 g rm op rc ec su pe qt rs rn cs_1 cn_2 lc_3 hc_4 lg_5 hg_6) (w1 := wX cI cJ x0 x1 x2 x3 x4 x5 x6 x7 x8 x9 g rm op rc ec su pe qt rs rn cs_1 cn_2 lc_3 hc_4 lg_10 hg_11) (wr := []) ⟨hx, hb, hml, hown, hts⟩ (c_X0_bestChoice l D cI cJ x0 x1 x2 x3 x4 x5 x6 x7 x8 x9 _ g rm op rc ec su pe qt rs rn cs_1 cn_2 lc_3 hc_4 lg_5 hg_6 fu  r_9 lg_10 hg_11 e_12) (cwV 0 hts gX0_leastCost_X0_bestChoice rfl rfl rfl (by decide +kernel) ⟨Nat.le_of_ble_eq_true rfl, Nat.le_of_ble_eq_true rfl⟩) hK hP hD hS hA [0, 1, 2, 3, 4, 5, 6, 7, 8, 9] [] rfl rfl (by decide) (by decide) rfl rfl rfl rfl rfl hl.1 rfl (lv_room (Nat.le_of_ble_eq_true rfl)) dX0_leastCost_25 (fun H locs hP hD hS => ?_)
    have hP : va_P D vwCl (wX cI cJ x0 x1 x2 x3 x4 x5 x6 x7 x8 x9 g rm op rc ec su pe qt rs rn cs_1 cn_2 lc_3 hc_4 lg_10 hg_11) H := hP
    have hD : va_D A (wX cI cJ x0 x1 x2 x3 x4 x5 x6 x7 x8 x9 g rm op rc ec su pe qt rs rn cs_1 cn_2 lc_3 hc_4 lg_10 hg_11) := hD
    obtain ⟨r_13, e_14, h⟩ := bnd1_some h
    refine cl_Vi (As := [.int r_9]) (rest := []) (wc := wX cI cJ x0 x1 x2 x3 x4 x5 x6 x7 x8 x9 g rm op rc ec su pe qt rs rn cs_1 cn_2 lc_3 hc_4 lg_10 hg_11) (w1 := wX cI cJ x0 x1 x2 x3 x4 x5 x6 x7 x8 x9 g rm op rc ec su pe qt rs rn cs_1 cn_2 lc_3 hc_4 lg_10 hg_11) (wr := []) ⟨hx, hb, hml, hown, hts⟩ (c_X0_costOfChoice l D cI cJ x0 x1 x2 x3 x4 x5 x6 x7 x8 x9 _ g rm op rc ec su pe qt rs rn cs_1 cn_2 lc_3 hc_4 lg_10 hg_11 fu r_9 r_13 e_14) (cwV 1 hts gX0_leastCost_X0_costOfChoice rfl rfl rfl (by decide +kernel) ⟨Nat.le_of_ble_eq_true rfl, Nat.le_of_ble_eq_true rfl⟩) hK hP hD hS hA [0, 1, 2, 3, 4, 5, 6, 7, 8, 9] [] rfl rfl (by decide) (by decide) rfl rfl rfl rfl rfl hl.1 rfl (lv_room (Nat.le_of_ble_eq_true rfl)) dX0_leastCost_28 (fun H locs hP hD hS => ?_)
    have hP : va_P D vwCl (wX cI cJ x0 x1 x2 x3 x4 x5 x6 x7 x8 x9 g rm op rc ec su pe qt rs rn cs_1 cn_2 lc_3 hc_4 lg_10 hg_11) H := hP
    have hD : va_D A (wX cI cJ x0 x1 x2 x3 x4 x5 x6 x7 x8 x9 g rm op rc ec su pe qt rs rn cs_1 cn_2 lc_3 hc_4 lg_10 hg_11) := hD
    cases h
    refine vx_ret ?_
    refine W.widen (k := 1) (n := 6) (Nat.zero_le _) (Nat.zero_le _) ?_
    exact W.iret hx hb hr (fun t ht hW => ⟨⟨_, (), rfl, rfl, by rw [ht]; exact hP, va_K.moved hW.alike hK, hD⟩, hS.F ht⟩) hS.2.2 dX0_leastCost_31
  · replace h := (if_neg c_8).symm.trans h
    cases h
    obtain ⟨sa, hsa⟩ := hT.2.2.2.2.2.2.2.2.2.2.2.2.1
    exact vx_throwS (sa := sa) (A := A) (text := "more than 14 candidates") (names := ["java/lang/RuntimeException", "java/lang/Exception"]) hx hb hst hown (by decide +kernel) (by decide +kernel) hw_1 hw_2 hsa (xt_hat (Ts := wsX0_leastCost) hts (fun w h9 => List.mem_cons_of_mem _ (List.mem_append_right _ h9)) xo_115 hT.1.2.2.1 hT.1.2.2.2.1 hT.1.2.2.2.2.1 hT.1.2.2.2.2.2) xg_115 hT.2.1.1 hT.2.1.2 hS (hl.1.trans hml.symm) dX0_leastCost_13 dX0_leastCost_16 dX0_leastCost_17 dX0_leastCost_19 dX0_leastCost_22 (fun x h9 => (hnt x h9).elim) (Nat.le_of_ble_eq_true rfl) (Nat.le_of_ble_eq_true rfl) (Nat.le_of_ble_eq_true rfl) (Nat.le_of_ble_eq_true rfl) hlocks (fun t ht hz hk => ⟨(), trivial, ⟨rfl, hP.kept (fun k9 q9 h9 => hk q9.1 (hP k9 q9 h9).lt), va_K.moved ht hK, hD⟩, Nat.le_trans hS.1 hz, fun q9 g1 g2 => (hk q9 (Nat.lt_of_lt_of_le g1 hS.1)).trans (hS.2.1 q9 g1 g2)⟩) hS.2.2 (Nat.le_refl _) (Nat.le_refl _)
-- X0_role
def m_X0_role (rs : Nat → Int32) (rn : Int32) (a1 : Int32) : Option ((String ⊕ Int32)) := (if a1 < 0 then some (.inl "java/lang/IndexOutOfBoundsException") else (if a1 < rn then (ix a1 255 (some (.inr (rs (Int32.toNatClampNeg a1))))) else some (.inl "java/lang/IndexOutOfBoundsException")))
set_option maxHeartbeats 4000000 in
set_option maxRecDepth 100000 in
theorem c_X0_role (l : Launch) (hst : l.stackTraces = false) (D : va_G) (cI cJ : ClassId) (x0 x1 x2 x3 x4 x5 x6 x7 x8 x9 : Nat) (sz : Nat) (g : Nat → Int32) (rm : Nat → Int32) (op : Nat → Int32) (rc : Int32) (ec : Int32) (su : Int32) (pe : Int32) (qt : Int32) (rs : Nat → Int32) (rn : Int32) (cs : Nat → Int32) (cn : Int32) (lc : Nat → Int64) (hc : Nat → Int64) (lg : Nat → Int64) (hg : Nat → Int64) (a1 : Int32) (r0 : String ⊕ Int32) (h : m_X0_role rs rn a1 = some r0) : vx_Met l yX0_role wsX0_role ({ frames := 6, cells := 1, slots := 6, locals := 90 }) (va_Pc [.ref x0, .int a1] (bx_PreT D [(cI, .int), (cJ, .long)] (wX cI cJ x0 x1 x2 x3 x4 x5 x6 x7 x8 x9 g rm op rc ec su pe qt rs rn cs cn lc hc lg hg) sz)) (va_Qi (fun (r : Int32) (_ : Unit) => r0 = Sum.inr r) (fun (_ : Unit) t => bx_Post D [(cI, .int), (cJ, .long)] (wX cI cJ x0 x1 x2 x3 x4 x5 x6 x7 x8 x9 g rm op rc ec su pe qt rs rn cs cn lc hc lg hg) (va_A (wX cI cJ x0 x1 x2 x3 x4 x5 x6 x7 x8 x9 g rm op rc ec su pe qt rs rn cs cn lc hc lg hg) sz) t) (va_A (wX cI cJ x0 x1 x2 x3 x4 x5 x6 x7 x8 x9 g rm op rc ec su pe qt rs rn cs cn lc hc lg hg) sz)) (vx_X (fun (_ : Unit) => True) (fun E (_ : Unit) t => r0 = Sum.inl E ∧ bx_Post D [(cI, .int), (cJ, .long)] (wX cI cJ x0 x1 x2 x3 x4 x5 x6 x7 x8 x9 g rm op rc ec su pe qt rs rn cs cn lc hc lg hg) (va_A (wX cI cJ x0 x1 x2 x3 x4 x5 x6 x7 x8 x9 g rm op rc ec su pe qt rs rn cs cn lc hc lg hg) sz) t) (va_A (wX cI cJ x0 x1 x2 x3 x4 x5 x6 x7 x8 x9 g rm op rc ec su pe qt rs rn cs cn lc hc lg hg) sz)) 1 6 (va_A (wX cI cJ x0 x1 x2 x3 x4 x5 x6 x7 x8 x9 g rm op rc ec su pe qt rs rn cs cn lc hc lg hg) sz) := by
  refine vx_ofW (cc := cX0_role) (maxL := 2) (ret := (some .int)) (by decide) rfl ?_
  intro p e s m args below meth c s₁ B hml hnt hv
  obtain ⟨rfl, hsz, hP, hK, hD0, hT⟩ := hv
  have hx := B.exec
  have hb := B.bytes
  have hr := B.returns
  have hts := atoms_spec (ws := wsX0_role) B.pre
  have hown : s.vm.findClass RX0 = some m.cls := findClass_of_methodNamed B.named
  have hlocks := B.notSynchronized
  subst hsz
  have hD := hD0.self (sz := s.heap.size)
  generalize hAe : va_A (wX cI cJ x0 x1 x2 x3 x4 x5 x6 x7 x8 x9 g rm op rc ec su pe qt rs rn cs cn lc hc lg hg) s.heap.size = A at hD hT ⊢
  have hA : ∀ q : Nat, s.heap.size ≤ q → A q := fun q h9 => by rw [← hAe]; exact Or.inr h9
  have hS : va_S A s.heap s.heap [] := va_S.rf
  have hin : ∀ w ∈ wsX00, w ∈ wsX0_role := fun _ h9 => List.mem_cons_of_mem _ (List.mem_append_left _ (List.mem_append_right _ h9))
  have hw_0 := hts (.classLink RX0 67 "java/lang/IndexOutOfBoundsException") (by decide +kernel)
  have hw_1 := hts (.initialized "java/lang/IndexOutOfBoundsException") (by decide +kernel)
  have hw_2 := hts (.fieldLink RX0 38 "RoleMiner" "roleCount" "I") (by decide +kernel)
  have hw_3 := hts (.fieldLink RX0 35 "RoleMiner" "roleSets" "[I") (by decide +kernel)
  have hl := lv_entry ([.ref x0, .int a1]) (n := 2) (Nat.le_of_ble_eq_true rfl)
  rw [lg_entry_eq]
  generalize (lg_sl ([.ref x0, .int a1]) ++ List.replicate (2 - (lg_sl ([.ref x0, .int a1])).length) Slot.unset).toArray = ls at hl ⊢
  have hl : lv_has ls 2 [(0, .ref x0), (1, .int a1)] := hl
  rw [m_X0_role] at h
  refine lv_iload_n hx hb dX0_role_0 rfl (lv_at hl 1 rfl) ?_
  refine lv_if_lt (tgt := 12) hx hb dX0_role_1 (by decide) (fun c_1 => ?_) (fun c_1 => ?_)
  · replace h := (if_pos c_1).symm.trans h
    cases h
    obtain ⟨sa, hsa⟩ := hT.2.2.2.2.2.2.2.2.2.2.2.2.2.2.2
    exact vx_throwS (sa := sa) (A := A) (text := "no such role") (names := ["java/lang/RuntimeException", "java/lang/Exception"]) hx hb hst hown (by decide +kernel) (by decide +kernel) hw_0 hw_1 hsa (xt_hat (Ts := wsX0_role) hts (fun w h9 => List.mem_cons_of_mem _ (List.mem_append_right _ h9)) xo_71 hT.1.1 hT.1.2.2.2.1 hT.1.2.2.2.2.1 hT.1.2.2.2.2.2) xg_71 hT.2.1.1 hT.2.1.2 hS (hl.1.trans hml.symm) dX0_role_12 dX0_role_15 dX0_role_16 dX0_role_18 dX0_role_21 (fun x h9 => (hnt x h9).elim) (Nat.le_of_ble_eq_true rfl) (Nat.le_of_ble_eq_true rfl) (Nat.le_of_ble_eq_true rfl) (Nat.le_of_ble_eq_true rfl) hlocks (fun t ht hz hk => ⟨(), trivial, ⟨rfl, hP.kept (fun k9 q9 h9 => hk q9.1 (hP k9 q9 h9).lt), va_K.moved ht hK, hD⟩, Nat.le_trans hS.1 hz, fun q9 g1 g2 => (hk q9 (Nat.lt_of_lt_of_le g1 hS.1)).trans (hS.2.1 q9 g1 g2)⟩) hS.2.2 (Nat.le_refl _) (Nat.le_refl _)
  · replace h := (if_neg c_1).symm.trans h
    refine lv_iload_n hx hb dX0_role_4 rfl (lv_at hl 1 rfl) ?_
    refine lv_aload_n hx hb dX0_role_5 rfl (lv_at hl 0 rfl) ?_
    refine va_get (D := D) (ci := 0) (v := .int rn) (C := RX0) (T := TX0) (N := 16) hx hb hts hin hown hK hP 0 rfl rfl 9 (by decide) hw_2 (fun _ h9 => h9) rfl dX0_role_6 ?_
    refine lv_icmp_lt (tgt := 22) hx hb dX0_role_9 (by decide) (fun c_2 => ?_) (fun c_2 => ?_)
    · replace h := (if_pos c_2).symm.trans h
      refine lv_aload_n hx hb dX0_role_22 rfl (lv_at hl 0 rfl) ?_
      refine va_get (D := D) (ci := 0) (v := .ref x4) (C := RX0) (T := TX0) (N := 16) hx hb hts hin hown hK hP 0 rfl rfl 8 (by decide) hw_3 (fun _ h9 => h9) rfl dX0_role_23 ?_
      refine lv_iload_n hx hb dX0_role_26 rfl (lv_at hl 1 rfl) ?_
      obtain ⟨h_3, h⟩ := ix_some h
      refine va_iald hx hb hK hP 4 0 rfl rfl h_3 dX0_role_27 ?_
      cases h
      refine vx_ret ?_
      refine W.widen (k := 1) (n := 6) (Nat.zero_le _) (Nat.zero_le _) ?_
      exact W.iret hx hb hr (fun t ht hW => ⟨⟨_, (), rfl, rfl, by rw [ht]; exact hP, va_K.moved hW.alike hK, hD⟩, hS.F ht⟩) hS.2.2 dX0_role_28
    · replace h := (if_neg c_2).symm.trans h
      cases h
      obtain ⟨sa, hsa⟩ := hT.2.2.2.2.2.2.2.2.2.2.2.2.2.2.2
      exact vx_throwS (sa := sa) (A := A) (text := "no such role") (names := ["java/lang/RuntimeException", "java/lang/Exception"]) hx hb hst hown (by decide +kernel) (by decide +kernel) hw_0 hw_1 hsa (xt_hat (Ts := wsX0_role) hts (fun w h9 => List.mem_cons_of_mem _ (List.mem_append_right _ h9)) xo_71 hT.1.1 hT.1.2.2.2.1 hT.1.2.2.2.2.1 hT.1.2.2.2.2.2) xg_71 hT.2.1.1 hT.2.1.2 hS (hl.1.trans hml.symm) dX0_role_12 dX0_role_15 dX0_role_16 dX0_role_18 dX0_role_21 (fun x h9 => (hnt x h9).elim) (Nat.le_of_ble_eq_true rfl) (Nat.le_of_ble_eq_true rfl) (Nat.le_of_ble_eq_true rfl) (Nat.le_of_ble_eq_true rfl) hlocks (fun t ht hz hk => ⟨(), trivial, ⟨rfl, hP.kept (fun k9 q9 h9 => hk q9.1 (hP k9 q9 h9).lt), va_K.moved ht hK, hD⟩, Nat.le_trans hS.1 hz, fun q9 g1 g2 => (hk q9 (Nat.lt_of_lt_of_le g1 hS.1)).trans (hS.2.1 q9 g1 g2)⟩) hS.2.2 (Nat.le_refl _) (Nat.le_refl _)
-- X0_rolesOf
def m_X0_rolesOf_21 (fu : Nat) (g : Nat → Int32) (rs : Nat → Int32) (rn : Int32) (a1 : Int32) : Nat → Int32 → Int32 → Option ((String ⊕ Int32))
  | 0, _, _ => none
  | n + 1, v2, v3 => (if rn ≤ v3 then some (.inr v2) else (ix v3 255 (bnd1 (m_X0_holds g a1 (rs (Int32.toNatClampNeg v3))) (fun r_4 => (if r_4 = 0 then (m_X0_rolesOf_21 fu g rs rn a1 n v2 (v3 + 1)) else (m_X0_rolesOf_21 fu g rs rn a1 n (v2 + 1) (v3 + 1)))))))
def m_X0_rolesOf (fu : Nat) (g : Nat → Int32) (rs : Nat → Int32) (rn : Int32) (a1 : Int32) : Option ((String ⊕ Int32)) := (if (m_X0_isUser a1) = 0 then some (.inl "java/lang/IndexOutOfBoundsException") else (m_X0_rolesOf_21 fu g rs rn a1 fu 0 0))
set_option maxHeartbeats 4000000 in
set_option maxRecDepth 100000 in
theorem c_X0_rolesOf (l : Launch) (hst : l.stackTraces = false) (D : va_G) (cI cJ : ClassId) (x0 x1 x2 x3 x4 x5 x6 x7 x8 x9 : Nat) (sz : Nat) (g : Nat → Int32) (rm : Nat → Int32) (op : Nat → Int32) (rc : Int32) (ec : Int32) (su : Int32) (pe : Int32) (qt : Int32) (rs : Nat → Int32) (rn : Int32) (cs : Nat → Int32) (cn : Int32) (lc : Nat → Int64) (hc : Nat → Int64) (lg : Nat → Int64) (hg : Nat → Int64) (fu : Nat) (a1 : Int32) (r0 : String ⊕ Int32) (h : m_X0_rolesOf fu g rs rn a1 = some r0) : vx_Met l yX0_rolesOf wsX0_rolesOf ({ frames := 6, cells := 1, slots := 6, locals := 90 }) (va_Pc [.ref x0, .int a1] (bx_PreT D [(cI, .int), (cJ, .long)] (wX cI cJ x0 x1 x2 x3 x4 x5 x6 x7 x8 x9 g rm op rc ec su pe qt rs rn cs cn lc hc lg hg) sz)) (va_Qi (fun (r : Int32) (_ : Unit) => r0 = Sum.inr r) (fun (_ : Unit) t => bx_Post D [(cI, .int), (cJ, .long)] (wX cI cJ x0 x1 x2 x3 x4 x5 x6 x7 x8 x9 g rm op rc ec su pe qt rs rn cs cn lc hc lg hg) (va_A (wX cI cJ x0 x1 x2 x3 x4 x5 x6 x7 x8 x9 g rm op rc ec su pe qt rs rn cs cn lc hc lg hg) sz) t) (va_A (wX cI cJ x0 x1 x2 x3 x4 x5 x6 x7 x8 x9 g rm op rc ec su pe qt rs rn cs cn lc hc lg hg) sz)) (vx_X (fun (_ : Unit) => True) (fun E (_ : Unit) t => r0 = Sum.inl E ∧ bx_Post D [(cI, .int), (cJ, .long)] (wX cI cJ x0 x1 x2 x3 x4 x5 x6 x7 x8 x9 g rm op rc ec su pe qt rs rn cs cn lc hc lg hg) (va_A (wX cI cJ x0 x1 x2 x3 x4 x5 x6 x7 x8 x9 g rm op rc ec su pe qt rs rn cs cn lc hc lg hg) sz) t) (va_A (wX cI cJ x0 x1 x2 x3 x4 x5 x6 x7 x8 x9 g rm op rc ec su pe qt rs rn cs cn lc hc lg hg) sz)) 1 6 (va_A (wX cI cJ x0 x1 x2 x3 x4 x5 x6 x7 x8 x9 g rm op rc ec su pe qt rs rn cs cn lc hc lg hg) sz) := by
  refine vx_ofW (cc := cX0_rolesOf) (maxL := 4) (ret := (some .int)) (by decide) rfl ?_
  intro p e s m args below meth c s₁ B hml hnt hv
  obtain ⟨rfl, hsz, hP, hK, hD0, hT⟩ := hv
  have hx := B.exec
  have hb := B.bytes
  have hr := B.returns
  have hts := atoms_spec (ws := wsX0_rolesOf) B.pre
  have hown : s.vm.findClass RX0 = some m.cls := findClass_of_methodNamed B.named
  have hlocks := B.notSynchronized
  subst hsz
  have hD := hD0.self (sz := s.heap.size)
  generalize hAe : va_A (wX cI cJ x0 x1 x2 x3 x4 x5 x6 x7 x8 x9 g rm op rc ec su pe qt rs rn cs cn lc hc lg hg) s.heap.size = A at hD hT ⊢
  have hA : ∀ q : Nat, s.heap.size ≤ q → A q := fun q h9 => by rw [← hAe]; exact Or.inr h9
  have hS : va_S A s.heap s.heap [] := va_S.rf
  have hin : ∀ w ∈ wsX00, w ∈ wsX0_rolesOf := fun _ h9 => List.mem_cons_of_mem _ (List.mem_append_left _ (List.mem_append_right _ h9))
  have hw_0 := hts (.classLink RX0 67 "java/lang/IndexOutOfBoundsException") (by decide +kernel)
  have hw_1 := hts (.initialized "java/lang/IndexOutOfBoundsException") (by decide +kernel)
  have hw_2 := hts (.fieldLink RX0 38 "RoleMiner" "roleCount" "I") (by decide +kernel)
  have hw_3 := hts (.fieldLink RX0 35 "RoleMiner" "roleSets" "[I") (by decide +kernel)
  have hl := lv_entry ([.ref x0, .int a1]) (n := 4) (Nat.le_of_ble_eq_true rfl)
  rw [lg_entry_eq]
  generalize (lg_sl ([.ref x0, .int a1]) ++ List.replicate (4 - (lg_sl ([.ref x0, .int a1])).length) Slot.unset).toArray = ls at hl ⊢
  have hl : lv_has ls 4 [(0, .ref x0), (1, .int a1)] := hl
  have L21 : ∀ (n : Nat) (v2 : Int32) (v3 : Int32) (H : Heap) (locs : List Loc) (ls : Array Slot), m_X0_rolesOf_21 fu g rs rn a1 n v2 v3 = some r0 → va_P D vwCl (wX cI cJ x0 x1 x2 x3 x4 x5 x6 x7 x8 x9 g rm op rc ec su pe qt rs rn cs cn lc hc lg hg) H → va_D A (wX cI cJ x0 x1 x2 x3 x4 x5 x6 x7 x8 x9 g rm op rc ec su pe qt rs rn cs cn lc hc lg hg) → va_S A s.heap H locs → lv_has ls 4 [(0, .ref x0), (1, .int a1), (2, .int v2), (3, .int v3)] → W p l e (headSpec wsX0_rolesOf ({ frames := 6, cells := 1, slots := 6, locals := 90 })).room s m ([.ref x0, .int a1] : List Value).toArray below meth c H locs 0 0 (vx_MQ below (va_Qi (fun (r : Int32) (_ : Unit) => r0 = Sum.inr r) (fun (_ : Unit) t => bx_Post D [(cI, .int), (cJ, .long)] (wX cI cJ x0 x1 x2 x3 x4 x5 x6 x7 x8 x9 g rm op rc ec su pe qt rs rn cs cn lc hc lg hg) A t) A) (vx_X (fun (_ : Unit) => True) (fun E (_ : Unit) t => r0 = Sum.inl E ∧ bx_Post D [(cI, .int), (cJ, .long)] (wX cI cJ x0 x1 x2 x3 x4 x5 x6 x7 x8 x9 g rm op rc ec su pe qt rs rn cs cn lc hc lg hg) A t) A) ([.ref x0, .int a1] : List Value).toArray s 1 6 A) (F0 m 21 ls []) := by
    intro n
    induction n with
    | zero =>
      intro v2 v3 H locs ls h
      rw [m_X0_rolesOf_21] at h
      cases h
    | succ n ih =>
      intro v2 v3 H locs ls h hP hD hS hl
      rw [m_X0_rolesOf_21] at h
      refine lv_iload_n hx hb dX0_rolesOf_21 rfl (lv_at hl 3 rfl) ?_
      refine lv_aload_n hx hb dX0_rolesOf_22 rfl (lv_at hl 0 rfl) ?_
      refine va_get (D := D) (ci := 0) (v := .int rn) (C := RX0) (T := TX0) (N := 16) hx hb hts hin hown hK hP 0 rfl rfl 9 (by decide) hw_2 (fun _ h9 => h9) rfl dX0_rolesOf_23 ?_
      refine lv_icmp_ge (tgt := 52) hx hb dX0_rolesOf_26 (by decide) (fun c_2 => ?_) (fun c_2 => ?_)
      · replace h := (if_pos c_2).symm.trans h
        refine lv_iload_n hx hb dX0_rolesOf_52 rfl (lv_at hl 2 rfl) ?_
        cases h
        refine vx_ret ?_
        refine W.widen (k := 1) (n := 6) (Nat.zero_le _) (Nat.zero_le _) ?_
        exact W.iret hx hb hr (fun t ht hW => ⟨⟨_, (), rfl, rfl, by rw [ht]; exact hP, va_K.moved hW.alike hK, hD⟩, hS.F ht⟩) hS.2.2 dX0_rolesOf_53
      · replace h := (if_neg c_2).symm.trans h
        refine lv_aload_n hx hb dX0_rolesOf_29 rfl (lv_at hl 0 rfl) ?_
        refine lv_iload_n hx hb dX0_rolesOf_30 rfl (lv_at hl 1 rfl) ?_
        refine lv_aload_n hx hb dX0_rolesOf_31 rfl (lv_at hl 0 rfl) ?_
        refine va_get (D := D) (ci := 0) (v := .ref x4) (C := RX0) (T := TX0) (N := 16) hx hb hts hin hown hK hP 0 rfl rfl 8 (by decide) hw_3 (fun _ h9 => h9) rfl dX0_rolesOf_32 ?_
        refine lv_iload_n hx hb dX0_rolesOf_35 rfl (lv_at hl 3 rfl) ?_
        obtain ⟨h_3, h⟩ := ix_some h
        refine va_iald hx hb hK hP 4 0 rfl rfl h_3 dX0_rolesOf_36 ?_
        obtain ⟨r_4, e_5, h⟩ := bnd1_some h
        refine cl_Vi (As := [.int a1, .int (rs (Int32.toNatClampNeg v3))]) (rest := []) (wc := wX cI cJ x0 x1 x2 x3 x4 x5 x6 x7 x8 x9 g rm op rc ec su pe qt rs rn cs cn lc hc lg hg) (w1 := wX cI cJ x0 x1 x2 x3 x4 x5 x6 x7 x8 x9 g rm op rc ec su pe qt rs rn cs cn lc hc lg hg) (wr := []) ⟨hx, hb, hml, hown, hts⟩ (c_X0_holds l D cI cJ x0 x1 x2 x3 x4 x5 x6 x7 x8 x9 _ g rm op rc ec su pe qt rs rn cs cn lc hc lg hg a1 (rs (Int32.toNatClampNeg v3)) r_4 e_5) (cwV 2 hts gX0_rolesOf_X0_holds rfl rfl rfl (by decide +kernel) ⟨Nat.le_of_ble_eq_true rfl, Nat.le_of_ble_eq_true rfl⟩) hK hP hD hS hA [0, 1, 2, 3, 4, 5, 6, 7, 8, 9] [] rfl rfl (by decide) (by decide) rfl rfl rfl rfl rfl hl.1 rfl (lv_room (Nat.le_of_ble_eq_true rfl)) dX0_rolesOf_37 (fun H locs hP hD hS => ?_)
        have hP : va_P D vwCl (wX cI cJ x0 x1 x2 x3 x4 x5 x6 x7 x8 x9 g rm op rc ec su pe qt rs rn cs cn lc hc lg hg) H := hP
        have hD : va_D A (wX cI cJ x0 x1 x2 x3 x4 x5 x6 x7 x8 x9 g rm op rc ec su pe qt rs rn cs cn lc hc lg hg) := hD
        refine lv_if_eq (tgt := 46) hx hb dX0_rolesOf_40 (by decide) (fun c_6 => ?_) (fun c_6 => ?_)
        · replace h := (if_pos c_6).symm.trans h
          refine lv_iinc (v := (v3 + 1)) (lv' := [(3, .int (v3 + 1)), (0, .ref x0), (1, .int a1), (2, .int v2)]) hx hb dX0_rolesOf_46 hl (k := 3) rfl rfl (by decide) rfl (fun ls hl => ?_)
          refine lv_goto (tgt := 21) hx hb dX0_rolesOf_49 (by decide) ?_
          exact ih v2 (v3 + 1) _ _ _ h hP hD hS (lv_sub hl [1, 2, 3, 0] rfl)
        · replace h := (if_neg c_6).symm.trans h
          refine lv_iinc (v := (v2 + 1)) (lv' := [(2, .int (v2 + 1)), (0, .ref x0), (1, .int a1), (3, .int v3)]) hx hb dX0_rolesOf_43 hl (k := 2) rfl rfl (by decide) rfl (fun ls hl => ?_)
          refine lv_iinc (v := (v3 + 1)) (lv' := [(3, .int (v3 + 1)), (2, .int (v2 + 1)), (0, .ref x0), (1, .int a1)]) hx hb dX0_rolesOf_46 hl (k := 3) rfl rfl (by decide) rfl (fun ls hl => ?_)
          refine lv_goto (tgt := 21) hx hb dX0_rolesOf_49 (by decide) ?_
          exact ih (v2 + 1) (v3 + 1) _ _ _ h hP hD hS (lv_sub hl [2, 3, 1, 0] rfl)
  rw [m_X0_rolesOf] at h
  refine lv_iload_n hx hb dX0_rolesOf_0 rfl (lv_at hl 1 rfl) ?_
  refine cl_Si0 (As := [.int a1]) (rest := []) ⟨hx, hb, hml, hown, hts⟩ (c_X0_isUser l D _ a1) (va_cwS 1 hts gX0_rolesOf_X0_isUser rfl rfl rfl (by decide +kernel) ⟨Nat.le_of_ble_eq_true rfl, Nat.le_of_ble_eq_true rfl⟩) hK hP hD hS hA rfl rfl hl.1 rfl (lv_room (Nat.le_of_ble_eq_true rfl)) dX0_rolesOf_1 (fun H locs hP hD hS => ?_)
  refine lv_if_ne (tgt := 17) hx hb dX0_rolesOf_4 (by decide) (fun c_1 => ?_) (fun c_1 => ?_)
  · replace h := (if_neg c_1).symm.trans h
    refine lv_iconst (v := 0) hx hb dX0_rolesOf_17 (by decide) ?_
    refine lv_istore_n (lv' := [(2, .int 0), (0, .ref x0), (1, .int a1)]) hx hb dX0_rolesOf_18 rfl hl (by decide) rfl (fun ls hl => ?_)
    refine lv_iconst (v := 0) hx hb dX0_rolesOf_19 (by decide) ?_
    refine lv_istore_n (lv' := [(3, .int 0), (2, .int 0), (0, .ref x0), (1, .int a1)]) hx hb dX0_rolesOf_20 rfl hl (by decide) rfl (fun ls hl => ?_)
    exact L21 fu 0 0 _ _ _ h hP hD hS (lv_sub hl [2, 3, 1, 0] rfl)
  · replace h := (if_pos c_1).symm.trans h
    cases h
    obtain ⟨sa, hsa⟩ := hT.2.2.2.1
    exact vx_throwS (sa := sa) (A := A) (text := "no such user") (names := ["java/lang/RuntimeException", "java/lang/Exception"]) hx hb hst hown (by decide +kernel) (by decide +kernel) hw_0 hw_1 hsa (xt_hat (Ts := wsX0_rolesOf) hts (fun w h9 => List.mem_cons_of_mem _ (List.mem_append_right _ h9)) xo_71 hT.1.1 hT.1.2.2.2.1 hT.1.2.2.2.2.1 hT.1.2.2.2.2.2) xg_71 hT.2.1.1 hT.2.1.2 hS (hl.1.trans hml.symm) dX0_rolesOf_7 dX0_rolesOf_10 dX0_rolesOf_11 dX0_rolesOf_13 dX0_rolesOf_16 (fun x h9 => (hnt x h9).elim) (Nat.le_of_ble_eq_true rfl) (Nat.le_of_ble_eq_true rfl) (Nat.le_of_ble_eq_true rfl) (Nat.le_of_ble_eq_true rfl) hlocks (fun t ht hz hk => ⟨(), trivial, ⟨rfl, hP.kept (fun k9 q9 h9 => hk q9.1 (hP k9 q9 h9).lt), va_K.moved ht hK, hD⟩, Nat.le_trans hS.1 hz, fun q9 g1 g2 => (hk q9 (Nat.lt_of_lt_of_le g1 hS.1)).trans (hS.2.1 q9 g1 g2)⟩) hS.2.2 (Nat.le_refl _) (Nat.le_refl _)
-- X0_byRoles
def m_X0_byRoles (fu : Nat) (g : Nat → Int32) (rs : Nat → Int32) (rn : Int32) (a1 : Int32) : Option ((String ⊕ Int32)) := (if (m_X0_isUser a1) = 0 then some (.inl "java/lang/IndexOutOfBoundsException") else (bnd1 (m_X0_joinedRoles fu g rs rn a1) (fun r_2 => some (.inr r_2))))
set_option maxHeartbeats 4000000 in
set_option maxRecDepth 100000 in
theorem c_X0_byRoles (l : Launch) (hst : l.stackTraces = false) (D : va_G) (cI cJ : ClassId) (x0 x1 x2 x3 x4 x5 x6 x7 x8 x9 : Nat) (sz : Nat) (g : Nat → Int32) (rm : Nat → Int32) (op : Nat → Int32) (rc : Int32) (ec : Int32) (su : Int32) (pe : Int32) (qt : Int32) (rs : Nat → Int32) (rn : Int32) (cs : Nat → Int32) (cn : Int32) (lc : Nat → Int64) (hc : Nat → Int64) (lg : Nat → Int64) (hg : Nat → Int64) (fu : Nat) (a1 : Int32) (r0 : String ⊕ Int32) (h : m_X0_byRoles fu g rs rn a1 = some r0) : vx_Met l yX0_byRoles wsX0_byRoles ({ frames := 6, cells := 1, slots := 6, locals := 90 }) (va_Pc [.ref x0, .int a1] (bx_PreT D [(cI, .int), (cJ, .long)] (wX cI cJ x0 x1 x2 x3 x4 x5 x6 x7 x8 x9 g rm op rc ec su pe qt rs rn cs cn lc hc lg hg) sz)) (va_Qi (fun (r : Int32) (_ : Unit) => r0 = Sum.inr r) (fun (_ : Unit) t => bx_Post D [(cI, .int), (cJ, .long)] (wX cI cJ x0 x1 x2 x3 x4 x5 x6 x7 x8 x9 g rm op rc ec su pe qt rs rn cs cn lc hc lg hg) (va_A (wX cI cJ x0 x1 x2 x3 x4 x5 x6 x7 x8 x9 g rm op rc ec su pe qt rs rn cs cn lc hc lg hg) sz) t) (va_A (wX cI cJ x0 x1 x2 x3 x4 x5 x6 x7 x8 x9 g rm op rc ec su pe qt rs rn cs cn lc hc lg hg) sz)) (vx_X (fun (_ : Unit) => True) (fun E (_ : Unit) t => r0 = Sum.inl E ∧ bx_Post D [(cI, .int), (cJ, .long)] (wX cI cJ x0 x1 x2 x3 x4 x5 x6 x7 x8 x9 g rm op rc ec su pe qt rs rn cs cn lc hc lg hg) (va_A (wX cI cJ x0 x1 x2 x3 x4 x5 x6 x7 x8 x9 g rm op rc ec su pe qt rs rn cs cn lc hc lg hg) sz) t) (va_A (wX cI cJ x0 x1 x2 x3 x4 x5 x6 x7 x8 x9 g rm op rc ec su pe qt rs rn cs cn lc hc lg hg) sz)) 1 6 (va_A (wX cI cJ x0 x1 x2 x3 x4 x5 x6 x7 x8 x9 g rm op rc ec su pe qt rs rn cs cn lc hc lg hg) sz) := by
  refine vx_ofW (cc := cX0_byRoles) (maxL := 2) (ret := (some .int)) (by decide) rfl ?_
  intro p e s m args below meth c s₁ B hml hnt hv
  obtain ⟨rfl, hsz, hP, hK, hD0, hT⟩ := hv
  have hx := B.exec
  have hb := B.bytes
  have hr := B.returns
  have hts := atoms_spec (ws := wsX0_byRoles) B.pre
  have hown : s.vm.findClass RX0 = some m.cls := findClass_of_methodNamed B.named
  have hlocks := B.notSynchronized
  subst hsz
  have hD := hD0.self (sz := s.heap.size)
  generalize hAe : va_A (wX cI cJ x0 x1 x2 x3 x4 x5 x6 x7 x8 x9 g rm op rc ec su pe qt rs rn cs cn lc hc lg hg) s.heap.size = A at hD hT ⊢
  have hA : ∀ q : Nat, s.heap.size ≤ q → A q := fun q h9 => by rw [← hAe]; exact Or.inr h9
  have hS : va_S A s.heap s.heap [] := va_S.rf
  have hin : ∀ w ∈ wsX00, w ∈ wsX0_byRoles := fun _ h9 => List.mem_cons_of_mem _ (List.mem_append_left _ (List.mem_append_right _ h9))
  have hw_0 := hts (.classLink RX0 67 "java/lang/IndexOutOfBoundsException") (by decide +kernel)
  have hw_1 := hts (.initialized "java/lang/IndexOutOfBoundsException") (by decide +kernel)
  have hl := lv_entry ([.ref x0, .int a1]) (n := 2) (Nat.le_of_ble_eq_true rfl)
  rw [lg_entry_eq]
  generalize (lg_sl ([.ref x0, .int a1]) ++ List.replicate (2 - (lg_sl ([.ref x0, .int a1])).length) Slot.unset).toArray = ls at hl ⊢
  have hl : lv_has ls 2 [(0, .ref x0), (1, .int a1)] := hl
  rw [m_X0_byRoles] at h
  refine lv_iload_n hx hb dX0_byRoles_0 rfl (lv_at hl 1 rfl) ?_
  refine cl_Si0 (As := [.int a1]) (rest := []) ⟨hx, hb, hml, hown, hts⟩ (c_X0_isUser l D _ a1) (va_cwS 1 hts gX0_byRoles_X0_isUser rfl rfl rfl (by decide +kernel) ⟨Nat.le_of_ble_eq_true rfl, Nat.le_of_ble_eq_true rfl⟩) hK hP hD hS hA rfl rfl hl.1 rfl (lv_room (Nat.le_of_ble_eq_true rfl)) dX0_byRoles_1 (fun H locs hP hD hS => ?_)
  refine lv_if_ne (tgt := 17) hx hb dX0_byRoles_4 (by decide) (fun c_1 => ?_) (fun c_1 => ?_)
  · replace h := (if_neg c_1).symm.trans h
    refine lv_aload_n hx hb dX0_byRoles_17 rfl (lv_at hl 0 rfl) ?_
    refine lv_iload_n hx hb dX0_byRoles_18 rfl (lv_at hl 1 rfl) ?_
    obtain ⟨r_2, e_3, h⟩ := bnd1_some h
    refine cl_Vi (As := [.int a1]) (rest := []) (wc := wX cI cJ x0 x1 x2 x3 x4 x5 x6 x7 x8 x9 g rm op rc ec su pe qt rs rn cs cn lc hc lg hg) (w1 := wX cI cJ x0 x1 x2 x3 x4 x5 x6 x7 x8 x9 g rm op rc ec su pe qt rs rn cs cn lc hc lg hg) (wr := []) ⟨hx, hb, hml, hown, hts⟩ (c_X0_joinedRoles l D cI cJ x0 x1 x2 x3 x4 x5 x6 x7 x8 x9 _ g rm op rc ec su pe qt rs rn cs cn lc hc lg hg fu a1 r_2 e_3) (cwV 1 hts gX0_byRoles_X0_joinedRoles rfl rfl rfl (by decide +kernel) ⟨Nat.le_of_ble_eq_true rfl, Nat.le_of_ble_eq_true rfl⟩) hK hP hD hS hA [0, 1, 2, 3, 4, 5, 6, 7, 8, 9] [] rfl rfl (by decide) (by decide) rfl rfl rfl rfl rfl hl.1 rfl (lv_room (Nat.le_of_ble_eq_true rfl)) dX0_byRoles_19 (fun H locs hP hD hS => ?_)
    have hP : va_P D vwCl (wX cI cJ x0 x1 x2 x3 x4 x5 x6 x7 x8 x9 g rm op rc ec su pe qt rs rn cs cn lc hc lg hg) H := hP
    have hD : va_D A (wX cI cJ x0 x1 x2 x3 x4 x5 x6 x7 x8 x9 g rm op rc ec su pe qt rs rn cs cn lc hc lg hg) := hD
    cases h
    refine vx_ret ?_
    refine W.widen (k := 1) (n := 6) (Nat.zero_le _) (Nat.zero_le _) ?_
    exact W.iret hx hb hr (fun t ht hW => ⟨⟨_, (), rfl, rfl, by rw [ht]; exact hP, va_K.moved hW.alike hK, hD⟩, hS.F ht⟩) hS.2.2 dX0_byRoles_22
  · replace h := (if_pos c_1).symm.trans h
    cases h
    obtain ⟨sa, hsa⟩ := hT.2.2.2.1
    exact vx_throwS (sa := sa) (A := A) (text := "no such user") (names := ["java/lang/RuntimeException", "java/lang/Exception"]) hx hb hst hown (by decide +kernel) (by decide +kernel) hw_0 hw_1 hsa (xt_hat (Ts := wsX0_byRoles) hts (fun w h9 => List.mem_cons_of_mem _ (List.mem_append_right _ h9)) xo_71 hT.1.1 hT.1.2.2.2.1 hT.1.2.2.2.2.1 hT.1.2.2.2.2.2) xg_71 hT.2.1.1 hT.2.1.2 hS (hl.1.trans hml.symm) dX0_byRoles_7 dX0_byRoles_10 dX0_byRoles_11 dX0_byRoles_13 dX0_byRoles_16 (fun x h9 => (hnt x h9).elim) (Nat.le_of_ble_eq_true rfl) (Nat.le_of_ble_eq_true rfl) (Nat.le_of_ble_eq_true rfl) (Nat.le_of_ble_eq_true rfl) hlocks (fun t ht hz hk => ⟨(), trivial, ⟨rfl, hP.kept (fun k9 q9 h9 => hk q9.1 (hP k9 q9 h9).lt), va_K.moved ht hK, hD⟩, Nat.le_trans hS.1 hz, fun q9 g1 g2 => (hk q9 (Nat.lt_of_lt_of_le g1 hS.1)).trans (hS.2.1 q9 g1 g2)⟩) hS.2.2 (Nat.le_refl _) (Nat.le_refl _)
-- X0_exceptions
def m_X0_exceptions (fu : Nat) (g : Nat → Int32) (rs : Nat → Int32) (rn : Int32) (a1 : Int32) : Option ((String ⊕ Int32)) := (if (m_X0_isUser a1) = 0 then some (.inl "java/lang/IndexOutOfBoundsException") else (ix a1 8 (bnd1 (m_X0_joinedRoles fu g rs rn a1) (fun r_3 => some (.inr ((g (Int32.toNatClampNeg a1)) &&& (r_3 ^^^ (-1))))))))
set_option maxHeartbeats 4000000 in
set_option maxRecDepth 100000 in
theorem c_X0_exceptions (l : Launch) (hst : l.stackTraces = false) (D : va_G) (cI cJ : ClassId) (x0 x1 x2 x3 x4 x5 x6 x7 x8 x9 : Nat) (sz : Nat) (g : Nat → Int32) (rm : Nat → Int32) (op : Nat → Int32) (rc : Int32) (ec : Int32) (su : Int32) (pe : Int32) (qt : Int32) (rs : Nat → Int32) (rn : Int32) (cs : Nat → Int32) (cn : Int32) (lc : Nat → Int64) (hc : Nat → Int64) (lg : Nat → Int64) (hg : Nat → Int64) (fu : Nat) (a1 : Int32) (r0 : String ⊕ Int32) (h : m_X0_exceptions fu g rs rn a1 = some r0) : vx_Met l yX0_exceptions wsX0_exceptions ({ frames := 6, cells := 1, slots := 6, locals := 90 }) (va_Pc [.ref x0, .int a1] (bx_PreT D [(cI, .int), (cJ, .long)] (wX cI cJ x0 x1 x2 x3 x4 x5 x6 x7 x8 x9 g rm op rc ec su pe qt rs rn cs cn lc hc lg hg) sz)) (va_Qi (fun (r : Int32) (_ : Unit) => r0 = Sum.inr r) (fun (_ : Unit) t => bx_Post D [(cI, .int), (cJ, .long)] (wX cI cJ x0 x1 x2 x3 x4 x5 x6 x7 x8 x9 g rm op rc ec su pe qt rs rn cs cn lc hc lg hg) (va_A (wX cI cJ x0 x1 x2 x3 x4 x5 x6 x7 x8 x9 g rm op rc ec su pe qt rs rn cs cn lc hc lg hg) sz) t) (va_A (wX cI cJ x0 x1 x2 x3 x4 x5 x6 x7 x8 x9 g rm op rc ec su pe qt rs rn cs cn lc hc lg hg) sz)) (vx_X (fun (_ : Unit) => True) (fun E (_ : Unit) t => r0 = Sum.inl E ∧ bx_Post D [(cI, .int), (cJ, .long)] (wX cI cJ x0 x1 x2 x3 x4 x5 x6 x7 x8 x9 g rm op rc ec su pe qt rs rn cs cn lc hc lg hg) (va_A (wX cI cJ x0 x1 x2 x3 x4 x5 x6 x7 x8 x9 g rm op rc ec su pe qt rs rn cs cn lc hc lg hg) sz) t) (va_A (wX cI cJ x0 x1 x2 x3 x4 x5 x6 x7 x8 x9 g rm op rc ec su pe qt rs rn cs cn lc hc lg hg) sz)) 1 6 (va_A (wX cI cJ x0 x1 x2 x3 x4 x5 x6 x7 x8 x9 g rm op rc ec su pe qt rs rn cs cn lc hc lg hg) sz) := by
  refine vx_ofW (cc := cX0_exceptions) (maxL := 2) (ret := (some .int)) (by decide) rfl ?_
  intro p e s m args below meth c s₁ B hml hnt hv
  obtain ⟨rfl, hsz, hP, hK, hD0, hT⟩ := hv
  have hx := B.exec
  have hb := B.bytes
  have hr := B.returns
  have hts := atoms_spec (ws := wsX0_exceptions) B.pre
  have hown : s.vm.findClass RX0 = some m.cls := findClass_of_methodNamed B.named
  have hlocks := B.notSynchronized
  subst hsz
  have hD := hD0.self (sz := s.heap.size)
  generalize hAe : va_A (wX cI cJ x0 x1 x2 x3 x4 x5 x6 x7 x8 x9 g rm op rc ec su pe qt rs rn cs cn lc hc lg hg) s.heap.size = A at hD hT ⊢
  have hA : ∀ q : Nat, s.heap.size ≤ q → A q := fun q h9 => by rw [← hAe]; exact Or.inr h9
  have hS : va_S A s.heap s.heap [] := va_S.rf
  have hin : ∀ w ∈ wsX00, w ∈ wsX0_exceptions := fun _ h9 => List.mem_cons_of_mem _ (List.mem_append_left _ (List.mem_append_right _ h9))
  have hw_0 := hts (.fieldLink RX0 9 "RoleMiner" "granted" "[I") (by decide +kernel)
  have hw_1 := hts (.classLink RX0 67 "java/lang/IndexOutOfBoundsException") (by decide +kernel)
  have hw_2 := hts (.initialized "java/lang/IndexOutOfBoundsException") (by decide +kernel)
  have hl := lv_entry ([.ref x0, .int a1]) (n := 2) (Nat.le_of_ble_eq_true rfl)
  rw [lg_entry_eq]
  generalize (lg_sl ([.ref x0, .int a1]) ++ List.replicate (2 - (lg_sl ([.ref x0, .int a1])).length) Slot.unset).toArray = ls at hl ⊢
  have hl : lv_has ls 2 [(0, .ref x0), (1, .int a1)] := hl
  rw [m_X0_exceptions] at h
  refine lv_iload_n hx hb dX0_exceptions_0 rfl (lv_at hl 1 rfl) ?_
  refine cl_Si0 (As := [.int a1]) (rest := []) ⟨hx, hb, hml, hown, hts⟩ (c_X0_isUser l D _ a1) (va_cwS 1 hts gX0_exceptions_X0_isUser rfl rfl rfl (by decide +kernel) ⟨Nat.le_of_ble_eq_true rfl, Nat.le_of_ble_eq_true rfl⟩) hK hP hD hS hA rfl rfl hl.1 rfl (lv_room (Nat.le_of_ble_eq_true rfl)) dX0_exceptions_1 (fun H locs hP hD hS => ?_)
  refine lv_if_ne (tgt := 17) hx hb dX0_exceptions_4 (by decide) (fun c_1 => ?_) (fun c_1 => ?_)
  · replace h := (if_neg c_1).symm.trans h
    refine lv_aload_n hx hb dX0_exceptions_17 rfl (lv_at hl 0 rfl) ?_
    refine va_get (D := D) (ci := 0) (v := .ref x1) (C := RX0) (T := TX0) (N := 16) hx hb hts hin hown hK hP 0 rfl rfl 0 (by decide) hw_0 (fun _ h9 => h9) rfl dX0_exceptions_18 ?_
    refine lv_iload_n hx hb dX0_exceptions_21 rfl (lv_at hl 1 rfl) ?_
    obtain ⟨h_2, h⟩ := ix_some h
    refine va_iald hx hb hK hP 1 0 rfl rfl h_2 dX0_exceptions_22 ?_
    refine lv_aload_n hx hb dX0_exceptions_23 rfl (lv_at hl 0 rfl) ?_
    refine lv_iload_n hx hb dX0_exceptions_24 rfl (lv_at hl 1 rfl) ?_
    obtain ⟨r_3, e_4, h⟩ := bnd1_some h
    refine cl_Vi (As := [.int a1]) (rest := [.int (g (Int32.toNatClampNeg a1))]) (wc := wX cI cJ x0 x1 x2 x3 x4 x5 x6 x7 x8 x9 g rm op rc ec su pe qt rs rn cs cn lc hc lg hg) (w1 := wX cI cJ x0 x1 x2 x3 x4 x5 x6 x7 x8 x9 g rm op rc ec su pe qt rs rn cs cn lc hc lg hg) (wr := []) ⟨hx, hb, hml, hown, hts⟩ (c_X0_joinedRoles l D cI cJ x0 x1 x2 x3 x4 x5 x6 x7 x8 x9 _ g rm op rc ec su pe qt rs rn cs cn lc hc lg hg fu a1 r_3 e_4) (cwV 1 hts gX0_exceptions_X0_joinedRoles rfl rfl rfl (by decide +kernel) ⟨Nat.le_of_ble_eq_true rfl, Nat.le_of_ble_eq_true rfl⟩) hK hP hD hS hA [0, 1, 2, 3, 4, 5, 6, 7, 8, 9] [] rfl rfl (by decide) (by decide) rfl rfl rfl rfl rfl hl.1 rfl (lv_room (Nat.le_of_ble_eq_true rfl)) dX0_exceptions_25 (fun H locs hP hD hS => ?_)
    have hP : va_P D vwCl (wX cI cJ x0 x1 x2 x3 x4 x5 x6 x7 x8 x9 g rm op rc ec su pe qt rs rn cs cn lc hc lg hg) H := hP
    have hD : va_D A (wX cI cJ x0 x1 x2 x3 x4 x5 x6 x7 x8 x9 g rm op rc ec su pe qt rs rn cs cn lc hc lg hg) := hD
    refine lv_iconst (v := (-1)) hx hb dX0_exceptions_28 (by decide) ?_
    refine lv_ixor hx hb dX0_exceptions_29 ?_
    refine lv_iand hx hb dX0_exceptions_30 ?_
    cases h
    refine vx_ret ?_
    refine W.widen (k := 1) (n := 6) (Nat.zero_le _) (Nat.zero_le _) ?_
    exact W.iret hx hb hr (fun t ht hW => ⟨⟨_, (), rfl, rfl, by rw [ht]; exact hP, va_K.moved hW.alike hK, hD⟩, hS.F ht⟩) hS.2.2 dX0_exceptions_31
  · replace h := (if_pos c_1).symm.trans h
    cases h
    obtain ⟨sa, hsa⟩ := hT.2.2.2.1
    exact vx_throwS (sa := sa) (A := A) (text := "no such user") (names := ["java/lang/RuntimeException", "java/lang/Exception"]) hx hb hst hown (by decide +kernel) (by decide +kernel) hw_1 hw_2 hsa (xt_hat (Ts := wsX0_exceptions) hts (fun w h9 => List.mem_cons_of_mem _ (List.mem_append_right _ h9)) xo_71 hT.1.1 hT.1.2.2.2.1 hT.1.2.2.2.2.1 hT.1.2.2.2.2.2) xg_71 hT.2.1.1 hT.2.1.2 hS (hl.1.trans hml.symm) dX0_exceptions_7 dX0_exceptions_10 dX0_exceptions_11 dX0_exceptions_13 dX0_exceptions_16 (fun x h9 => (hnt x h9).elim) (Nat.le_of_ble_eq_true rfl) (Nat.le_of_ble_eq_true rfl) (Nat.le_of_ble_eq_true rfl) (Nat.le_of_ble_eq_true rfl) hlocks (fun t ht hz hk => ⟨(), trivial, ⟨rfl, hP.kept (fun k9 q9 h9 => hk q9.1 (hP k9 q9 h9).lt), va_K.moved ht hK, hD⟩, Nat.le_trans hS.1 hz, fun q9 g1 g2 => (hk q9 (Nat.lt_of_lt_of_le g1 hS.1)).trans (hS.2.1 q9 g1 g2)⟩) hS.2.2 (Nat.le_refl _) (Nat.le_refl _)
