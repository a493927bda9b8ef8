-- X0_lapsingIn
def m_X0_lapsingIn_5 (fu : Nat) (g : Nat → Int32) (rm : Nat → Int32) (pe : Int32) (a1 : Int32) (a2 : Int32) : Nat → Int32 → Int32 → Option ((Int32))
  | 0, _, _ => none
  | n + 1, v3, v4 => (if 12 ≤ v4 then some v3 else (ix (m_X0_grantIndex a2 v4) 96 (ix a2 8 (if (m_X0_has (g (Int32.toNatClampNeg a2)) v4) = 0 then (m_X0_lapsingIn_5 fu g rm pe a1 a2 n v3 (v4 + 1)) else (if (a1 - (rm (Int32.toNatClampNeg (m_X0_grantIndex a2 v4)))) < pe then (m_X0_lapsingIn_5 fu g rm pe a1 a2 n v3 (v4 + 1)) else (m_X0_lapsingIn_5 fu g rm pe a1 a2 n (v3 ||| (1 <<< (v4 &&& 31))) (v4 + 1)))))))
def m_X0_lapsingIn (fu : Nat) (g : Nat → Int32) (rm : Nat → Int32) (pe : Int32) (a1 : Int32) (a2 : Int32) : Option ((Int32)) := (m_X0_lapsingIn_5 fu g rm pe a1 a2 fu 0 0)
set_option maxHeartbeats 4000000 in
set_option maxRecDepth 100000 in
theorem c_X0_lapsingIn (l : Launch) (D : va_G) (cI cJ : ClassId) (x0 x1 x2 x3 x4 x5 x6 x7 x8 x9 : Nat) (sz : Nat) (g : Nat → Int32) (rm : Nat → Int32) (op : Nat → Int32) (rc : Int32) (ec : Int32) (su : Int32) (pe : Int32) (qt : Int32) (rs : Nat → Int32) (rn : Int32) (cs : Nat → Int32) (cn : Int32) (lc : Nat → Int64) (hc : Nat → Int64) (lg : Nat → Int64) (hg : Nat → Int64) (fu : Nat) (a1 : Int32) (a2 : Int32) (r0 : Int32) (h : m_X0_lapsingIn fu g rm pe a1 a2 = some r0) : Met l yX0_lapsingIn wsX0_lapsingIn ({ frames := 1, cells := 0, slots := 0, locals := 21 }) (va_Pc [.ref x0, .int a1, .int a2] (bx_Pre D [(cI, .int), (cJ, .long)] (wX cI cJ x0 x1 x2 x3 x4 x5 x6 x7 x8 x9 g rm op rc ec su pe qt rs rn cs cn lc hc lg hg) sz)) (va_Qi (fun (r : Int32) (_ : Unit) => r = r0) (fun (_ : Unit) t => bx_Post D [(cI, .int), (cJ, .long)] (wX cI cJ x0 x1 x2 x3 x4 x5 x6 x7 x8 x9 g rm op rc ec su pe qt rs rn cs cn lc hc lg hg) (va_A (wX cI cJ x0 x1 x2 x3 x4 x5 x6 x7 x8 x9 g rm op rc ec su pe qt rs rn cs cn lc hc lg hg) sz) t) (va_A (wX cI cJ x0 x1 x2 x3 x4 x5 x6 x7 x8 x9 g rm op rc ec su pe qt rs rn cs cn lc hc lg hg) sz)) 0 0 (va_A (wX cI cJ x0 x1 x2 x3 x4 x5 x6 x7 x8 x9 g rm op rc ec su pe qt rs rn cs cn lc hc lg hg) sz) := by
  refine Met.ofW (cc := cX0_lapsingIn) (maxL := 6) (ret := (some .int)) (by decide) rfl ?_
  intro p e s m args below meth c s₁ B hml hv
  obtain ⟨rfl, hsz, hP, hK, hD0⟩ := hv
  have hx := B.exec
  have hb := B.bytes
  have hr := B.returns
  have hts := atoms_spec (ws := wsX0_lapsingIn) B.pre
  have hown : s.vm.findClass RX0 = some m.cls := findClass_of_methodNamed B.named
  have hlocks := B.notSynchronized
  subst hsz
  have hD := hD0.self (sz := s.heap.size)
  generalize hAe : va_A (wX cI cJ x0 x1 x2 x3 x4 x5 x6 x7 x8 x9 g rm op rc ec su pe qt rs rn cs cn lc hc lg hg) s.heap.size = A at hD ⊢
  have hA : ∀ q : Nat, s.heap.size ≤ q → A q := fun q h9 => by rw [← hAe]; exact Or.inr h9
  have hS : va_S A s.heap s.heap [] := va_S.rf
  have hin : ∀ w ∈ wsX00, w ∈ wsX0_lapsingIn := fun _ h9 => List.mem_cons_of_mem _ (List.mem_append_right _ h9)
  have hw_0 := hts (.fieldLink RX0 13 "RoleMiner" "remembered" "[I") (by decide +kernel)
  have hw_1 := hts (.fieldLink RX0 9 "RoleMiner" "granted" "[I") (by decide +kernel)
  have hw_2 := hts (.fieldLink RX0 29 "RoleMiner" "period" "I") (by decide +kernel)
  have hl := lv_entry ([.ref x0, .int a1, .int a2]) (n := 6) (Nat.le_of_ble_eq_true rfl)
  rw [lg_entry_eq]
  generalize (lg_sl ([.ref x0, .int a1, .int a2]) ++ List.replicate (6 - (lg_sl ([.ref x0, .int a1, .int a2])).length) Slot.unset).toArray = ls at hl ⊢
  have hl : lv_has ls 6 [(0, .ref x0), (1, .int a1), (2, .int a2)] := hl
  have L5 : ∀ (n : Nat) (v3 : Int32) (v4 : Int32) (H : Heap) (locs : List Loc) (ls : Array Slot), m_X0_lapsingIn_5 fu g rm pe a1 a2 n v3 v4 = some r0 → va_P D vwCl (wX cI cJ x0 x1 x2 x3 x4 x5 x6 x7 x8 x9 g rm op rc ec su pe qt rs rn cs cn lc hc lg hg) H → va_D A (wX cI cJ x0 x1 x2 x3 x4 x5 x6 x7 x8 x9 g rm op rc ec su pe qt rs rn cs cn lc hc lg hg) → va_S A s.heap H locs → lv_has ls 6 [(0, .ref x0), (1, .int a1), (2, .int a2), (3, .int v3), (4, .int v4)] → W p l e (headSpec wsX0_lapsingIn ({ frames := 1, cells := 0, slots := 0, locals := 21 })).room s m ([.ref x0, .int a1, .int a2] : List Value).toArray below meth c H locs 0 0 (MQ below (va_Qi (fun (r : Int32) (_ : Unit) => r = r0) (fun (_ : Unit) t => bx_Post D [(cI, .int), (cJ, .long)] (wX cI cJ x0 x1 x2 x3 x4 x5 x6 x7 x8 x9 g rm op rc ec su pe qt rs rn cs cn lc hc lg hg) A t) A) ([.ref x0, .int a1, .int a2] : List Value).toArray s 0 0 A) (F0 m 5 ls []) := by
    intro n
    induction n with
    | zero =>
      intro v3 v4 H locs ls h
      rw [m_X0_lapsingIn_5] at h
      cases h
    | succ n ih =>
      intro v3 v4 H locs ls h hP hD hS hl
      rw [m_X0_lapsingIn_5] at h
      refine lv_iload hx hb dX0_lapsingIn_5 (lv_at hl 4 rfl) ?_
      refine lv_bipush (v := 12) hx hb dX0_lapsingIn_7 (by decide) ?_
      refine lv_icmp_ge (tgt := 63) hx hb dX0_lapsingIn_9 (by decide) (fun c_1 => ?_) (fun c_1 => ?_)
      · replace h := (if_pos c_1).symm.trans h
        refine lv_iload_n hx hb dX0_lapsingIn_63 rfl (lv_at hl 3 rfl) ?_
        cases h
        exact W.iret hx hb hr (fun t ht hW => ⟨⟨_, (), rfl, rfl, by rw [ht]; exact hP, va_K.moved hW.alike hK, hD⟩, hS.F ht⟩) hS.2.2 dX0_lapsingIn_64
      · replace h := (if_neg c_1).symm.trans h
        refine lv_iload_n hx hb dX0_lapsingIn_12 rfl (lv_at hl 1 rfl) ?_
        refine lv_aload_n hx hb dX0_lapsingIn_13 rfl (lv_at hl 0 rfl) ?_
        refine va_get (D := D) (ci := 0) (v := .ref x2) (C := RX0) (T := TX0) (N := 16) hx hb hts hin hown hK hP 0 rfl rfl 1 (by decide) hw_0 (fun _ h9 => h9) rfl dX0_lapsingIn_14 ?_
        refine lv_iload_n hx hb dX0_lapsingIn_17 rfl (lv_at hl 2 rfl) ?_
        refine lv_iload hx hb dX0_lapsingIn_18 (lv_at hl 4 rfl) ?_
        refine cl_Si0 (As := [.int a2, .int v4]) (rest := [.ref x2, .int a1]) ⟨hx, hb, hml, hown, hts⟩ (c_X0_grantIndex l D _ a2 v4) (va_cwS 2 hts gX0_lapsingIn_X0_grantIndex rfl rfl rfl (by decide +kernel) ⟨Nat.le_of_ble_eq_true rfl, Nat.le_of_ble_eq_true rfl⟩) hK hP hD hS hA rfl rfl hl.1 rfl (lv_room (Nat.le_of_ble_eq_true rfl)) dX0_lapsingIn_20 (fun H locs hP hD hS => ?_)
        obtain ⟨h_2, h⟩ := ix_some h
        refine va_iald hx hb hK hP 2 0 rfl rfl h_2 dX0_lapsingIn_23 ?_
        refine lv_isub hx hb dX0_lapsingIn_24 ?_
        refine lv_istore (lv' := [(5, .int (a1 - (rm (Int32.toNatClampNeg (m_X0_grantIndex a2 v4))))), (0, .ref x0), (1, .int a1), (2, .int a2), (3, .int v3), (4, .int v4)]) hx hb dX0_lapsingIn_25 hl (by decide) rfl (fun ls hl => ?_)
        refine lv_aload_n hx hb dX0_lapsingIn_27 rfl (lv_at hl 1 rfl) ?_
        refine va_get (D := D) (ci := 0) (v := .ref x1) (C := RX0) (T := TX0) (N := 16) hx hb hts hin hown hK hP 0 rfl rfl 0 (by decide) hw_1 (fun _ h9 => h9) rfl dX0_lapsingIn_28 ?_
        refine lv_iload_n hx hb dX0_lapsingIn_31 rfl (lv_at hl 3 rfl) ?_
        obtain ⟨h_3, h⟩ := ix_some h
        refine va_iald hx hb hK hP 1 0 rfl rfl h_3 dX0_lapsingIn_32 ?_
        refine lv_iload hx hb dX0_lapsingIn_33 (lv_at hl 5 rfl) ?_
        refine cl_Si0 (As := [.int (g (Int32.toNatClampNeg a2)), .int v4]) (rest := []) ⟨hx, hb, hml, hown, hts⟩ (c_X0_has l D _ (g (Int32.toNatClampNeg a2)) v4) (va_cwS 2 hts gX0_lapsingIn_X0_has rfl rfl rfl (by decide +kernel) ⟨Nat.le_of_ble_eq_true rfl, Nat.le_of_ble_eq_true rfl⟩) hK hP hD hS hA rfl rfl hl.1 rfl (lv_room (Nat.le_of_ble_eq_true rfl)) dX0_lapsingIn_35 (fun H locs hP hD hS => ?_)
        refine lv_if_eq (tgt := 57) hx hb dX0_lapsingIn_38 (by decide) (fun c_4 => ?_) (fun c_4 => ?_)
        · replace h := (if_pos c_4).symm.trans h
          refine lv_iinc (v := (v4 + 1)) (lv' := [(4, .int (v4 + 1)), (5, .int (a1 - (rm (Int32.toNatClampNeg (m_X0_grantIndex a2 v4))))), (0, .ref x0), (1, .int a1), (2, .int a2), (3, .int v3)]) hx hb dX0_lapsingIn_57 hl (k := 5) rfl rfl (by decide) rfl (fun ls hl => ?_)
          refine lv_goto (tgt := 5) hx hb dX0_lapsingIn_60 (by decide) ?_
          exact ih v3 (v4 + 1) _ _ _ h hP hD hS (lv_sub hl [2, 3, 4, 5, 0] rfl)
        · replace h := (if_neg c_4).symm.trans h
          refine lv_iload hx hb dX0_lapsingIn_41 (lv_at hl 0 rfl) ?_
          refine lv_aload_n hx hb dX0_lapsingIn_43 rfl (lv_at hl 1 rfl) ?_
          refine va_get (D := D) (ci := 0) (v := .int pe) (C := RX0) (T := TX0) (N := 16) hx hb hts hin hown hK hP 0 rfl rfl 6 (by decide) hw_2 (fun _ h9 => h9) rfl dX0_lapsingIn_44 ?_
          refine lv_icmp_lt (tgt := 57) hx hb dX0_lapsingIn_47 (by decide) (fun c_5 => ?_) (fun c_5 => ?_)
          · replace h := (if_pos c_5).symm.trans h
            refine lv_iinc (v := (v4 + 1)) (lv' := [(4, .int (v4 + 1)), (5, .int (a1 - (rm (Int32.toNatClampNeg (m_X0_grantIndex a2 v4))))), (0, .ref x0), (1, .int a1), (2, .int a2), (3, .int v3)]) hx hb dX0_lapsingIn_57 hl (k := 5) rfl rfl (by decide) rfl (fun ls hl => ?_)
            refine lv_goto (tgt := 5) hx hb dX0_lapsingIn_60 (by decide) ?_
            exact ih v3 (v4 + 1) _ _ _ h hP hD hS (lv_sub hl [2, 3, 4, 5, 0] rfl)
          · replace h := (if_neg c_5).symm.trans h
            refine lv_iload_n hx hb dX0_lapsingIn_50 rfl (lv_at hl 4 rfl) ?_
            refine lv_iconst (v := 1) hx hb dX0_lapsingIn_51 (by decide) ?_
            refine lv_iload hx hb dX0_lapsingIn_52 (lv_at hl 5 rfl) ?_
            refine lv_ishl hx hb dX0_lapsingIn_54 ?_
            refine lv_ior hx hb dX0_lapsingIn_55 ?_
            refine lv_istore_n (lv' := [(3, .int (v3 ||| (1 <<< (v4 &&& 31)))), (5, .int (a1 - (rm (Int32.toNatClampNeg (m_X0_grantIndex a2 v4))))), (0, .ref x0), (1, .int a1), (2, .int a2), (4, .int v4)]) hx hb dX0_lapsingIn_56 rfl hl (by decide) rfl (fun ls hl => ?_)
            refine lv_iinc (v := (v4 + 1)) (lv' := [(4, .int (v4 + 1)), (3, .int (v3 ||| (1 <<< (v4 &&& 31)))), (5, .int (a1 - (rm (Int32.toNatClampNeg (m_X0_grantIndex a2 v4))))), (0, .ref x0), (1, .int a1), (2, .int a2)]) hx hb dX0_lapsingIn_57 hl (k := 5) rfl rfl (by decide) rfl (fun ls hl => ?_)
            refine lv_goto (tgt := 5) hx hb dX0_lapsingIn_60 (by decide) ?_
            exact ih (v3 ||| (1 <<< (v4 &&& 31))) (v4 + 1) _ _ _ h hP hD hS (lv_sub hl [3, 4, 5, 1, 0] rfl)
  rw [m_X0_lapsingIn] at h
  refine lv_iconst (v := 0) hx hb dX0_lapsingIn_0 (by decide) ?_
  refine lv_istore_n (lv' := [(3, .int 0), (0, .ref x0), (1, .int a1), (2, .int a2)]) hx hb dX0_lapsingIn_1 rfl hl (by decide) rfl (fun ls hl => ?_)
  refine lv_iconst (v := 0) hx hb dX0_lapsingIn_2 (by decide) ?_
  refine lv_istore (lv' := [(4, .int 0), (3, .int 0), (0, .ref x0), (1, .int a1), (2, .int a2)]) hx hb dX0_lapsingIn_3 hl (by decide) rfl (fun ls hl => ?_)
  exact L5 fu 0 0 _ _ _ h hP hD hS (lv_sub hl [2, 3, 4, 1, 0] rfl)
-- X0_sharedBy
def m_X0_sharedBy_6 (fu : Nat) (g : Nat → Int32) (a1 : Int32) : Nat → Int32 → Int32 → Option ((Int32))
  | 0, _, _ => none
  | n + 1, v2, v3 => (if 8 ≤ v3 then some v2 else (if (m_X0_has a1 v3) = 0 then (m_X0_sharedBy_6 fu g a1 n v2 (v3 + 1)) else (ix v3 8 (m_X0_sharedBy_6 fu g a1 n (v2 &&& (g (Int32.toNatClampNeg v3))) (v3 + 1)))))
def m_X0_sharedBy (fu : Nat) (g : Nat → Int32) (a1 : Int32) : Option ((Int32)) := (m_X0_sharedBy_6 fu g a1 fu 4095 0)
set_option maxHeartbeats 4000000 in
set_option maxRecDepth 100000 in
theorem c_X0_sharedBy (l : Launch) (D : va_G) (cI cJ : ClassId) (x0 x1 x2 x3 x4 x5 x6 x7 x8 x9 : Nat) (sz : Nat) (g : Nat → Int32) (rm : Nat → Int32) (op : Nat → Int32) (rc : Int32) (ec : Int32) (su : Int32) (pe : Int32) (qt : Int32) (rs : Nat → Int32) (rn : Int32) (cs : Nat → Int32) (cn : Int32) (lc : Nat → Int64) (hc : Nat → Int64) (lg : Nat → Int64) (hg : Nat → Int64) (fu : Nat) (a1 : Int32) (r0 : Int32) (h : m_X0_sharedBy fu g a1 = some r0) : Met l yX0_sharedBy wsX0_sharedBy ({ frames := 1, cells := 0, slots := 0, locals := 21 }) (va_Pc [.ref x0, .int a1] (bx_Pre D [(cI, .int), (cJ, .long)] (wX cI cJ x0 x1 x2 x3 x4 x5 x6 x7 x8 x9 g rm op rc ec su pe qt rs rn cs cn lc hc lg hg) sz)) (va_Qi (fun (r : Int32) (_ : Unit) => r = r0) (fun (_ : Unit) t => bx_Post D [(cI, .int), (cJ, .long)] (wX cI cJ x0 x1 x2 x3 x4 x5 x6 x7 x8 x9 g rm op rc ec su pe qt rs rn cs cn lc hc lg hg) (va_A (wX cI cJ x0 x1 x2 x3 x4 x5 x6 x7 x8 x9 g rm op rc ec su pe qt rs rn cs cn lc hc lg hg) sz) t) (va_A (wX cI cJ x0 x1 x2 x3 x4 x5 x6 x7 x8 x9 g rm op rc ec su pe qt rs rn cs cn lc hc lg hg) sz)) 0 0 (va_A (wX cI cJ x0 x1 x2 x3 x4 x5 x6 x7 x8 x9 g rm op rc ec su pe qt rs rn cs cn lc hc lg hg) sz) := by
  refine Met.ofW (cc := cX0_sharedBy) (maxL := 4) (ret := (some .int)) (by decide) rfl ?_
  intro p e s m args below meth c s₁ B hml hv
  obtain ⟨rfl, hsz, hP, hK, hD0⟩ := hv
  have hx := B.exec
  have hb := B.bytes
  have hr := B.returns
  have hts := atoms_spec (ws := wsX0_sharedBy) B.pre
  have hown : s.vm.findClass RX0 = some m.cls := findClass_of_methodNamed B.named
  have hlocks := B.notSynchronized
  subst hsz
  have hD := hD0.self (sz := s.heap.size)
  generalize hAe : va_A (wX cI cJ x0 x1 x2 x3 x4 x5 x6 x7 x8 x9 g rm op rc ec su pe qt rs rn cs cn lc hc lg hg) s.heap.size = A at hD ⊢
  have hA : ∀ q : Nat, s.heap.size ≤ q → A q := fun q h9 => by rw [← hAe]; exact Or.inr h9
  have hS : va_S A s.heap s.heap [] := va_S.rf
  have hin : ∀ w ∈ wsX00, w ∈ wsX0_sharedBy := fun _ h9 => List.mem_cons_of_mem _ (List.mem_append_right _ h9)
  have hw_0 := hts (.fieldLink RX0 9 "RoleMiner" "granted" "[I") (by decide +kernel)
  have hl := lv_entry ([.ref x0, .int a1]) (n := 4) (Nat.le_of_ble_eq_true rfl)
  rw [lg_entry_eq]
  generalize (lg_sl ([.ref x0, .int a1]) ++ List.replicate (4 - (lg_sl ([.ref x0, .int a1])).length) Slot.unset).toArray = ls at hl ⊢
  have hl : lv_has ls 4 [(0, .ref x0), (1, .int a1)] := hl
  have L6 : ∀ (n : Nat) (v2 : Int32) (v3 : Int32) (H : Heap) (locs : List Loc) (ls : Array Slot), m_X0_sharedBy_6 fu g a1 n v2 v3 = some r0 → va_P D vwCl (wX cI cJ x0 x1 x2 x3 x4 x5 x6 x7 x8 x9 g rm op rc ec su pe qt rs rn cs cn lc hc lg hg) H → va_D A (wX cI cJ x0 x1 x2 x3 x4 x5 x6 x7 x8 x9 g rm op rc ec su pe qt rs rn cs cn lc hc lg hg) → va_S A s.heap H locs → lv_has ls 4 [(0, .ref x0), (1, .int a1), (2, .int v2), (3, .int v3)] → W p l e (headSpec wsX0_sharedBy ({ frames := 1, cells := 0, slots := 0, locals := 21 })).room s m ([.ref x0, .int a1] : List Value).toArray below meth c H locs 0 0 (MQ below (va_Qi (fun (r : Int32) (_ : Unit) => r = r0) (fun (_ : Unit) t => bx_Post D [(cI, .int), (cJ, .long)] (wX cI cJ x0 x1 x2 x3 x4 x5 x6 x7 x8 x9 g rm op rc ec su pe qt rs rn cs cn lc hc lg hg) A t) A) ([.ref x0, .int a1] : List Value).toArray s 0 0 A) (F0 m 6 ls []) := by
    intro n
    induction n with
    | zero =>
      intro v2 v3 H locs ls h
      rw [m_X0_sharedBy_6] at h
      cases h
    | succ n ih =>
      intro v2 v3 H locs ls h hP hD hS hl
      rw [m_X0_sharedBy_6] at h
      refine lv_iload_n hx hb dX0_sharedBy_6 rfl (lv_at hl 3 rfl) ?_
      refine lv_bipush (v := 8) hx hb dX0_sharedBy_7 (by decide) ?_
      refine lv_icmp_ge (tgt := 35) hx hb dX0_sharedBy_9 (by decide) (fun c_1 => ?_) (fun c_1 => ?_)
      · replace h := (if_pos c_1).symm.trans h
        refine lv_iload_n hx hb dX0_sharedBy_35 rfl (lv_at hl 2 rfl) ?_
        cases h
        exact W.iret hx hb hr (fun t ht hW => ⟨⟨_, (), rfl, rfl, by rw [ht]; exact hP, va_K.moved hW.alike hK, hD⟩, hS.F ht⟩) hS.2.2 dX0_sharedBy_36
      · replace h := (if_neg c_1).symm.trans h
        refine lv_iload_n hx hb dX0_sharedBy_12 rfl (lv_at hl 1 rfl) ?_
        refine lv_iload_n hx hb dX0_sharedBy_13 rfl (lv_at hl 3 rfl) ?_
        refine cl_Si0 (As := [.int a1, .int v3]) (rest := []) ⟨hx, hb, hml, hown, hts⟩ (c_X0_has l D _ a1 v3) (va_cwS 2 hts gX0_sharedBy_X0_has rfl rfl rfl (by decide +kernel) ⟨Nat.le_of_ble_eq_true rfl, Nat.le_of_ble_eq_true rfl⟩) hK hP hD hS hA rfl rfl hl.1 rfl (lv_room (Nat.le_of_ble_eq_true rfl)) dX0_sharedBy_14 (fun H locs hP hD hS => ?_)
        refine lv_if_eq (tgt := 29) hx hb dX0_sharedBy_17 (by decide) (fun c_2 => ?_) (fun c_2 => ?_)
        · replace h := (if_pos c_2).symm.trans h
          refine lv_iinc (v := (v3 + 1)) (lv' := [(3, .int (v3 + 1)), (0, .ref x0), (1, .int a1), (2, .int v2)]) hx hb dX0_sharedBy_29 hl (k := 3) rfl rfl (by decide) rfl (fun ls hl => ?_)
          refine lv_goto (tgt := 6) hx hb dX0_sharedBy_32 (by decide) ?_
          exact ih v2 (v3 + 1) _ _ _ h hP hD hS (lv_sub hl [1, 2, 3, 0] rfl)
        · replace h := (if_neg c_2).symm.trans h
          refine lv_iload_n hx hb dX0_sharedBy_20 rfl (lv_at hl 2 rfl) ?_
          refine lv_aload_n hx hb dX0_sharedBy_21 rfl (lv_at hl 0 rfl) ?_
          refine va_get (D := D) (ci := 0) (v := .ref x1) (C := RX0) (T := TX0) (N := 16) hx hb hts hin hown hK hP 0 rfl rfl 0 (by decide) hw_0 (fun _ h9 => h9) rfl dX0_sharedBy_22 ?_
          refine lv_iload_n hx hb dX0_sharedBy_25 rfl (lv_at hl 3 rfl) ?_
          obtain ⟨h_3, h⟩ := ix_some h
          refine va_iald hx hb hK hP 1 0 rfl rfl h_3 dX0_sharedBy_26 ?_
          refine lv_iand hx hb dX0_sharedBy_27 ?_
          refine lv_istore_n (lv' := [(2, .int (v2 &&& (g (Int32.toNatClampNeg v3)))), (0, .ref x0), (1, .int a1), (3, .int v3)]) hx hb dX0_sharedBy_28 rfl hl (by decide) rfl (fun ls hl => ?_)
          refine lv_iinc (v := (v3 + 1)) (lv' := [(3, .int (v3 + 1)), (2, .int (v2 &&& (g (Int32.toNatClampNeg v3)))), (0, .ref x0), (1, .int a1)]) hx hb dX0_sharedBy_29 hl (k := 3) rfl rfl (by decide) rfl (fun ls hl => ?_)
          refine lv_goto (tgt := 6) hx hb dX0_sharedBy_32 (by decide) ?_
          exact ih (v2 &&& (g (Int32.toNatClampNeg v3))) (v3 + 1) _ _ _ h hP hD hS (lv_sub hl [2, 3, 1, 0] rfl)
  rw [m_X0_sharedBy] at h
  refine lv_sipush (v := 4095) hx hb dX0_sharedBy_0 (by decide) ?_
  refine lv_istore_n (lv' := [(2, .int 4095), (0, .ref x0), (1, .int a1)]) hx hb dX0_sharedBy_3 rfl hl (by decide) rfl (fun ls hl => ?_)
  refine lv_iconst (v := 0) hx hb dX0_sharedBy_4 (by decide) ?_
  refine lv_istore_n (lv' := [(3, .int 0), (2, .int 4095), (0, .ref x0), (1, .int a1)]) hx hb dX0_sharedBy_5 rfl hl (by decide) rfl (fun ls hl => ?_)
  exact L6 fu 4095 0 _ _ _ h hP hD hS (lv_sub hl [2, 3, 1, 0] rfl)
-- X0_isProper
def m_X0_isProper_2 (fu : Nat) (op : Nat → Int32) (a1 : Int32) : Nat → Int32 → Option ((Int32))
  | 0, _ => none
  | n + 1, v2 => (if 12 ≤ v2 then some 1 else (if (m_X0_has a1 v2) = 0 then (m_X0_isProper_2 fu op a1 n (v2 + 1)) else (ix v2 12 (if ((op (Int32.toNatClampNeg v2)) &&& a1) = 0 then (m_X0_isProper_2 fu op a1 n (v2 + 1)) else some 0))))
def m_X0_isProper (fu : Nat) (op : Nat → Int32) (a1 : Int32) : Option ((Int32)) := (m_X0_isProper_2 fu op a1 fu 0)
set_option maxHeartbeats 4000000 in
set_option maxRecDepth 100000 in
theorem c_X0_isProper (l : Launch) (D : va_G) (cI cJ : ClassId) (x0 x1 x2 x3 x4 x5 x6 x7 x8 x9 : Nat) (sz : Nat) (g : Nat → Int32) (rm : Nat → Int32) (op : Nat → Int32) (rc : Int32) (ec : Int32) (su : Int32) (pe : Int32) (qt : Int32) (rs : Nat → Int32) (rn : Int32) (cs : Nat → Int32) (cn : Int32) (lc : Nat → Int64) (hc : Nat → Int64) (lg : Nat → Int64) (hg : Nat → Int64) (fu : Nat) (a1 : Int32) (r0 : Int32) (h : m_X0_isProper fu op a1 = some r0) : Met l yX0_isProper wsX0_isProper ({ frames := 1, cells := 0, slots := 0, locals := 21 }) (va_Pc [.ref x0, .int a1] (bx_Pre D [(cI, .int), (cJ, .long)] (wX cI cJ x0 x1 x2 x3 x4 x5 x6 x7 x8 x9 g rm op rc ec su pe qt rs rn cs cn lc hc lg hg) sz)) (va_Qi (fun (r : Int32) (_ : Unit) => r = r0) (fun (_ : Unit) t => bx_Post D [(cI, .int), (cJ, .long)] (wX cI cJ x0 x1 x2 x3 x4 x5 x6 x7 x8 x9 g rm op rc ec su pe qt rs rn cs cn lc hc lg hg) (va_A (wX cI cJ x0 x1 x2 x3 x4 x5 x6 x7 x8 x9 g rm op rc ec su pe qt rs rn cs cn lc hc lg hg) sz) t) (va_A (wX cI cJ x0 x1 x2 x3 x4 x5 x6 x7 x8 x9 g rm op rc ec su pe qt rs rn cs cn lc hc lg hg) sz)) 0 0 (va_A (wX cI cJ x0 x1 x2 x3 x4 x5 x6 x7 x8 x9 g rm op rc ec su pe qt rs rn cs cn lc hc lg hg) sz) := by
  refine Met.ofW (cc := cX0_isProper) (maxL := 3) (ret := (some .boolean)) (by decide) rfl ?_
  intro p e s m args below meth c s₁ B hml hv
  obtain ⟨rfl, hsz, hP, hK, hD0⟩ := hv
  have hx := B.exec
  have hb := B.bytes
  have hr := B.returns
  have hts := atoms_spec (ws := wsX0_isProper) B.pre
  have hown : s.vm.findClass RX0 = some m.cls := findClass_of_methodNamed B.named
  have hlocks := B.notSynchronized
  subst hsz
  have hD := hD0.self (sz := s.heap.size)
  generalize hAe : va_A (wX cI cJ x0 x1 x2 x3 x4 x5 x6 x7 x8 x9 g rm op rc ec su pe qt rs rn cs cn lc hc lg hg) s.heap.size = A at hD ⊢
  have hA : ∀ q : Nat, s.heap.size ≤ q → A q := fun q h9 => by rw [← hAe]; exact Or.inr h9
  have hS : va_S A s.heap s.heap [] := va_S.rf
  have hin : ∀ w ∈ wsX00, w ∈ wsX0_isProper := fun _ h9 => List.mem_cons_of_mem _ (List.mem_append_right _ h9)
  have hw_0 := hts (.fieldLink RX0 16 "RoleMiner" "opposed" "[I") (by decide +kernel)
  have hl := lv_entry ([.ref x0, .int a1]) (n := 3) (Nat.le_of_ble_eq_true rfl)
  rw [lg_entry_eq]
  generalize (lg_sl ([.ref x0, .int a1]) ++ List.replicate (3 - (lg_sl ([.ref x0, .int a1])).length) Slot.unset).toArray = ls at hl ⊢
  have hl : lv_has ls 3 [(0, .ref x0), (1, .int a1)] := hl
  have L2 : ∀ (n : Nat) (v2 : Int32) (H : Heap) (locs : List Loc) (ls : Array Slot), m_X0_isProper_2 fu op a1 n v2 = some r0 → va_P D vwCl (wX cI cJ x0 x1 x2 x3 x4 x5 x6 x7 x8 x9 g rm op rc ec su pe qt rs rn cs cn lc hc lg hg) H → va_D A (wX cI cJ x0 x1 x2 x3 x4 x5 x6 x7 x8 x9 g rm op rc ec su pe qt rs rn cs cn lc hc lg hg) → va_S A s.heap H locs → lv_has ls 3 [(0, .ref x0), (1, .int a1), (2, .int v2)] → W p l e (headSpec wsX0_isProper ({ frames := 1, cells := 0, slots := 0, locals := 21 })).room s m ([.ref x0, .int a1] : List Value).toArray below meth c H locs 0 0 (MQ below (va_Qi (fun (r : Int32) (_ : Unit) => r = r0) (fun (_ : Unit) t => bx_Post D [(cI, .int), (cJ, .long)] (wX cI cJ x0 x1 x2 x3 x4 x5 x6 x7 x8 x9 g rm op rc ec su pe qt rs rn cs cn lc hc lg hg) A t) A) ([.ref x0, .int a1] : List Value).toArray s 0 0 A) (F0 m 2 ls []) := by
    intro n
    induction n with
    | zero =>
      intro v2 H locs ls h
      rw [m_X0_isProper_2] at h
      cases h
    | succ n ih =>
      intro v2 H locs ls h hP hD hS hl
      rw [m_X0_isProper_2] at h
      refine lv_iload_n hx hb dX0_isProper_2 rfl (lv_at hl 2 rfl) ?_
      refine lv_bipush (v := 12) hx hb dX0_isProper_3 (by decide) ?_
      refine lv_icmp_ge (tgt := 35) hx hb dX0_isProper_5 (by decide) (fun c_1 => ?_) (fun c_1 => ?_)
      · replace h := (if_pos c_1).symm.trans h
        refine lv_iconst (v := 1) hx hb dX0_isProper_35 (by decide) ?_
        cases h
        exact W.zret hx hb hr rfl (fun t ht hW => ⟨⟨_, (), rfl, rfl, by rw [ht]; exact hP, va_K.moved hW.alike hK, hD⟩, hS.F ht⟩) hS.2.2 dX0_isProper_36
      · replace h := (if_neg c_1).symm.trans h
        refine lv_iload_n hx hb dX0_isProper_8 rfl (lv_at hl 1 rfl) ?_
        refine lv_iload_n hx hb dX0_isProper_9 rfl (lv_at hl 2 rfl) ?_
        refine cl_Si0 (As := [.int a1, .int v2]) (rest := []) ⟨hx, hb, hml, hown, hts⟩ (c_X0_has l D _ a1 v2) (va_cwS 2 hts gX0_isProper_X0_has rfl rfl rfl (by decide +kernel) ⟨Nat.le_of_ble_eq_true rfl, Nat.le_of_ble_eq_true rfl⟩) hK hP hD hS hA rfl rfl hl.1 rfl (lv_room (Nat.le_of_ble_eq_true rfl)) dX0_isProper_10 (fun H locs hP hD hS => ?_)
        refine lv_if_eq (tgt := 29) hx hb dX0_isProper_13 (by decide) (fun c_2 => ?_) (fun c_2 => ?_)
        · replace h := (if_pos c_2).symm.trans h
          refine lv_iinc (v := (v2 + 1)) (lv' := [(2, .int (v2 + 1)), (0, .ref x0), (1, .int a1)]) hx hb dX0_isProper_29 hl (k := 2) rfl rfl (by decide) rfl (fun ls hl => ?_)
          refine lv_goto (tgt := 2) hx hb dX0_isProper_32 (by decide) ?_
          exact ih (v2 + 1) _ _ _ h hP hD hS (lv_sub hl [1, 2, 0] rfl)
        · replace h := (if_neg c_2).symm.trans h
          refine lv_aload_n hx hb dX0_isProper_16 rfl (lv_at hl 0 rfl) ?_
          refine va_get (D := D) (ci := 0) (v := .ref x3) (C := RX0) (T := TX0) (N := 16) hx hb hts hin hown hK hP 0 rfl rfl 2 (by decide) hw_0 (fun _ h9 => h9) rfl dX0_isProper_17 ?_
          refine lv_iload_n hx hb dX0_isProper_20 rfl (lv_at hl 2 rfl) ?_
          obtain ⟨h_3, h⟩ := ix_some h
          refine va_iald hx hb hK hP 3 0 rfl rfl h_3 dX0_isProper_21 ?_
          refine lv_iload_n hx hb dX0_isProper_22 rfl (lv_at hl 1 rfl) ?_
          refine lv_iand hx hb dX0_isProper_23 ?_
          refine lv_if_eq (tgt := 29) hx hb dX0_isProper_24 (by decide) (fun c_4 => ?_) (fun c_4 => ?_)
          · replace h := (if_pos c_4).symm.trans h
            refine lv_iinc (v := (v2 + 1)) (lv' := [(2, .int (v2 + 1)), (0, .ref x0), (1, .int a1)]) hx hb dX0_isProper_29 hl (k := 2) rfl rfl (by decide) rfl (fun ls hl => ?_)
            refine lv_goto (tgt := 2) hx hb dX0_isProper_32 (by decide) ?_
            exact ih (v2 + 1) _ _ _ h hP hD hS (lv_sub hl [1, 2, 0] rfl)
          · replace h := (if_neg c_4).symm.trans h
            refine lv_iconst (v := 0) hx hb dX0_isProper_27 (by decide) ?_
            cases h
            exact W.zret hx hb hr rfl (fun t ht hW => ⟨⟨_, (), rfl, rfl, by rw [ht]; exact hP, va_K.moved hW.alike hK, hD⟩, hS.F ht⟩) hS.2.2 dX0_isProper_28
  rw [m_X0_isProper] at h
  refine lv_iconst (v := 0) hx hb dX0_isProper_0 (by decide) ?_
  refine lv_istore_n (lv' := [(2, .int 0), (0, .ref x0), (1, .int a1)]) hx hb dX0_isProper_1 rfl hl (by decide) rfl (fun ls hl => ?_)
  exact L2 fu 0 _ _ _ h hP hD hS (lv_sub hl [1, 2, 0] rfl)
-- X0_insertInOrder
def m_X0_insertInOrder_14 (fu : Nat) (a1 : Int32) (a2 : Int32) : Nat → Int32 → (Nat → Int32) → Option ((Int32) × (Nat → Int32))
  | 0, _, _ => none
  | n + 1, v3, f => (if v3 ≤ 0 then (ix v3 255 (some ((a1 + 1), (upd f (Int32.toNatClampNeg v3) a2)))) else (ix (v3 - 1) 255 (if (f (Int32.toNatClampNeg (v3 - 1))) ≤ a2 then (ix v3 255 (some ((a1 + 1), (upd f (Int32.toNatClampNeg v3) a2)))) else (ix v3 255 (m_X0_insertInOrder_14 fu a1 a2 n (v3 + (-1)) (upd f (Int32.toNatClampNeg v3) (f (Int32.toNatClampNeg (v3 - 1)))))))))
def m_X0_insertInOrder (fu : Nat) (f : Nat → Int32) (a1 : Int32) (a2 : Int32) : Option ((Int32) × (Nat → Int32)) := (if a1 < 0 then some (a1, f) else (if a1 < 255 then (m_X0_insertInOrder_14 fu a1 a2 fu a1 f) else some (a1, f)))
set_option maxHeartbeats 4000000 in
set_option maxRecDepth 100000 in
theorem c_X0_insertInOrder (l : Launch) (D : va_G) (cI cJ : ClassId) (a0 : Nat) (sz : Nat) (f : Nat → Int32) (fu : Nat) (a1 : Int32) (a2 : Int32) (r0 : Int32) (f' : Nat → Int32) (h : m_X0_insertInOrder fu f a1 a2 = some (r0, f')) : Met l yX0_insertInOrder wsX0_insertInOrder ({ frames := 0, cells := 0, slots := 0, locals := 0 }) (va_Pc [.ref a0, .int a1, .int a2] (bx_Pre D [(cI, .int), (cJ, .long)] ([(a0, .inl (cI, 255, .inl f))]) sz)) (va_Qi (fun (r : Int32) (_ : Unit) => r = r0) (fun (_ : Unit) t => bx_Post D [(cI, .int), (cJ, .long)] ([(a0, .inl (cI, 255, .inl f'))]) (va_A ([(a0, .inl (cI, 255, .inl f))]) sz) t) (va_A ([(a0, .inl (cI, 255, .inl f))]) sz)) 0 0 (va_A ([(a0, .inl (cI, 255, .inl f))]) sz) := by
  refine Met.ofW (cc := cX0_insertInOrder) (maxL := 4) (ret := (some .int)) (by decide) rfl ?_
  intro p e s m args below meth c s₁ B hml hv
  obtain ⟨rfl, hsz, hP, hK, hD0⟩ := hv
  have hx := B.exec
  have hb := B.bytes
  have hr := B.returns
  have hts := atoms_spec (ws := wsX0_insertInOrder) B.pre
  have hown : s.vm.findClass RX0 = some m.cls := findClass_of_methodNamed B.named
  have hlocks := B.notSynchronized
  subst hsz
  have hD := hD0.self (sz := s.heap.size)
  generalize hAe : va_A ([(a0, .inl (cI, 255, .inl f))]) s.heap.size = A at hD ⊢
  have hA : ∀ q : Nat, s.heap.size ≤ q → A q := fun q h9 => by rw [← hAe]; exact Or.inr h9
  have hS : va_S A s.heap s.heap [] := va_S.rf
  have hl := lv_entry ([.ref a0, .int a1, .int a2]) (n := 4) (Nat.le_of_ble_eq_true rfl)
  rw [lg_entry_eq]
  generalize (lg_sl ([.ref a0, .int a1, .int a2]) ++ List.replicate (4 - (lg_sl ([.ref a0, .int a1, .int a2])).length) Slot.unset).toArray = ls at hl ⊢
  have hl : lv_has ls 4 [(0, .ref a0), (1, .int a1), (2, .int a2)] := hl
  have L14 : ∀ (n : Nat) (v3 : Int32) (f : Nat → Int32) (H : Heap) (locs : List Loc) (ls : Array Slot), m_X0_insertInOrder_14 fu a1 a2 n v3 f = some (r0, f') → va_P D vwCl ([(a0, .inl (cI, 255, .inl f))]) H → va_D A ([(a0, .inl (cI, 255, .inl f))]) → va_S A s.heap H locs → lv_has ls 4 [(0, .ref a0), (1, .int a1), (2, .int a2), (3, .int v3)] → W p l e (headSpec wsX0_insertInOrder ({ frames := 0, cells := 0, slots := 0, locals := 0 })).room s m ([.ref a0, .int a1, .int a2] : List Value).toArray below meth c H locs 0 0 (MQ below (va_Qi (fun (r : Int32) (_ : Unit) => r = r0) (fun (_ : Unit) t => bx_Post D [(cI, .int), (cJ, .long)] ([(a0, .inl (cI, 255, .inl f'))]) A t) A) ([.ref a0, .int a1, .int a2] : List Value).toArray s 0 0 A) (F0 m 14 ls []) := by
    intro n
    induction n with
    | zero =>
      intro v3 f H locs ls h
      rw [m_X0_insertInOrder_14] at h
      cases h
    | succ n ih =>
      intro v3 f H locs ls h hP hD hS hl
      rw [m_X0_insertInOrder_14] at h
      refine lv_iload_n hx hb dX0_insertInOrder_14 rfl (lv_at hl 3 rfl) ?_
      refine lv_if_le (tgt := 41) hx hb dX0_insertInOrder_15 (by decide) (fun c_3 => ?_) (fun c_3 => ?_)
      · replace h := (if_pos c_3).symm.trans h
        refine lv_aload_n hx hb dX0_insertInOrder_41 rfl (lv_at hl 0 rfl) ?_
        refine lv_iload_n hx hb dX0_insertInOrder_42 rfl (lv_at hl 3 rfl) ?_
        refine lv_iload_n hx hb dX0_insertInOrder_43 rfl (lv_at hl 2 rfl) ?_
        obtain ⟨h_4, h⟩ := ix_some h
        refine va_iast hx hb hK hP hD hS 0 0 rfl rfl h_4 dX0_insertInOrder_44 (fun H locs hP hD hS => ?_)
        have hP : va_P D vwCl ([(a0, .inl (cI, 255, .inl (upd f (Int32.toNatClampNeg v3) a2)))]) H := hP
        have hD : va_D A ([(a0, .inl (cI, 255, .inl (upd f (Int32.toNatClampNeg v3) a2)))]) := hD
        refine lv_iload_n hx hb dX0_insertInOrder_45 rfl (lv_at hl 1 rfl) ?_
        refine lv_iconst (v := 1) hx hb dX0_insertInOrder_46 (by decide) ?_
        refine lv_iadd hx hb dX0_insertInOrder_47 ?_
        cases h
        exact W.iret hx hb hr (fun t ht hW => ⟨⟨_, (), rfl, rfl, by rw [ht]; exact hP, va_K.moved hW.alike hK, hD⟩, hS.F ht⟩) hS.2.2 dX0_insertInOrder_48
      · replace h := (if_neg c_3).symm.trans h
        refine lv_aload_n hx hb dX0_insertInOrder_18 rfl (lv_at hl 0 rfl) ?_
        refine lv_iload_n hx hb dX0_insertInOrder_19 rfl (lv_at hl 3 rfl) ?_
        refine lv_iconst (v := 1) hx hb dX0_insertInOrder_20 (by decide) ?_
        refine lv_isub hx hb dX0_insertInOrder_21 ?_
        obtain ⟨h_5, h⟩ := ix_some h
        refine va_iald hx hb hK hP 0 0 rfl rfl h_5 dX0_insertInOrder_22 ?_
        refine lv_iload_n hx hb dX0_insertInOrder_23 rfl (lv_at hl 2 rfl) ?_
        refine lv_icmp_le (tgt := 41) hx hb dX0_insertInOrder_24 (by decide) (fun c_6 => ?_) (fun c_6 => ?_)
        · replace h := (if_pos c_6).symm.trans h
          refine lv_aload_n hx hb dX0_insertInOrder_41 rfl (lv_at hl 0 rfl) ?_
          refine lv_iload_n hx hb dX0_insertInOrder_42 rfl (lv_at hl 3 rfl) ?_
          refine lv_iload_n hx hb dX0_insertInOrder_43 rfl (lv_at hl 2 rfl) ?_
          obtain ⟨h_7, h⟩ := ix_some h
          refine va_iast hx hb hK hP hD hS 0 0 rfl rfl h_7 dX0_insertInOrder_44 (fun H locs hP hD hS => ?_)
          have hP : va_P D vwCl ([(a0, .inl (cI, 255, .inl (upd f (Int32.toNatClampNeg v3) a2)))]) H := hP
          have hD : va_D A ([(a0, .inl (cI, 255, .inl (upd f (Int32.toNatClampNeg v3) a2)))]) := hD
          refine lv_iload_n hx hb dX0_insertInOrder_45 rfl (lv_at hl 1 rfl) ?_
          refine lv_iconst (v := 1) hx hb dX0_insertInOrder_46 (by decide) ?_
          refine lv_iadd hx hb dX0_insertInOrder_47 ?_
          cases h
          exact W.iret hx hb hr (fun t ht hW => ⟨⟨_, (), rfl, rfl, by rw [ht]; exact hP, va_K.moved hW.alike hK, hD⟩, hS.F ht⟩) hS.2.2 dX0_insertInOrder_48
        · replace h := (if_neg c_6).symm.trans h
          refine lv_aload_n hx hb dX0_insertInOrder_27 rfl (lv_at hl 0 rfl) ?_
          refine lv_iload_n hx hb dX0_insertInOrder_28 rfl (lv_at hl 3 rfl) ?_
          refine lv_aload_n hx hb dX0_insertInOrder_29 rfl (lv_at hl 0 rfl) ?_
          refine lv_iload_n hx hb dX0_insertInOrder_30 rfl (lv_at hl 3 rfl) ?_
          refine lv_iconst (v := 1) hx hb dX0_insertInOrder_31 (by decide) ?_
          refine lv_isub hx hb dX0_insertInOrder_32 ?_
          refine va_iald hx hb hK hP 0 0 rfl rfl h_5 dX0_insertInOrder_33 ?_
          obtain ⟨h_8, h⟩ := ix_some h
          refine va_iast hx hb hK hP hD hS 0 0 rfl rfl h_8 dX0_insertInOrder_34 (fun H locs hP hD hS => ?_)
          have hP : va_P D vwCl ([(a0, .inl (cI, 255, .inl (upd f (Int32.toNatClampNeg v3) (f (Int32.toNatClampNeg (v3 - 1))))))]) H := hP
          have hD : va_D A ([(a0, .inl (cI, 255, .inl (upd f (Int32.toNatClampNeg v3) (f (Int32.toNatClampNeg (v3 - 1))))))]) := hD
          refine lv_iinc (v := (v3 + (-1))) (lv' := [(3, .int (v3 + (-1))), (0, .ref a0), (1, .int a1), (2, .int a2)]) hx hb dX0_insertInOrder_35 hl (k := 3) rfl rfl (by decide) rfl (fun ls hl => ?_)
          refine lv_goto (tgt := 14) hx hb dX0_insertInOrder_38 (by decide) ?_
          exact ih (v3 + (-1)) (upd f (Int32.toNatClampNeg v3) (f (Int32.toNatClampNeg (v3 - 1)))) _ _ _ h hP hD hS (lv_sub hl [1, 2, 3, 0] rfl)
  rw [m_X0_insertInOrder] at h
  refine lv_iload_n hx hb dX0_insertInOrder_0 rfl (lv_at hl 1 rfl) ?_
  refine lv_if_lt (tgt := 10) hx hb dX0_insertInOrder_1 (by decide) (fun c_1 => ?_) (fun c_1 => ?_)
  · replace h := (if_pos c_1).symm.trans h
    refine lv_iload_n hx hb dX0_insertInOrder_10 rfl (lv_at hl 1 rfl) ?_
    cases h
    exact W.iret hx hb hr (fun t ht hW => ⟨⟨_, (), rfl, rfl, by rw [ht]; exact hP, va_K.moved hW.alike hK, hD⟩, hS.F ht⟩) hS.2.2 dX0_insertInOrder_11
  · replace h := (if_neg c_1).symm.trans h
    refine lv_iload_n hx hb dX0_insertInOrder_4 rfl (lv_at hl 1 rfl) ?_
    refine lv_aload_n hx hb dX0_insertInOrder_5 rfl (lv_at hl 0 rfl) ?_
    refine va_alen (v := 255) hx hb hK hP 0 0 rfl rfl rfl dX0_insertInOrder_6 ?_
    refine lv_icmp_lt (tgt := 12) hx hb dX0_insertInOrder_7 (by decide) (fun c_2 => ?_) (fun c_2 => ?_)
    · replace h := (if_pos c_2).symm.trans h
      refine lv_iload_n hx hb dX0_insertInOrder_12 rfl (lv_at hl 1 rfl) ?_
      refine lv_istore_n (lv' := [(3, .int a1), (0, .ref a0), (1, .int a1), (2, .int a2)]) hx hb dX0_insertInOrder_13 rfl hl (by decide) rfl (fun ls hl => ?_)
      exact L14 fu a1 f _ _ _ h hP hD hS (lv_sub hl [1, 2, 3, 0] rfl)
    · replace h := (if_neg c_2).symm.trans h
      refine lv_iload_n hx hb dX0_insertInOrder_10 rfl (lv_at hl 1 rfl) ?_
      cases h
      exact W.iret hx hb hr (fun t ht hW => ⟨⟨_, (), rfl, rfl, by rw [ht]; exact hP, va_K.moved hW.alike hK, hD⟩, hS.F ht⟩) hS.2.2 dX0_insertInOrder_11
-- X0_findCover
def m_X0_findCover_15 (fu : Nat) (g : Nat → Int32) (cs : Nat → Int32) (a1 : Int32) : Nat → Int32 → Int64 → Int64 → Int32 → (Nat → Int64) → (Nat → Int64) → Option (((Nat → Int64)) × ((Nat → Int64)))
  | 0, _, _, _, _, _, _ => none
  | n + 1, v2, v3, v5, v7, lc, hc => (if 8 ≤ v7 then (ix a1 255 (some ((vp_updL lc (Int32.toNatClampNeg a1) v3), (vp_updL hc (Int32.toNatClampNeg a1) v5)))) else (bnd1 (m_X0_holds g v7 v2) (fun r_4 => (if r_4 = 0 then (m_X0_findCover_15 fu g cs a1 n v2 v3 v5 (v7 + 1) lc hc) else (m_X0_findCover_15 fu g cs a1 n v2 (v3 ||| (m_X0_lowPart v7 v2)) (v5 ||| (m_X0_highPart v7 v2)) (v7 + 1) lc hc)))))
def m_X0_findCover (fu : Nat) (g : Nat → Int32) (cs : Nat → Int32) (lc : Nat → Int64) (hc : Nat → Int64) (a1 : Int32) : Option (((Nat → Int64)) × ((Nat → Int64))) := (ix a1 255 (m_X0_findCover_15 fu g cs a1 fu (cs (Int32.toNatClampNeg a1)) (0 : Int64) (0 : Int64) 0 lc hc))
set_option maxHeartbeats 4000000 in
set_option maxRecDepth 100000 in
theorem c_X0_findCover (l : Launch) (D : va_G) (cI cJ : ClassId) (x0 x1 x2 x3 x4 x5 x6 x7 x8 x9 : Nat) (sz : Nat) (g : Nat → Int32) (rm : Nat → Int32) (op : Nat → Int32) (rc : Int32) (ec : Int32) (su : Int32) (pe : Int32) (qt : Int32) (rs : Nat → Int32) (rn : Int32) (cs : Nat → Int32) (cn : Int32) (lc : Nat → Int64) (hc : Nat → Int64) (lg : Nat → Int64) (hg : Nat → Int64) (fu : Nat) (a1 : Int32) (lc' : Nat → Int64) (hc' : Nat → Int64) (h : m_X0_findCover fu g cs lc hc a1 = some (lc', hc')) : Met l yX0_findCover wsX0_findCover ({ frames := 1, cells := 0, slots := 0, locals := 22 }) (va_Pc [.ref x0, .int a1] (bx_Pre D [(cI, .int), (cJ, .long)] (wX cI cJ x0 x1 x2 x3 x4 x5 x6 x7 x8 x9 g rm op rc ec su pe qt rs rn cs cn lc hc lg hg) sz)) (va_Qv (fun (_ : Unit) => True) (fun (_ : Unit) t => bx_Post D [(cI, .int), (cJ, .long)] (wX cI cJ x0 x1 x2 x3 x4 x5 x6 x7 x8 x9 g rm op rc ec su pe qt rs rn cs cn lc' hc' lg hg) (va_A (wX cI cJ x0 x1 x2 x3 x4 x5 x6 x7 x8 x9 g rm op rc ec su pe qt rs rn cs cn lc hc lg hg) sz) t) (va_A (wX cI cJ x0 x1 x2 x3 x4 x5 x6 x7 x8 x9 g rm op rc ec su pe qt rs rn cs cn lc hc lg hg) sz)) 0 0 (va_A (wX cI cJ x0 x1 x2 x3 x4 x5 x6 x7 x8 x9 g rm op rc ec su pe qt rs rn cs cn lc hc lg hg) sz) := by
  refine Met.ofW (cc := cX0_findCover) (maxL := 8) (ret := none) (by decide) rfl ?_
  intro p e s m args below meth c s₁ B hml hv
  obtain ⟨rfl, hsz, hP, hK, hD0⟩ := hv
  have hx := B.exec
  have hb := B.bytes
  have hr := B.returns
  have hts := atoms_spec (ws := wsX0_findCover) B.pre
  have hown : s.vm.findClass RX0 = some m.cls := findClass_of_methodNamed B.named
  have hlocks := B.notSynchronized
  subst hsz
  have hD := hD0.self (sz := s.heap.size)
  generalize hAe : va_A (wX cI cJ x0 x1 x2 x3 x4 x5 x6 x7 x8 x9 g rm op rc ec su pe qt rs rn cs cn lc hc lg hg) s.heap.size = A at hD ⊢
  have hA : ∀ q : Nat, s.heap.size ≤ q → A q := fun q h9 => by rw [← hAe]; exact Or.inr h9
  have hS : va_S A s.heap s.heap [] := va_S.rf
  have hin : ∀ w ∈ wsX00, w ∈ wsX0_findCover := fun _ h9 => List.mem_cons_of_mem _ (List.mem_append_right _ h9)
  have hw_0 := hts (.fieldLink RX0 41 "RoleMiner" "candidateSets" "[I") (by decide +kernel)
  have hw_1 := hts (.fieldLink RX0 47 "RoleMiner" "lowCover" "[J") (by decide +kernel)
  have hw_2 := hts (.fieldLink RX0 51 "RoleMiner" "highCover" "[J") (by decide +kernel)
  have hl := lv_entry ([.ref x0, .int a1]) (n := 8) (Nat.le_of_ble_eq_true rfl)
  rw [lg_entry_eq]
  generalize (lg_sl ([.ref x0, .int a1]) ++ List.replicate (8 - (lg_sl ([.ref x0, .int a1])).length) Slot.unset).toArray = ls at hl ⊢
  have hl : lv_has ls 8 [(0, .ref x0), (1, .int a1)] := hl
  have L15 : ∀ (n : Nat) (v2 : Int32) (v3 : Int64) (v5 : Int64) (v7 : Int32) (lc : Nat → Int64) (hc : Nat → Int64) (H : Heap) (locs : List Loc) (ls : Array Slot), m_X0_findCover_15 fu g cs a1 n v2 v3 v5 v7 lc hc = some (lc', hc') → va_P D vwCl (wX cI cJ x0 x1 x2 x3 x4 x5 x6 x7 x8 x9 g rm op rc ec su pe qt rs rn cs cn lc hc lg hg) H → va_D A (wX cI cJ x0 x1 x2 x3 x4 x5 x6 x7 x8 x9 g rm op rc ec su pe qt rs rn cs cn lc hc lg hg) → va_S A s.heap H locs → lv_has ls 8 [(0, .ref x0), (1, .int a1), (2, .int v2), (3, .long v3), (5, .long v5), (7, .int v7)] → W p l e (headSpec wsX0_findCover ({ frames := 1, cells := 0, slots := 0, locals := 22 })).room s m ([.ref x0, .int a1] : List Value).toArray below meth c H locs 0 0 (MQ below (va_Qv (fun (_ : Unit) => True) (fun (_ : Unit) t => bx_Post D [(cI, .int), (cJ, .long)] (wX cI cJ x0 x1 x2 x3 x4 x5 x6 x7 x8 x9 g rm op rc ec su pe qt rs rn cs cn lc' hc' lg hg) A t) A) ([.ref x0, .int a1] : List Value).toArray s 0 0 A) (F0 m 15 ls []) := by
    intro n
    induction n with
    | zero =>
      intro v2 v3 v5 v7 lc hc H locs ls h
      rw [m_X0_findCover_15] at h
      cases h
    | succ n ih =>
      intro v2 v3 v5 v7 lc hc H locs ls h hP hD hS hl
      rw [m_X0_findCover_15] at h
      refine lv_iload hx hb dX0_findCover_15 (lv_at hl 5 rfl) ?_
      refine lv_bipush (v := 8) hx hb dX0_findCover_17 (by decide) ?_
      refine lv_icmp_ge (tgt := 58) hx hb dX0_findCover_19 (by decide) (fun c_2 => ?_) (fun c_2 => ?_)
      · replace h := (if_pos c_2).symm.trans h
        refine lv_aload_n hx hb dX0_findCover_58 rfl (lv_at hl 0 rfl) ?_
        refine va_get (D := D) (ci := 0) (v := .ref x6) (C := RX0) (T := TX0) (N := 16) hx hb hts hin hown hK hP 0 rfl rfl 12 (by decide) hw_1 (fun _ h9 => h9) rfl dX0_findCover_59 ?_
        refine lv_iload_n hx hb dX0_findCover_62 rfl (lv_at hl 1 rfl) ?_
        refine lv_lload_n hx hb dX0_findCover_63 rfl (lv_at hl 3 rfl) ?_
        obtain ⟨h_3, h⟩ := ix_some h
        refine va_last hx hb hK hP hD hS 6 1 rfl rfl h_3 dX0_findCover_64 (fun H locs hP hD hS => ?_)
        have hP : va_P D vwCl (wX cI cJ x0 x1 x2 x3 x4 x5 x6 x7 x8 x9 g rm op rc ec su pe qt rs rn cs cn (vp_updL lc (Int32.toNatClampNeg a1) v3) hc lg hg) H := hP
        have hD : va_D A (wX cI cJ x0 x1 x2 x3 x4 x5 x6 x7 x8 x9 g rm op rc ec su pe qt rs rn cs cn (vp_updL lc (Int32.toNatClampNeg a1) v3) hc lg hg) := hD
        refine lv_aload_n hx hb dX0_findCover_65 rfl (lv_at hl 0 rfl) ?_
        refine va_get (D := D) (ci := 0) (v := .ref x7) (C := RX0) (T := TX0) (N := 16) hx hb hts hin hown hK hP 0 rfl rfl 13 (by decide) hw_2 (fun _ h9 => h9) rfl dX0_findCover_66 ?_
        refine lv_iload_n hx hb dX0_findCover_69 rfl (lv_at hl 1 rfl) ?_
        refine lv_lload hx hb dX0_findCover_70 (lv_at hl 4 rfl) ?_
        refine va_last hx hb hK hP hD hS 7 1 rfl rfl h_3 dX0_findCover_72 (fun H locs hP hD hS => ?_)
        have hP : va_P D vwCl (wX cI cJ x0 x1 x2 x3 x4 x5 x6 x7 x8 x9 g rm op rc ec su pe qt rs rn cs cn (vp_updL lc (Int32.toNatClampNeg a1) v3) (vp_updL hc (Int32.toNatClampNeg a1) v5) lg hg) H := hP
        have hD : va_D A (wX cI cJ x0 x1 x2 x3 x4 x5 x6 x7 x8 x9 g rm op rc ec su pe qt rs rn cs cn (vp_updL lc (Int32.toNatClampNeg a1) v3) (vp_updL hc (Int32.toNatClampNeg a1) v5) lg hg) := hD
        cases h
        exact W.vret hx hb hr (fun t ht hW => ⟨⟨(), rfl, trivial, by rw [ht]; exact hP, va_K.moved hW.alike hK, hD⟩, hS.F ht⟩) hS.2.2 dX0_findCover_73
      · replace h := (if_neg c_2).symm.trans h
        refine lv_aload_n hx hb dX0_findCover_22 rfl (lv_at hl 0 rfl) ?_
        refine lv_iload hx hb dX0_findCover_23 (lv_at hl 5 rfl) ?_
        refine lv_iload_n hx hb dX0_findCover_25 rfl (lv_at hl 2 rfl) ?_
        obtain ⟨r_4, e_5, h⟩ := bnd1_some h
        refine cl_Vi (As := [.int v7, .int v2]) (rest := []) (wc := wX cI cJ x0 x1 x2 x3 x4 x5 x6 x7 x8 x9 g rm op rc ec su pe qt rs rn cs cn lc hc lg hg) (w1 := wX cI cJ x0 x1 x2 x3 x4 x5 x6 x7 x8 x9 g rm op rc ec su pe qt rs rn cs cn lc hc lg hg) (wr := []) ⟨hx, hb, hml, hown, hts⟩ (c_X0_holds l D cI cJ x0 x1 x2 x3 x4 x5 x6 x7 x8 x9 _ g rm op rc ec su pe qt rs rn cs cn lc hc lg hg v7 v2 r_4 e_5) (cwV 2 hts gX0_findCover_X0_holds rfl rfl rfl (by decide +kernel) ⟨Nat.le_of_ble_eq_true rfl, Nat.le_of_ble_eq_true rfl⟩) hK hP hD hS hA [0, 1, 2, 3, 4, 5, 6, 7, 8, 9] [] rfl rfl (by decide) (by decide) rfl rfl rfl rfl rfl hl.1 rfl (lv_room (Nat.le_of_ble_eq_true rfl)) dX0_findCover_26 (fun H locs hP hD hS => ?_)
        have hP : va_P D vwCl (wX cI cJ x0 x1 x2 x3 x4 x5 x6 x7 x8 x9 g rm op rc ec su pe qt rs rn cs cn lc hc lg hg) H := hP
        have hD : va_D A (wX cI cJ x0 x1 x2 x3 x4 x5 x6 x7 x8 x9 g rm op rc ec su pe qt rs rn cs cn lc hc lg hg) := hD
        refine lv_if_eq (tgt := 52) hx hb dX0_findCover_29 (by decide) (fun c_6 => ?_) (fun c_6 => ?_)
        · replace h := (if_pos c_6).symm.trans h
          refine lv_iinc (v := (v7 + 1)) (lv' := [(7, .int (v7 + 1)), (0, .ref x0), (1, .int a1), (2, .int v2), (3, .long v3), (5, .long v5)]) hx hb dX0_findCover_52 hl (k := 5) rfl rfl (by decide) rfl (fun ls hl => ?_)
          refine lv_goto (tgt := 15) hx hb dX0_findCover_55 (by decide) ?_
          exact ih v2 v3 v5 (v7 + 1) lc hc _ _ _ h hP hD hS (lv_sub hl [1, 2, 3, 4, 5, 0] rfl)
        · replace h := (if_neg c_6).symm.trans h
          refine lv_lload_n hx hb dX0_findCover_32 rfl (lv_at hl 3 rfl) ?_
          refine lv_iload hx hb dX0_findCover_33 (lv_at hl 5 rfl) ?_
          refine lv_iload_n hx hb dX0_findCover_35 rfl (lv_at hl 2 rfl) ?_
          refine cl_Sl0 (As := [.int v7, .int v2]) (rest := [.long v3]) ⟨hx, hb, hml, hown, hts⟩ (c_X0_lowPart l D _ v7 v2) (va_cwS 2 hts gX0_findCover_X0_lowPart rfl rfl rfl (by decide +kernel) ⟨Nat.le_of_ble_eq_true rfl, Nat.le_of_ble_eq_true rfl⟩) hK hP hD hS hA rfl rfl hl.1 rfl (lv_room (Nat.le_of_ble_eq_true rfl)) dX0_findCover_36 (fun H locs hP hD hS => ?_)
          refine lv_lor hx hb dX0_findCover_39 ?_
          refine lv_lstore_n (lv' := [(3, .long (v3 ||| (m_X0_lowPart v7 v2))), (0, .ref x0), (1, .int a1), (2, .int v2), (5, .long v5), (7, .int v7)]) hx hb dX0_findCover_40 rfl hl (by decide) rfl (fun ls hl => ?_)
          refine lv_lload hx hb dX0_findCover_41 (lv_at hl 4 rfl) ?_
          refine lv_iload hx hb dX0_findCover_43 (lv_at hl 5 rfl) ?_
          refine lv_iload_n hx hb dX0_findCover_45 rfl (lv_at hl 3 rfl) ?_
          refine cl_Sl0 (As := [.int v7, .int v2]) (rest := [.long v5]) ⟨hx, hb, hml, hown, hts⟩ (c_X0_highPart l D _ v7 v2) (va_cwS 2 hts gX0_findCover_X0_highPart rfl rfl rfl (by decide +kernel) ⟨Nat.le_of_ble_eq_true rfl, Nat.le_of_ble_eq_true rfl⟩) hK hP hD hS hA rfl rfl hl.1 rfl (lv_room (Nat.le_of_ble_eq_true rfl)) dX0_findCover_46 (fun H locs hP hD hS => ?_)
          refine lv_lor hx hb dX0_findCover_49 ?_
          refine lv_lstore (lv' := [(5, .long (v5 ||| (m_X0_highPart v7 v2))), (3, .long (v3 ||| (m_X0_lowPart v7 v2))), (0, .ref x0), (1, .int a1), (2, .int v2), (7, .int v7)]) hx hb dX0_findCover_50 hl (by decide) rfl (fun ls hl => ?_)
          refine lv_iinc (v := (v7 + 1)) (lv' := [(7, .int (v7 + 1)), (5, .long (v5 ||| (m_X0_highPart v7 v2))), (3, .long (v3 ||| (m_X0_lowPart v7 v2))), (0, .ref x0), (1, .int a1), (2, .int v2)]) hx hb dX0_findCover_52 hl (k := 5) rfl rfl (by decide) rfl (fun ls hl => ?_)
          refine lv_goto (tgt := 15) hx hb dX0_findCover_55 (by decide) ?_
          exact ih v2 (v3 ||| (m_X0_lowPart v7 v2)) (v5 ||| (m_X0_highPart v7 v2)) (v7 + 1) lc hc _ _ _ h hP hD hS (lv_sub hl [3, 4, 5, 2, 1, 0] rfl)
  rw [m_X0_findCover] at h
  refine lv_aload_n hx hb dX0_findCover_0 rfl (lv_at hl 0 rfl) ?_
  refine va_get (D := D) (ci := 0) (v := .ref x5) (C := RX0) (T := TX0) (N := 16) hx hb hts hin hown hK hP 0 rfl rfl 10 (by decide) hw_0 (fun _ h9 => h9) rfl dX0_findCover_1 ?_
  refine lv_iload_n hx hb dX0_findCover_4 rfl (lv_at hl 1 rfl) ?_
  obtain ⟨h_1, h⟩ := ix_some h
  refine va_iald hx hb hK hP 5 0 rfl rfl h_1 dX0_findCover_5 ?_
  refine lv_istore_n (lv' := [(2, .int (cs (Int32.toNatClampNeg a1))), (0, .ref x0), (1, .int a1)]) hx hb dX0_findCover_6 rfl hl (by decide) rfl (fun ls hl => ?_)
  refine lv_lconst (v := 0) hx hb dX0_findCover_7 (by decide) ?_
  refine lv_lstore_n (lv' := [(3, .long (0 : Int64)), (2, .int (cs (Int32.toNatClampNeg a1))), (0, .ref x0), (1, .int a1)]) hx hb dX0_findCover_8 rfl hl (by decide) rfl (fun ls hl => ?_)
  refine lv_lconst (v := 0) hx hb dX0_findCover_9 (by decide) ?_
  refine lv_lstore (lv' := [(5, .long (0 : Int64)), (3, .long (0 : Int64)), (2, .int (cs (Int32.toNatClampNeg a1))), (0, .ref x0), (1, .int a1)]) hx hb dX0_findCover_10 hl (by decide) rfl (fun ls hl => ?_)
  refine lv_iconst (v := 0) hx hb dX0_findCover_12 (by decide) ?_
  refine lv_istore (lv' := [(7, .int 0), (5, .long (0 : Int64)), (3, .long (0 : Int64)), (2, .int (cs (Int32.toNatClampNeg a1))), (0, .ref x0), (1, .int a1)]) hx hb dX0_findCover_13 hl (by decide) rfl (fun ls hl => ?_)
  exact L15 fu (cs (Int32.toNatClampNeg a1)) (0 : Int64) (0 : Int64) 0 lc hc _ _ _ h hP hD hS (lv_sub hl [4, 5, 3, 2, 1, 0] rfl)
-- X0_findAllLeft
def m_X0_findAllLeft_7 (fu : Nat) (g : Nat → Int32) : Nat → Int64 → Int64 → Int32 → (Nat → Int64) → (Nat → Int64) → Option (((Nat → Int64)) × ((Nat → Int64)))
  | 0, _, _, _, _, _ => none
  | n + 1, v1, v3, v5, lg, hg => (if 8 ≤ v5 then some ((vp_updL lg (Int32.toNatClampNeg 14) v1), (vp_updL hg (Int32.toNatClampNeg 14) v3)) else (ix v5 8 (m_X0_findAllLeft_7 fu g n (v1 ||| (m_X0_lowPart v5 (g (Int32.toNatClampNeg v5)))) (v3 ||| (m_X0_highPart v5 (g (Int32.toNatClampNeg v5)))) (v5 + 1) lg hg)))
def m_X0_findAllLeft (fu : Nat) (g : Nat → Int32) (lg : Nat → Int64) (hg : Nat → Int64) : Option (((Nat → Int64)) × ((Nat → Int64))) := (m_X0_findAllLeft_7 fu g fu (0 : Int64) (0 : Int64) 0 lg hg)
set_option maxHeartbeats 4000000 in
set_option maxRecDepth 100000 in
theorem c_X0_findAllLeft (l : Launch) (D : va_G) (cI cJ : ClassId) (x0 x1 x2 x3 x4 x5 x6 x7 x8 x9 : Nat) (sz : Nat) (g : Nat → Int32) (rm : Nat → Int32) (op : Nat → Int32) (rc : Int32) (ec : Int32) (su : Int32) (pe : Int32) (qt : Int32) (rs : Nat → Int32) (rn : Int32) (cs : Nat → Int32) (cn : Int32) (lc : Nat → Int64) (hc : Nat → Int64) (lg : Nat → Int64) (hg : Nat → Int64) (fu : Nat) (lg' : Nat → Int64) (hg' : Nat → Int64) (h : m_X0_findAllLeft fu g lg hg = some (lg', hg')) : Met l yX0_findAllLeft wsX0_findAllLeft ({ frames := 1, cells := 0, slots := 0, locals := 21 }) (va_Pc [.ref x0] (bx_Pre D [(cI, .int), (cJ, .long)] (wX cI cJ x0 x1 x2 x3 x4 x5 x6 x7 x8 x9 g rm op rc ec su pe qt rs rn cs cn lc hc lg hg) sz)) (va_Qv (fun (_ : Unit) => True) (fun (_ : Unit) t => bx_Post D [(cI, .int), (cJ, .long)] (wX cI cJ x0 x1 x2 x3 x4 x5 x6 x7 x8 x9 g rm op rc ec su pe qt rs rn cs cn lc hc lg' hg') (va_A (wX cI cJ x0 x1 x2 x3 x4 x5 x6 x7 x8 x9 g rm op rc ec su pe qt rs rn cs cn lc hc lg hg) sz) t) (va_A (wX cI cJ x0 x1 x2 x3 x4 x5 x6 x7 x8 x9 g rm op rc ec su pe qt rs rn cs cn lc hc lg hg) sz)) 0 0 (va_A (wX cI cJ x0 x1 x2 x3 x4 x5 x6 x7 x8 x9 g rm op rc ec su pe qt rs rn cs cn lc hc lg hg) sz) := by
  refine Met.ofW (cc := cX0_findAllLeft) (maxL := 6) (ret := none) (by decide) rfl ?_
  intro p e s m args below meth c s₁ B hml hv
  obtain ⟨rfl, hsz, hP, hK, hD0⟩ := hv
  have hx := B.exec
  have hb := B.bytes
  have hr := B.returns
  have hts := atoms_spec (ws := wsX0_findAllLeft) B.pre
  have hown : s.vm.findClass RX0 = some m.cls := findClass_of_methodNamed B.named
  have hlocks := B.notSynchronized
  subst hsz
  have hD := hD0.self (sz := s.heap.size)
  generalize hAe : va_A (wX cI cJ x0 x1 x2 x3 x4 x5 x6 x7 x8 x9 g rm op rc ec su pe qt rs rn cs cn lc hc lg hg) s.heap.size = A at hD ⊢
  have hA : ∀ q : Nat, s.heap.size ≤ q → A q := fun q h9 => by rw [← hAe]; exact Or.inr h9
  have hS : va_S A s.heap s.heap [] := va_S.rf
  have hin : ∀ w ∈ wsX00, w ∈ wsX0_findAllLeft := fun _ h9 => List.mem_cons_of_mem _ (List.mem_append_right _ h9)
  have hw_0 := hts (.fieldLink RX0 54 "RoleMiner" "lowLeft" "[J") (by decide +kernel)
  have hw_1 := hts (.fieldLink RX0 57 "RoleMiner" "highLeft" "[J") (by decide +kernel)
  have hw_2 := hts (.fieldLink RX0 9 "RoleMiner" "granted" "[I") (by decide +kernel)
  have hl := lv_entry ([.ref x0]) (n := 6) (Nat.le_of_ble_eq_true rfl)
  rw [lg_entry_eq]
  generalize (lg_sl ([.ref x0]) ++ List.replicate (6 - (lg_sl ([.ref x0])).length) Slot.unset).toArray = ls at hl ⊢
  have hl : lv_has ls 6 [(0, .ref x0)] := hl
  have L7 : ∀ (n : Nat) (v1 : Int64) (v3 : Int64) (v5 : Int32) (lg : Nat → Int64) (hg : Nat → Int64) (H : Heap) (locs : List Loc) (ls : Array Slot), m_X0_findAllLeft_7 fu g n v1 v3 v5 lg hg = some (lg', hg') → va_P D vwCl (wX cI cJ x0 x1 x2 x3 x4 x5 x6 x7 x8 x9 g rm op rc ec su pe qt rs rn cs cn lc hc lg hg) H → va_D A (wX cI cJ x0 x1 x2 x3 x4 x5 x6 x7 x8 x9 g rm op rc ec su pe qt rs rn cs cn lc hc lg hg) → va_S A s.heap H locs → lv_has ls 6 [(0, .ref x0), (1, .long v1), (3, .long v3), (5, .int v5)] → W p l e (headSpec wsX0_findAllLeft ({ frames := 1, cells := 0, slots := 0, locals := 21 })).room s m ([.ref x0] : List Value).toArray below meth c H locs 0 0 (MQ below (va_Qv (fun (_ : Unit) => True) (fun (_ : Unit) t => bx_Post D [(cI, .int), (cJ, .long)] (wX cI cJ x0 x1 x2 x3 x4 x5 x6 x7 x8 x9 g rm op rc ec su pe qt rs rn cs cn lc hc lg' hg') A t) A) ([.ref x0] : List Value).toArray s 0 0 A) (F0 m 7 ls []) := by
    intro n
    induction n with
    | zero =>
      intro v1 v3 v5 lg hg H locs ls h
      rw [m_X0_findAllLeft_7] at h
      cases h
    | succ n ih =>
      intro v1 v3 v5 lg hg H locs ls h hP hD hS hl
      rw [m_X0_findAllLeft_7] at h
      refine lv_iload hx hb dX0_findAllLeft_7 (lv_at hl 3 rfl) ?_
      refine lv_bipush (v := 8) hx hb dX0_findAllLeft_9 (by decide) ?_
      refine lv_icmp_ge (tgt := 50) hx hb dX0_findAllLeft_11 (by decide) (fun c_1 => ?_) (fun c_1 => ?_)
      · replace h := (if_pos c_1).symm.trans h
        refine lv_aload_n hx hb dX0_findAllLeft_50 rfl (lv_at hl 0 rfl) ?_
        refine va_get (D := D) (ci := 0) (v := .ref x8) (C := RX0) (T := TX0) (N := 16) hx hb hts hin hown hK hP 0 rfl rfl 14 (by decide) hw_0 (fun _ h9 => h9) rfl dX0_findAllLeft_51 ?_
        refine lv_bipush (v := 14) hx hb dX0_findAllLeft_54 (by decide) ?_
        refine lv_lload_n hx hb dX0_findAllLeft_56 rfl (lv_at hl 1 rfl) ?_
        refine va_last hx hb hK hP hD hS 8 1 rfl rfl (show ¬ ((14 : Int32) < 0 ∨ 15 ≤ Int32.toNatClampNeg 14) by decide) dX0_findAllLeft_57 (fun H locs hP hD hS => ?_)
        have hP : va_P D vwCl (wX cI cJ x0 x1 x2 x3 x4 x5 x6 x7 x8 x9 g rm op rc ec su pe qt rs rn cs cn lc hc (vp_updL lg (Int32.toNatClampNeg 14) v1) hg) H := hP
        have hD : va_D A (wX cI cJ x0 x1 x2 x3 x4 x5 x6 x7 x8 x9 g rm op rc ec su pe qt rs rn cs cn lc hc (vp_updL lg (Int32.toNatClampNeg 14) v1) hg) := hD
        refine lv_aload_n hx hb dX0_findAllLeft_58 rfl (lv_at hl 0 rfl) ?_
        refine va_get (D := D) (ci := 0) (v := .ref x9) (C := RX0) (T := TX0) (N := 16) hx hb hts hin hown hK hP 0 rfl rfl 15 (by decide) hw_1 (fun _ h9 => h9) rfl dX0_findAllLeft_59 ?_
        refine lv_bipush (v := 14) hx hb dX0_findAllLeft_62 (by decide) ?_
        refine lv_lload_n hx hb dX0_findAllLeft_64 rfl (lv_at hl 2 rfl) ?_
        refine va_last hx hb hK hP hD hS 9 1 rfl rfl (show ¬ ((14 : Int32) < 0 ∨ 15 ≤ Int32.toNatClampNeg 14) by decide) dX0_findAllLeft_65 (fun H locs hP hD hS => ?_)
        have hP : va_P D vwCl (wX cI cJ x0 x1 x2 x3 x4 x5 x6 x7 x8 x9 g rm op rc ec su pe qt rs rn cs cn lc hc (vp_updL lg (Int32.toNatClampNeg 14) v1) (vp_updL hg (Int32.toNatClampNeg 14) v3)) H := hP
        have hD : va_D A (wX cI cJ x0 x1 x2 x3 x4 x5 x6 x7 x8 x9 g rm op rc ec su pe qt rs rn cs cn lc hc (vp_updL lg (Int32.toNatClampNeg 14) v1) (vp_updL hg (Int32.toNatClampNeg 14) v3)) := hD
        cases h
        exact W.vret hx hb hr (fun t ht hW => ⟨⟨(), rfl, trivial, by rw [ht]; exact hP, va_K.moved hW.alike hK, hD⟩, hS.F ht⟩) hS.2.2 dX0_findAllLeft_66
      · replace h := (if_neg c_1).symm.trans h
        refine lv_lload_n hx hb dX0_findAllLeft_14 rfl (lv_at hl 1 rfl) ?_
        refine lv_iload hx hb dX0_findAllLeft_15 (lv_at hl 3 rfl) ?_
        refine lv_aload_n hx hb dX0_findAllLeft_17 rfl (lv_at hl 0 rfl) ?_
        refine va_get (D := D) (ci := 0) (v := .ref x1) (C := RX0) (T := TX0) (N := 16) hx hb hts hin hown hK hP 0 rfl rfl 0 (by decide) hw_2 (fun _ h9 => h9) rfl dX0_findAllLeft_18 ?_
        refine lv_iload hx hb dX0_findAllLeft_21 (lv_at hl 3 rfl) ?_
        obtain ⟨h_2, h⟩ := ix_some h
        refine va_iald hx hb hK hP 1 0 rfl rfl h_2 dX0_findAllLeft_23 ?_
        refine cl_Sl0 (As := [.int v5, .int (g (Int32.toNatClampNeg v5))]) (rest := [.long v1]) ⟨hx, hb, hml, hown, hts⟩ (c_X0_lowPart l D _ v5 (g (Int32.toNatClampNeg v5))) (va_cwS 2 hts gX0_findAllLeft_X0_lowPart rfl rfl rfl (by decide +kernel) ⟨Nat.le_of_ble_eq_true rfl, Nat.le_of_ble_eq_true rfl⟩) hK hP hD hS hA rfl rfl hl.1 rfl (lv_room (Nat.le_of_ble_eq_true rfl)) dX0_findAllLeft_24 (fun H locs hP hD hS => ?_)
        refine lv_lor hx hb dX0_findAllLeft_27 ?_
        refine lv_lstore_n (lv' := [(1, .long (v1 ||| (m_X0_lowPart v5 (g (Int32.toNatClampNeg v5))))), (0, .ref x0), (3, .long v3), (5, .int v5)]) hx hb dX0_findAllLeft_28 rfl hl (by decide) rfl (fun ls hl => ?_)
        refine lv_lload_n hx hb dX0_findAllLeft_29 rfl (lv_at hl 2 rfl) ?_
        refine lv_iload hx hb dX0_findAllLeft_30 (lv_at hl 3 rfl) ?_
        refine lv_aload_n hx hb dX0_findAllLeft_32 rfl (lv_at hl 1 rfl) ?_
        refine va_get (D := D) (ci := 0) (v := .ref x1) (C := RX0) (T := TX0) (N := 16) hx hb hts hin hown hK hP 0 rfl rfl 0 (by decide) hw_2 (fun _ h9 => h9) rfl dX0_findAllLeft_33 ?_
        refine lv_iload hx hb dX0_findAllLeft_36 (lv_at hl 3 rfl) ?_
        refine va_iald hx hb hK hP 1 0 rfl rfl h_2 dX0_findAllLeft_38 ?_
        refine cl_Sl0 (As := [.int v5, .int (g (Int32.toNatClampNeg v5))]) (rest := [.long v3]) ⟨hx, hb, hml, hown, hts⟩ (c_X0_highPart l D _ v5 (g (Int32.toNatClampNeg v5))) (va_cwS 2 hts gX0_findAllLeft_X0_highPart rfl rfl rfl (by decide +kernel) ⟨Nat.le_of_ble_eq_true rfl, Nat.le_of_ble_eq_true rfl⟩) hK hP hD hS hA rfl rfl hl.1 rfl (lv_room (Nat.le_of_ble_eq_true rfl)) dX0_findAllLeft_39 (fun H locs hP hD hS => ?_)
        refine lv_lor hx hb dX0_findAllLeft_42 ?_
        refine lv_lstore_n (lv' := [(3, .long (v3 ||| (m_X0_highPart v5 (g (Int32.toNatClampNeg v5))))), (1, .long (v1 ||| (m_X0_lowPart v5 (g (Int32.toNatClampNeg v5))))), (0, .ref x0), (5, .int v5)]) hx hb dX0_findAllLeft_43 rfl hl (by decide) rfl (fun ls hl => ?_)
        refine lv_iinc (v := (v5 + 1)) (lv' := [(5, .int (v5 + 1)), (3, .long (v3 ||| (m_X0_highPart v5 (g (Int32.toNatClampNeg v5))))), (1, .long (v1 ||| (m_X0_lowPart v5 (g (Int32.toNatClampNeg v5))))), (0, .ref x0)]) hx hb dX0_findAllLeft_44 hl (k := 3) rfl rfl (by decide) rfl (fun ls hl => ?_)
        refine lv_goto (tgt := 7) hx hb dX0_findAllLeft_47 (by decide) ?_
        exact ih (v1 ||| (m_X0_lowPart v5 (g (Int32.toNatClampNeg v5)))) (v3 ||| (m_X0_highPart v5 (g (Int32.toNatClampNeg v5)))) (v5 + 1) lg hg _ _ _ h hP hD hS (lv_sub hl [3, 2, 1, 0] rfl)
  rw [m_X0_findAllLeft] at h
  refine lv_lconst (v := 0) hx hb dX0_findAllLeft_0 (by decide) ?_
  refine lv_lstore_n (lv' := [(1, .long (0 : Int64)), (0, .ref x0)]) hx hb dX0_findAllLeft_1 rfl hl (by decide) rfl (fun ls hl => ?_)
  refine lv_lconst (v := 0) hx hb dX0_findAllLeft_2 (by decide) ?_
  refine lv_lstore_n (lv' := [(3, .long (0 : Int64)), (1, .long (0 : Int64)), (0, .ref x0)]) hx hb dX0_findAllLeft_3 rfl hl (by decide) rfl (fun ls hl => ?_)
  refine lv_iconst (v := 0) hx hb dX0_findAllLeft_4 (by decide) ?_
  refine lv_istore (lv' := [(5, .int 0), (3, .long (0 : Int64)), (1, .long (0 : Int64)), (0, .ref x0)]) hx hb dX0_findAllLeft_5 hl (by decide) rfl (fun ls hl => ?_)
  exact L7 fu (0 : Int64) (0 : Int64) 0 lg hg _ _ _ h hP hD hS (lv_sub hl [3, 2, 1, 0] rfl)
-- X0_findCandidates
def m_X0_findCandidates_86 (fu : Nat) (g : Nat → Int32) (op : Nat → Int32) (su : Int32) : Nat → Int32 → (Nat → Int32) → (Int32) → (Nat → Int64) → (Nat → Int64) → (Nat → Int64) → (Nat → Int64) → Option (((Nat → Int32)) × ((Int32)) × ((Nat → Int64)) × ((Nat → Int64)) × ((Nat → Int64)) × ((Nat → Int64)))
  | 0, _, _, _, _, _, _, _ => none
  | n + 1, v1, cs, cn, lc, hc, lg, hg => (if cn ≤ v1 then (bnd2 (m_X0_findAllLeft fu g lg hg) (fun lg_18 hg_19 => some (cs, cn, lc, hc, lg_18, hg_19))) else (bnd2 (m_X0_findCover fu g cs lc hc v1) (fun lc_21 hc_22 => (m_X0_findCandidates_86 fu g op su n (v1 + 1) cs cn lc_21 hc_22 lg hg))))
def m_X0_findCandidates_7 (fu : Nat) (g : Nat → Int32) (op : Nat → Int32) (su : Int32) : Nat → Int32 → (Nat → Int32) → (Int32) → (Nat → Int64) → (Nat → Int64) → (Nat → Int64) → (Nat → Int64) → Option (((Nat → Int32)) × ((Int32)) × ((Nat → Int64)) × ((Nat → Int64)) × ((Nat → Int64)) × ((Nat → Int64)))
  | 0, _, _, _, _, _, _, _ => none
  | n + 1, v1, cs, cn, lc, hc, lg, hg => (if 255 < v1 then (m_X0_findCandidates_86 fu g op su fu 0 cs cn lc hc lg hg) else (bnd1 (m_X0_sharedBy fu g v1) (fun r_2 => (bnd1 (m_X0_holdersOf fu g r_2) (fun r_4 => (if r_4 = v1 then (if r_2 = 0 then (m_X0_findCandidates_7 fu g op su n (v1 + 1) cs cn lc hc lg hg) else (if (m_J6_bitCount_0f7a4 v1) < su then (m_X0_findCandidates_7 fu g op su n (v1 + 1) cs cn lc hc lg hg) else (bnd1 (m_X0_isProper fu op r_2) (fun r_11 => (if r_11 = 0 then (m_X0_findCandidates_7 fu g op su n (v1 + 1) cs cn lc hc lg hg) else (bnd2 (m_X0_insertInOrder fu cs cn r_2) (fun r_14 f_15 => (m_X0_findCandidates_7 fu g op su n (v1 + 1) f_15 r_14 lc hc lg hg)))))))) else (m_X0_findCandidates_7 fu g op su n (v1 + 1) cs cn lc hc lg hg)))))))
def m_X0_findCandidates (fu : Nat) (g : Nat → Int32) (op : Nat → Int32) (su : Int32) (cs : Nat → Int32) (cn : Int32) (lc : Nat → Int64) (hc : Nat → Int64) (lg : Nat → Int64) (hg : Nat → Int64) : Option (((Nat → Int32)) × ((Int32)) × ((Nat → Int64)) × ((Nat → Int64)) × ((Nat → Int64)) × ((Nat → Int64))) := (m_X0_findCandidates_7 fu g op su fu 1 cs 0 lc hc lg hg)
set_option maxHeartbeats 4000000 in
set_option maxRecDepth 100000 in
theorem c_X0_findCandidates (l : Launch) (D : va_G) (cI cJ : ClassId) (x0 x1 x2 x3 x4 x5 x6 x7 x8 x9 : Nat) (sz : Nat) (g : Nat → Int32) (rm : Nat → Int32) (op : Nat → Int32) (rc : Int32) (ec : Int32) (su : Int32) (pe : Int32) (qt : Int32) (rs : Nat → Int32) (rn : Int32) (cs : Nat → Int32) (cn : Int32) (lc : Nat → Int64) (hc : Nat → Int64) (lg : Nat → Int64) (hg : Nat → Int64) (fu : Nat) (cs' : Nat → Int32) (cn' : Int32) (lc' : Nat → Int64) (hc' : Nat → Int64) (lg' : Nat → Int64) (hg' : Nat → Int64) (h : m_X0_findCandidates fu g op su cs cn lc hc lg hg = some (cs', cn', lc', hc', lg', hg')) : Met l yX0_findCandidates wsX0_findCandidates ({ frames := 2, cells := 0, slots := 0, locals := 49 }) (va_Pc [.ref x0] (bx_Pre D [(cI, .int), (cJ, .long)] (wX cI cJ x0 x1 x2 x3 x4 x5 x6 x7 x8 x9 g rm op rc ec su pe qt rs rn cs cn lc hc lg hg) sz)) (va_Qv (fun (_ : Unit) => True) (fun (_ : Unit) t => bx_Post D [(cI, .int), (cJ, .long)] (wX cI cJ x0 x1 x2 x3 x4 x5 x6 x7 x8 x9 g rm op rc ec su pe qt rs rn cs' cn' lc' hc' lg' hg') (va_A (wX cI cJ x0 x1 x2 x3 x4 x5 x6 x7 x8 x9 g rm op rc ec su pe qt rs rn cs cn lc hc lg hg) sz) t) (va_A (wX cI cJ x0 x1 x2 x3 x4 x5 x6 x7 x8 x9 g rm op rc ec su pe qt rs rn cs cn lc hc lg hg) sz)) 0 0 (va_A (wX cI cJ x0 x1 x2 x3 x4 x5 x6 x7 x8 x9 g rm op rc ec su pe qt rs rn cs cn lc hc lg hg) sz) := by
  refine Met.ofW (cc := cX0_findCandidates) (maxL := 4) (ret := none) (by decide) rfl ?_
  intro p e s m args below meth c s₁ B hml hv
  obtain ⟨rfl, hsz, hP, hK, hD0⟩ := hv
  have hx := B.exec
  have hb := B.bytes
  have hr := B.returns
  have hts := atoms_spec (ws := wsX0_findCandidates) B.pre
  have hown : s.vm.findClass RX0 = some m.cls := findClass_of_methodNamed B.named
  have hlocks := B.notSynchronized
  subst hsz
  have hD := hD0.self (sz := s.heap.size)
  generalize hAe : va_A (wX cI cJ x0 x1 x2 x3 x4 x5 x6 x7 x8 x9 g rm op rc ec su pe qt rs rn cs cn lc hc lg hg) s.heap.size = A at hD ⊢
  have hA : ∀ q : Nat, s.heap.size ≤ q → A q := fun q h9 => by rw [← hAe]; exact Or.inr h9
  have hS : va_S A s.heap s.heap [] := va_S.rf
  have hin : ∀ w ∈ wsX00, w ∈ wsX0_findCandidates := fun _ h9 => List.mem_cons_of_mem _ (List.mem_append_right _ h9)
  have hw_0 := hts (.fieldLink RX0 44 "RoleMiner" "candidateCount" "I") (by decide +kernel)
  have hw_1 := hts (.fieldLink RX0 26 "RoleMiner" "support" "I") (by decide +kernel)
  have hw_2 := hts (.fieldLink RX0 41 "RoleMiner" "candidateSets" "[I") (by decide +kernel)
  have hl := lv_entry ([.ref x0]) (n := 4) (Nat.le_of_ble_eq_true rfl)
  rw [lg_entry_eq]
  generalize (lg_sl ([.ref x0]) ++ List.replicate (4 - (lg_sl ([.ref x0])).length) Slot.unset).toArray = ls at hl ⊢
  have hl : lv_has ls 4 [(0, .ref x0)] := hl
  have L86 : ∀ (n : Nat) (v1 : Int32) (cs : Nat → Int32) (cn : Int32) (lc : Nat → Int64) (hc : Nat → Int64) (lg : Nat → Int64) (hg : Nat → Int64) (H : Heap) (locs : List Loc) (ls : Array Slot), m_X0_findCandidates_86 fu g op su n v1 cs cn lc hc lg hg = some (cs', cn', lc', hc', lg', hg') → va_P D vwCl (wX cI cJ x0 x1 x2 x3 x4 x5 x6 x7 x8 x9 g rm op rc ec su pe qt rs rn cs cn lc hc lg hg) H → va_D A (wX cI cJ x0 x1 x2 x3 x4 x5 x6 x7 x8 x9 g rm op rc ec su pe qt rs rn cs cn lc hc lg hg) → va_S A s.heap H locs → lv_has ls 4 [(0, .ref x0), (1, .int v1)] → W p l e (headSpec wsX0_findCandidates ({ frames := 2, cells := 0, slots := 0, locals := 49 })).room s m ([.ref x0] : List Value).toArray below meth c H locs 0 0 (MQ below (va_Qv (fun (_ : Unit) => True) (fun (_ : Unit) t => bx_Post D [(cI, .int), (cJ, .long)] (wX cI cJ x0 x1 x2 x3 x4 x5 x6 x7 x8 x9 g rm op rc ec su pe qt rs rn cs' cn' lc' hc' lg' hg') A t) A) ([.ref x0] : List Value).toArray s 0 0 A) (F0 m 86 ls []) := by
    intro n
    induction n with
    | zero =>
      intro v1 cs cn lc hc lg hg H locs ls h
      rw [m_X0_findCandidates_86] at h
      cases h
    | succ n ih =>
      intro v1 cs cn lc hc lg hg H locs ls h hP hD hS hl
      rw [m_X0_findCandidates_86] at h
      refine lv_iload_n hx hb dX0_findCandidates_86 rfl (lv_at hl 1 rfl) ?_
      refine lv_aload_n hx hb dX0_findCandidates_87 rfl (lv_at hl 0 rfl) ?_
      refine va_get (D := D) (ci := 0) (v := .int cn) (C := RX0) (T := TX0) (N := 16) hx hb hts hin hown hK hP 0 rfl rfl 11 (by decide) hw_0 (fun _ h9 => h9) rfl dX0_findCandidates_88 ?_
      refine lv_icmp_ge (tgt := 105) hx hb dX0_findCandidates_91 (by decide) (fun c_17 => ?_) (fun c_17 => ?_)
      · replace h := (if_pos c_17).symm.trans h
        refine lv_aload_n hx hb dX0_findCandidates_105 rfl (lv_at hl 0 rfl) ?_
        obtain ⟨lg_18, hg_19, e_20, h⟩ := bnd2_some h
        refine cl_Vv (As := []) (rest := []) (wc := wX cI cJ x0 x1 x2 x3 x4 x5 x6 x7 x8 x9 g rm op rc ec su pe qt rs rn cs cn lc hc lg hg) (w1 := wX cI cJ x0 x1 x2 x3 x4 x5 x6 x7 x8 x9 g rm op rc ec su pe qt rs rn cs cn lc hc lg_18 hg_19) (wr := []) ⟨hx, hb, hml, hown, hts⟩ (c_X0_findAllLeft l D cI cJ x0 x1 x2 x3 x4 x5 x6 x7 x8 x9 _ g rm op rc ec su pe qt rs rn cs cn lc hc lg hg fu  lg_18 hg_19 e_20) (cwV 0 hts gX0_findCandidates_X0_findAllLeft rfl rfl rfl (by decide +kernel) ⟨Nat.le_of_ble_eq_true rfl, Nat.le_of_ble_eq_true rfl⟩) hK hP hD hS hA [0, 1, 2, 3, 4, 5, 6, 7, 8, 9] [] rfl rfl (by decide) (by decide) rfl rfl rfl rfl rfl hl.1 rfl (lv_room (Nat.le_of_ble_eq_true rfl)) dX0_findCandidates_106 (fun H locs hP hD hS => ?_)
        have hP : va_P D vwCl (wX cI cJ x0 x1 x2 x3 x4 x5 x6 x7 x8 x9 g rm op rc ec su pe qt rs rn cs cn lc hc lg_18 hg_19) H := hP
        have hD : va_D A (wX cI cJ x0 x1 x2 x3 x4 x5 x6 x7 x8 x9 g rm op rc ec su pe qt rs rn cs cn lc hc lg_18 hg_19) := hD
        cases h
        exact W.vret hx hb hr (fun t ht hW => ⟨⟨(), rfl, trivial, by rw [ht]; exact hP, va_K.moved hW.alike hK, hD⟩, hS.F ht⟩) hS.2.2 dX0_findCandidates_109
      · replace h := (if_neg c_17).symm.trans h
        refine lv_aload_n hx hb dX0_findCandidates_94 rfl (lv_at hl 0 rfl) ?_
        refine lv_iload_n hx hb dX0_findCandidates_95 rfl (lv_at hl 1 rfl) ?_
        obtain ⟨lc_21, hc_22, e_23, h⟩ := bnd2_some h
        refine cl_Vv (As := [.int v1]) (rest := []) (wc := wX cI cJ x0 x1 x2 x3 x4 x5 x6 x7 x8 x9 g rm op rc ec su pe qt rs rn cs cn lc hc lg hg) (w1 := wX cI cJ x0 x1 x2 x3 x4 x5 x6 x7 x8 x9 g rm op rc ec su pe qt rs rn cs cn lc_21 hc_22 lg hg) (wr := []) ⟨hx, hb, hml, hown, hts⟩ (c_X0_findCover l D cI cJ x0 x1 x2 x3 x4 x5 x6 x7 x8 x9 _ g rm op rc ec su pe qt rs rn cs cn lc hc lg hg fu v1 lc_21 hc_22 e_23) (cwV 1 hts gX0_findCandidates_X0_findCover rfl rfl rfl (by decide +kernel) ⟨Nat.le_of_ble_eq_true rfl, Nat.le_of_ble_eq_true rfl⟩) hK hP hD hS hA [0, 1, 2, 3, 4, 5, 6, 7, 8, 9] [] rfl rfl (by decide) (by decide) rfl rfl rfl rfl rfl hl.1 rfl (lv_room (Nat.le_of_ble_eq_true rfl)) dX0_findCandidates_96 (fun H locs hP hD hS => ?_)
        have hP : va_P D vwCl (wX cI cJ x0 x1 x2 x3 x4 x5 x6 x7 x8 x9 g rm op rc ec su pe qt rs rn cs cn lc_21 hc_22 lg hg) H := hP
        have hD : va_D A (wX cI cJ x0 x1 x2 x3 x4 x5 x6 x7 x8 x9 g rm op rc ec su pe qt rs rn cs cn lc_21 hc_22 lg hg) := hD
        refine lv_iinc (v := (v1 + 1)) (lv' := [(1, .int (v1 + 1)), (0, .ref x0)]) hx hb dX0_findCandidates_99 hl (k := 1) rfl rfl (by decide) rfl (fun ls hl => ?_)
        refine lv_goto (tgt := 86) hx hb dX0_findCandidates_102 (by decide) ?_
        exact ih (v1 + 1) cs cn lc_21 hc_22 lg hg _ _ _ h hP hD hS (lv_sub hl [1, 0] rfl)
  have L7 : ∀ (n : Nat) (v1 : Int32) (cs : Nat → Int32) (cn : Int32) (lc : Nat → Int64) (hc : Nat → Int64) (lg : Nat → Int64) (hg : Nat → Int64) (H : Heap) (locs : List Loc) (ls : Array Slot), m_X0_findCandidates_7 fu g op su n v1 cs cn lc hc lg hg = some (cs', cn', lc', hc', lg', hg') → va_P D vwCl (wX cI cJ x0 x1 x2 x3 x4 x5 x6 x7 x8 x9 g rm op rc ec su pe qt rs rn cs cn lc hc lg hg) H → va_D A (wX cI cJ x0 x1 x2 x3 x4 x5 x6 x7 x8 x9 g rm op rc ec su pe qt rs rn cs cn lc hc lg hg) → va_S A s.heap H locs → lv_has ls 4 [(0, .ref x0), (1, .int v1)] → W p l e (headSpec wsX0_findCandidates ({ frames := 2, cells := 0, slots := 0, locals := 49 })).room s m ([.ref x0] : List Value).toArray below meth c H locs 0 0 (MQ below (va_Qv (fun (_ : Unit) => True) (fun (_ : Unit) t => bx_Post D [(cI, .int), (cJ, .long)] (wX cI cJ x0 x1 x2 x3 x4 x5 x6 x7 x8 x9 g rm op rc ec su pe qt rs rn cs' cn' lc' hc' lg' hg') A t) A) ([.ref x0] : List Value).toArray s 0 0 A) (F0 m 7 ls []) := by
    intro n
    induction n with
    | zero =>
      intro v1 cs cn lc hc lg hg H locs ls h
      rw [m_X0_findCandidates_7] at h
      cases h
    | succ n ih =>
      intro v1 cs cn lc hc lg hg H locs ls h hP hD hS hl
      rw [m_X0_findCandidates_7] at h
      refine lv_iload_n hx hb dX0_findCandidates_7 rfl (lv_at hl 1 rfl) ?_
      refine lv_sipush (v := 255) hx hb dX0_findCandidates_8 (by decide) ?_
      refine lv_icmp_gt (tgt := 84) hx hb dX0_findCandidates_11 (by decide) (fun c_1 => ?_) (fun c_1 => ?_)
      · replace h := (if_pos c_1).symm.trans h
        refine lv_iconst (v := 0) hx hb dX0_findCandidates_84 (by decide) ?_
        refine lv_istore_n (lv' := [(1, .int 0), (0, .ref x0)]) hx hb dX0_findCandidates_85 rfl hl (by decide) rfl (fun ls hl => ?_)
        exact L86 fu 0 cs cn lc hc lg hg _ _ _ h hP hD hS (lv_sub hl [1, 0] rfl)
      · replace h := (if_neg c_1).symm.trans h
        refine lv_aload_n hx hb dX0_findCandidates_14 rfl (lv_at hl 0 rfl) ?_
        refine lv_iload_n hx hb dX0_findCandidates_15 rfl (lv_at hl 1 rfl) ?_
        obtain ⟨r_2, e_3, h⟩ := bnd1_some h
        refine cl_Vi (As := [.int v1]) (rest := []) (wc := wX cI cJ x0 x1 x2 x3 x4 x5 x6 x7 x8 x9 g rm op rc ec su pe qt rs rn cs cn lc hc lg hg) (w1 := wX cI cJ x0 x1 x2 x3 x4 x5 x6 x7 x8 x9 g rm op rc ec su pe qt rs rn cs cn lc hc lg hg) (wr := []) ⟨hx, hb, hml, hown, hts⟩ (c_X0_sharedBy l D cI cJ x0 x1 x2 x3 x4 x5 x6 x7 x8 x9 _ g rm op rc ec su pe qt rs rn cs cn lc hc lg hg fu v1 r_2 e_3) (cwV 1 hts gX0_findCandidates_X0_sharedBy rfl rfl rfl (by decide +kernel) ⟨Nat.le_of_ble_eq_true rfl, Nat.le_of_ble_eq_true rfl⟩) hK hP hD hS hA [0, 1, 2, 3, 4, 5, 6, 7, 8, 9] [] rfl rfl (by decide) (by decide) rfl rfl rfl rfl rfl hl.1 rfl (lv_room (Nat.le_of_ble_eq_true rfl)) dX0_findCandidates_16 (fun H locs hP hD hS => ?_)
        have hP : va_P D vwCl (wX cI cJ x0 x1 x2 x3 x4 x5 x6 x7 x8 x9 g rm op rc ec su pe qt rs rn cs cn lc hc lg hg) H := hP
        have hD : va_D A (wX cI cJ x0 x1 x2 x3 x4 x5 x6 x7 x8 x9 g rm op rc ec su pe qt rs rn cs cn lc hc lg hg) := hD
        refine lv_istore_n (lv' := [(2, .int r_2), (0, .ref x0), (1, .int v1)]) hx hb dX0_findCandidates_19 rfl hl (by decide) rfl (fun ls hl => ?_)
        refine lv_aload_n hx hb dX0_findCandidates_20 rfl (lv_at hl 1 rfl) ?_
        refine lv_iload_n hx hb dX0_findCandidates_21 rfl (lv_at hl 0 rfl) ?_
        obtain ⟨r_4, e_5, h⟩ := bnd1_some h
        refine cl_Vi (As := [.int r_2]) (rest := []) (wc := wX cI cJ x0 x1 x2 x3 x4 x5 x6 x7 x8 x9 g rm op rc ec su pe qt rs rn cs cn lc hc lg hg) (w1 := wX cI cJ x0 x1 x2 x3 x4 x5 x6 x7 x8 x9 g rm op rc ec su pe qt rs rn cs cn lc hc lg hg) (wr := []) ⟨hx, hb, hml, hown, hts⟩ (c_X0_holdersOf l D cI cJ x0 x1 x2 x3 x4 x5 x6 x7 x8 x9 _ g rm op rc ec su pe qt rs rn cs cn lc hc lg hg fu r_2 r_4 e_5) (cwV 1 hts gX0_findCandidates_X0_holdersOf rfl rfl rfl (by decide +kernel) ⟨Nat.le_of_ble_eq_true rfl, Nat.le_of_ble_eq_true rfl⟩) hK hP hD hS hA [0, 1, 2, 3, 4, 5, 6, 7, 8, 9] [] rfl rfl (by decide) (by decide) rfl rfl rfl rfl rfl hl.1 rfl (lv_room (Nat.le_of_ble_eq_true rfl)) dX0_findCandidates_22 (fun H locs hP hD hS => ?_)
        have hP : va_P D vwCl (wX cI cJ x0 x1 x2 x3 x4 x5 x6 x7 x8 x9 g rm op rc ec su pe qt rs rn cs cn lc hc lg hg) H := hP
        have hD : va_D A (wX cI cJ x0 x1 x2 x3 x4 x5 x6 x7 x8 x9 g rm op rc ec su pe qt rs rn cs cn lc hc lg hg) := hD
        refine lv_iload_n hx hb dX0_findCandidates_25 rfl (lv_at hl 2 rfl) ?_
        refine lv_icmp_ne (tgt := 33) hx hb dX0_findCandidates_26 (by decide) (fun c_6 => ?_) (fun c_6 => ?_)
        · replace h := (if_neg c_6).symm.trans h
          refine lv_iconst (v := 0) hx hb dX0_findCandidates_33 (by decide) ?_
          refine lv_istore_n (lv' := [(3, .int 0), (2, .int r_2), (0, .ref x0), (1, .int v1)]) hx hb dX0_findCandidates_34 rfl hl (by decide) rfl (fun ls hl => ?_)
          refine lv_iload_n hx hb dX0_findCandidates_35 rfl (lv_at hl 0 rfl) ?_
          refine lv_if_eq (tgt := 78) hx hb dX0_findCandidates_36 (by decide) (fun c_7 => ?_) (fun c_7 => ?_)
          · refine lv_iinc (v := (v1 + 1)) (lv' := [(1, .int (v1 + 1)), (3, .int 0), (2, .int r_2), (0, .ref x0)]) hx hb dX0_findCandidates_78 hl (k := 3) rfl rfl (by decide) rfl (fun ls hl => ?_)
            refine lv_goto (tgt := 7) hx hb dX0_findCandidates_81 (by decide) ?_
            exact ih (v1 + 1) cs cn lc hc lg hg _ _ _ h hP hD hS (lv_sub hl [3, 0] rfl)
          · exact absurd (by decide) c_7
        · replace h := (if_pos c_6).symm.trans h
          refine lv_iconst (v := 1) hx hb dX0_findCandidates_29 (by decide) ?_
          refine lv_goto (tgt := 34) hx hb dX0_findCandidates_30 (by decide) ?_
          refine lv_istore_n (lv' := [(3, .int 1), (2, .int r_2), (0, .ref x0), (1, .int v1)]) hx hb dX0_findCandidates_34 rfl hl (by decide) rfl (fun ls hl => ?_)
          refine lv_iload_n hx hb dX0_findCandidates_35 rfl (lv_at hl 0 rfl) ?_
          refine lv_if_eq (tgt := 78) hx hb dX0_findCandidates_36 (by decide) (fun c_8 => ?_) (fun c_8 => ?_)
          · exact absurd c_8 (by decide)
          · refine lv_iload_n hx hb dX0_findCandidates_39 rfl (lv_at hl 1 rfl) ?_
            refine lv_if_eq (tgt := 78) hx hb dX0_findCandidates_40 (by decide) (fun c_9 => ?_) (fun c_9 => ?_)
            · replace h := (if_pos c_9).symm.trans h
              refine lv_iinc (v := (v1 + 1)) (lv' := [(1, .int (v1 + 1)), (3, .int 1), (2, .int r_2), (0, .ref x0)]) hx hb dX0_findCandidates_78 hl (k := 3) rfl rfl (by decide) rfl (fun ls hl => ?_)
              refine lv_goto (tgt := 7) hx hb dX0_findCandidates_81 (by decide) ?_
              exact ih (v1 + 1) cs cn lc hc lg hg _ _ _ h hP hD hS (lv_sub hl [3, 0] rfl)
            · replace h := (if_neg c_9).symm.trans h
              refine lv_iload_n hx hb dX0_findCandidates_43 rfl (lv_at hl 3 rfl) ?_
              refine cl_Si0 (As := [.int v1]) (rest := []) ⟨hx, hb, hml, hown, hts⟩ (c_J6_bitCount_0f7a4 l D _ v1) (va_cwS 1 hts gX0_findCandidates_J6_bitCount_0f7a4 rfl rfl rfl (by decide +kernel) ⟨Nat.le_of_ble_eq_true rfl, Nat.le_of_ble_eq_true rfl⟩) hK hP hD hS hA rfl rfl hl.1 rfl (lv_room (Nat.le_of_ble_eq_true rfl)) dX0_findCandidates_44 (fun H locs hP hD hS => ?_)
              refine lv_aload_n hx hb dX0_findCandidates_47 rfl (lv_at hl 2 rfl) ?_
              refine va_get (D := D) (ci := 0) (v := .int su) (C := RX0) (T := TX0) (N := 16) hx hb hts hin hown hK hP 0 rfl rfl 5 (by decide) hw_1 (fun _ h9 => h9) rfl dX0_findCandidates_48 ?_
              refine lv_icmp_lt (tgt := 78) hx hb dX0_findCandidates_51 (by decide) (fun c_10 => ?_) (fun c_10 => ?_)
              · replace h := (if_pos c_10).symm.trans h
                refine lv_iinc (v := (v1 + 1)) (lv' := [(1, .int (v1 + 1)), (3, .int 1), (2, .int r_2), (0, .ref x0)]) hx hb dX0_findCandidates_78 hl (k := 3) rfl rfl (by decide) rfl (fun ls hl => ?_)
                refine lv_goto (tgt := 7) hx hb dX0_findCandidates_81 (by decide) ?_
                exact ih (v1 + 1) cs cn lc hc lg hg _ _ _ h hP hD hS (lv_sub hl [3, 0] rfl)
              · replace h := (if_neg c_10).symm.trans h
                refine lv_aload_n hx hb dX0_findCandidates_54 rfl (lv_at hl 2 rfl) ?_
                refine lv_iload_n hx hb dX0_findCandidates_55 rfl (lv_at hl 1 rfl) ?_
                obtain ⟨r_11, e_12, h⟩ := bnd1_some h
                refine cl_Vi (As := [.int r_2]) (rest := []) (wc := wX cI cJ x0 x1 x2 x3 x4 x5 x6 x7 x8 x9 g rm op rc ec su pe qt rs rn cs cn lc hc lg hg) (w1 := wX cI cJ x0 x1 x2 x3 x4 x5 x6 x7 x8 x9 g rm op rc ec su pe qt rs rn cs cn lc hc lg hg) (wr := []) ⟨hx, hb, hml, hown, hts⟩ (c_X0_isProper l D cI cJ x0 x1 x2 x3 x4 x5 x6 x7 x8 x9 _ g rm op rc ec su pe qt rs rn cs cn lc hc lg hg fu r_2 r_11 e_12) (cwV 1 hts gX0_findCandidates_X0_isProper rfl rfl rfl (by decide +kernel) ⟨Nat.le_of_ble_eq_true rfl, Nat.le_of_ble_eq_true rfl⟩) hK hP hD hS hA [0, 1, 2, 3, 4, 5, 6, 7, 8, 9] [] rfl rfl (by decide) (by decide) rfl rfl rfl rfl rfl hl.1 rfl (lv_room (Nat.le_of_ble_eq_true rfl)) dX0_findCandidates_56 (fun H locs hP hD hS => ?_)
                have hP : va_P D vwCl (wX cI cJ x0 x1 x2 x3 x4 x5 x6 x7 x8 x9 g rm op rc ec su pe qt rs rn cs cn lc hc lg hg) H := hP
                have hD : va_D A (wX cI cJ x0 x1 x2 x3 x4 x5 x6 x7 x8 x9 g rm op rc ec su pe qt rs rn cs cn lc hc lg hg) := hD
                refine lv_if_eq (tgt := 78) hx hb dX0_findCandidates_59 (by decide) (fun c_13 => ?_) (fun c_13 => ?_)
                · replace h := (if_pos c_13).symm.trans h
                  refine lv_iinc (v := (v1 + 1)) (lv' := [(1, .int (v1 + 1)), (3, .int 1), (2, .int r_2), (0, .ref x0)]) hx hb dX0_findCandidates_78 hl (k := 3) rfl rfl (by decide) rfl (fun ls hl => ?_)
                  refine lv_goto (tgt := 7) hx hb dX0_findCandidates_81 (by decide) ?_
                  exact ih (v1 + 1) cs cn lc hc lg hg _ _ _ h hP hD hS (lv_sub hl [3, 0] rfl)
                · replace h := (if_neg c_13).symm.trans h
                  refine lv_aload_n hx hb dX0_findCandidates_62 rfl (lv_at hl 2 rfl) ?_
                  refine lv_aload_n hx hb dX0_findCandidates_63 rfl (lv_at hl 2 rfl) ?_
                  refine va_get (D := D) (ci := 0) (v := .ref x5) (C := RX0) (T := TX0) (N := 16) hx hb hts hin hown hK hP 0 rfl rfl 10 (by decide) hw_2 (fun _ h9 => h9) rfl dX0_findCandidates_64 ?_
                  refine lv_aload_n hx hb dX0_findCandidates_67 rfl (lv_at hl 2 rfl) ?_
                  refine va_get (D := D) (ci := 0) (v := .int cn) (C := RX0) (T := TX0) (N := 16) hx hb hts hin hown hK hP 0 rfl rfl 11 (by decide) hw_0 (fun _ h9 => h9) rfl dX0_findCandidates_68 ?_
                  refine lv_iload_n hx hb dX0_findCandidates_71 rfl (lv_at hl 1 rfl) ?_
                  obtain ⟨r_14, f_15, e_16, h⟩ := bnd2_some h
                  refine cl_Si (As := [.ref x5, .int cn, .int r_2]) (rest := [.ref x0]) (wc := [(x5, .inl (cI, 255, .inl cs))]) (wr := [(x0, .inr (0, [.ref x1, .ref x2, .ref x3, .int rc, .int ec, .int su, .int pe, .int qt, .ref x4, .int rn, .ref x5, .int cn, .ref x6, .ref x7, .ref x8, .ref x9])), (x1, .inl (cI, 8, .inl g)), (x2, .inl (cI, 96, .inl rm)), (x3, .inl (cI, 12, .inl op)), (x4, .inl (cI, 255, .inl rs)), (x6, .inl (cJ, 255, .inr (.inl lc))), (x7, .inl (cJ, 255, .inr (.inl hc))), (x8, .inl (cJ, 15, .inr (.inl lg))), (x9, .inl (cJ, 15, .inr (.inl hg)))]) ⟨hx, hb, hml, hown, hts⟩ (c_X0_insertInOrder l D cI cJ x5 _ cs fu cn r_2 r_14 f_15 e_16) (va_cwS 3 hts gX0_findCandidates_X0_insertInOrder rfl rfl rfl (by decide +kernel) ⟨Nat.le_of_ble_eq_true rfl, Nat.le_of_ble_eq_true rfl⟩) hK hP hD hS hA [5] [0, 1, 2, 3, 4, 6, 7, 8, 9] rfl rfl (by decide) (by decide) rfl rfl rfl hl.1 rfl (lv_room (Nat.le_of_ble_eq_true rfl)) dX0_findCandidates_72 (fun H locs hP hD hS => ?_)
                  replace hP := hP.sub (ws' := wX cI cJ x0 x1 x2 x3 x4 x5 x6 x7 x8 x9 g rm op rc ec su pe qt rs rn f_15 cn lc hc lg hg) [0, 1, 2, 3, 4, 9, 5, 6, 7, 8] rfl
                  replace hD := hD.sub (ws' := wX cI cJ x0 x1 x2 x3 x4 x5 x6 x7 x8 x9 g rm op rc ec su pe qt rs rn f_15 cn lc hc lg hg) [0, 1, 2, 3, 4, 9, 5, 6, 7, 8] (by decide) rfl
                  refine va_put (D := D) (ci := 0) (v := .int r_14) (ty := .int) (C := RX0) (T := TX0) (N := 16) hx hb hts hin tyX0 tyX0_ok nmX0 hown hK hP hD hS 0 rfl rfl 11 (by decide) hw_0 (fun _ h9 => h9) rfl (by decide +kernel) rfl rfl (Nat.le_of_ble_eq_true rfl) dX0_findCandidates_75 (fun H locs hP hD hS => ?_)
                  have hP : va_P D vwCl (wX cI cJ x0 x1 x2 x3 x4 x5 x6 x7 x8 x9 g rm op rc ec su pe qt rs rn f_15 r_14 lc hc lg hg) H := hP
                  have hD : va_D A (wX cI cJ x0 x1 x2 x3 x4 x5 x6 x7 x8 x9 g rm op rc ec su pe qt rs rn f_15 r_14 lc hc lg hg) := hD
                  refine lv_iinc (v := (v1 + 1)) (lv' := [(1, .int (v1 + 1)), (3, .int 1), (2, .int r_2), (0, .ref x0)]) hx hb dX0_findCandidates_78 hl (k := 3) rfl rfl (by decide) rfl (fun ls hl => ?_)
                  refine lv_goto (tgt := 7) hx hb dX0_findCandidates_81 (by decide) ?_
                  exact ih (v1 + 1) f_15 r_14 lc hc lg hg _ _ _ h hP hD hS (lv_sub hl [3, 0] rfl)
  rw [m_X0_findCandidates] at h
  refine lv_aload_n hx hb dX0_findCandidates_0 rfl (lv_at hl 0 rfl) ?_
  refine lv_iconst (v := 0) hx hb dX0_findCandidates_1 (by decide) ?_
  refine va_put (D := D) (ci := 0) (v := .int 0) (ty := .int) (C := RX0) (T := TX0) (N := 16) hx hb hts hin tyX0 tyX0_ok nmX0 hown hK hP hD hS 0 rfl rfl 11 (by decide) hw_0 (fun _ h9 => h9) rfl (by decide +kernel) rfl rfl (Nat.le_of_ble_eq_true rfl) dX0_findCandidates_2 (fun H locs hP hD hS => ?_)
  have hP : va_P D vwCl (wX cI cJ x0 x1 x2 x3 x4 x5 x6 x7 x8 x9 g rm op rc ec su pe qt rs rn cs 0 lc hc lg hg) H := hP
  have hD : va_D A (wX cI cJ x0 x1 x2 x3 x4 x5 x6 x7 x8 x9 g rm op rc ec su pe qt rs rn cs 0 lc hc lg hg) := hD
  refine lv_iconst (v := 1) hx hb dX0_findCandidates_5 (by decide) ?_
  refine lv_istore_n (lv' := [(1, .int 1), (0, .ref x0)]) hx hb dX0_findCandidates_6 rfl hl (by decide) rfl (fun ls hl => ?_)
  exact L7 fu 1 cs 0 lc hc lg hg _ _ _ h hP hD hS (lv_sub hl [1, 0] rfl)
-- X0_mostSavingCandidate
def m_X0_mostSavingCandidate_9 (fu : Nat) (rc : Int32) (ec : Int32) (cn : Int32) (lc : Nat → Int64) (hc : Nat → Int64) (a1 : Int64) (a3 : Int64) : Nat → Int32 → Int32 → Int32 → Option ((Int32))
  | 0, _, _, _ => none
  | n + 1, v5, v6, v7 => (if cn ≤ v7 then some v5 else (ix v7 255 (if ((ec * ((m_J13_bitCount_95d88 (a1 &&& (lc (Int32.toNatClampNeg v7)))) + (m_J13_bitCount_95d88 (a3 &&& (hc (Int32.toNatClampNeg v7)))))) - rc) ≤ v6 then (m_X0_mostSavingCandidate_9 fu rc ec cn lc hc a1 a3 n v5 v6 (v7 + 1)) else (m_X0_mostSavingCandidate_9 fu rc ec cn lc hc a1 a3 n v7 ((ec * ((m_J13_bitCount_95d88 (a1 &&& (lc (Int32.toNatClampNeg v7)))) + (m_J13_bitCount_95d88 (a3 &&& (hc (Int32.toNatClampNeg v7)))))) - rc) (v7 + 1)))))
def m_X0_mostSavingCandidate (fu : Nat) (rc : Int32) (ec : Int32) (cn : Int32) (lc : Nat → Int64) (hc : Nat → Int64) (a1 : Int64) (a3 : Int64) : Option ((Int32)) := (m_X0_mostSavingCandidate_9 fu rc ec cn lc hc a1 a3 fu (-1) 0 0)
set_option maxHeartbeats 4000000 in
set_option maxRecDepth 100000 in
theorem c_X0_mostSavingCandidate (l : Launch) (D : va_G) (cI cJ : ClassId) (x0 x1 x2 x3 x4 x5 x6 x7 x8 x9 : Nat) (sz : Nat) (g : Nat → Int32) (rm : Nat → Int32) (op : Nat → Int32) (rc : Int32) (ec : Int32) (su : Int32) (pe : Int32) (qt : Int32) (rs : Nat → Int32) (rn : Int32) (cs : Nat → Int32) (cn : Int32) (lc : Nat → Int64) (hc : Nat → Int64) (lg : Nat → Int64) (hg : Nat → Int64) (fu : Nat) (a1 : Int64) (a3 : Int64) (r0 : Int32) (h : m_X0_mostSavingCandidate fu rc ec cn lc hc a1 a3 = some r0) : Met l yX0_mostSavingCandidate wsX0_mostSavingCandidate ({ frames := 1, cells := 0, slots := 0, locals := 21 }) (va_Pc [.ref x0, .long a1, .long a3] (bx_Pre D [(cI, .int), (cJ, .long)] (wX cI cJ x0 x1 x2 x3 x4 x5 x6 x7 x8 x9 g rm op rc ec su pe qt rs rn cs cn lc hc lg hg) sz)) (va_Qi (fun (r : Int32) (_ : Unit) => r = r0) (fun (_ : Unit) t => bx_Post D [(cI, .int), (cJ, .long)] (wX cI cJ x0 x1 x2 x3 x4 x5 x6 x7 x8 x9 g rm op rc ec su pe qt rs rn cs cn lc hc lg hg) (va_A (wX cI cJ x0 x1 x2 x3 x4 x5 x6 x7 x8 x9 g rm op rc ec su pe qt rs rn cs cn lc hc lg hg) sz) t) (va_A (wX cI cJ x0 x1 x2 x3 x4 x5 x6 x7 x8 x9 g rm op rc ec su pe qt rs rn cs cn lc hc lg hg) sz)) 0 0 (va_A (wX cI cJ x0 x1 x2 x3 x4 x5 x6 x7 x8 x9 g rm op rc ec su pe qt rs rn cs cn lc hc lg hg) sz) := by
  refine Met.ofW (cc := cX0_mostSavingCandidate) (maxL := 10) (ret := (some .int)) (by decide) rfl ?_
  intro p e s m args below meth c s₁ B hml hv
  obtain ⟨rfl, hsz, hP, hK, hD0⟩ := hv
  have hx := B.exec
  have hb := B.bytes
  have hr := B.returns
  have hts := atoms_spec (ws := wsX0_mostSavingCandidate) B.pre
  have hown : s.vm.findClass RX0 = some m.cls := findClass_of_methodNamed B.named
  have hlocks := B.notSynchronized
  subst hsz
  have hD := hD0.self (sz := s.heap.size)
  generalize hAe : va_A (wX cI cJ x0 x1 x2 x3 x4 x5 x6 x7 x8 x9 g rm op rc ec su pe qt rs rn cs cn lc hc lg hg) s.heap.size = A at hD ⊢
  have hA : ∀ q : Nat, s.heap.size ≤ q → A q := fun q h9 => by rw [← hAe]; exact Or.inr h9
  have hS : va_S A s.heap s.heap [] := va_S.rf
  have hin : ∀ w ∈ wsX00, w ∈ wsX0_mostSavingCandidate := fun _ h9 => List.mem_cons_of_mem _ (List.mem_append_right _ h9)
  have hw_0 := hts (.fieldLink RX0 44 "RoleMiner" "candidateCount" "I") (by decide +kernel)
  have hw_1 := hts (.fieldLink RX0 47 "RoleMiner" "lowCover" "[J") (by decide +kernel)
  have hw_2 := hts (.fieldLink RX0 51 "RoleMiner" "highCover" "[J") (by decide +kernel)
  have hw_3 := hts (.fieldLink RX0 23 "RoleMiner" "exceptionCost" "I") (by decide +kernel)
  have hw_4 := hts (.fieldLink RX0 19 "RoleMiner" "roleCost" "I") (by decide +kernel)
  have hl := lv_entry ([.ref x0, .long a1, .long a3]) (n := 10) (Nat.le_of_ble_eq_true rfl)
  rw [lg_entry_eq]
  generalize (lg_sl ([.ref x0, .long a1, .long a3]) ++ List.replicate (10 - (lg_sl ([.ref x0, .long a1, .long a3])).length) Slot.unset).toArray = ls at hl ⊢
  have hl : lv_has ls 10 [(0, .ref x0), (1, .long a1), (3, .long a3)] := hl
  have L9 : ∀ (n : Nat) (v5 : Int32) (v6 : Int32) (v7 : Int32) (H : Heap) (locs : List Loc) (ls : Array Slot), m_X0_mostSavingCandidate_9 fu rc ec cn lc hc a1 a3 n v5 v6 v7 = some r0 → va_P D vwCl (wX cI cJ x0 x1 x2 x3 x4 x5 x6 x7 x8 x9 g rm op rc ec su pe qt rs rn cs cn lc hc lg hg) H → va_D A (wX cI cJ x0 x1 x2 x3 x4 x5 x6 x7 x8 x9 g rm op rc ec su pe qt rs rn cs cn lc hc lg hg) → va_S A s.heap H locs → lv_has ls 10 [(0, .ref x0), (1, .long a1), (3, .long a3), (5, .int v5), (6, .int v6), (7, .int v7)] → W p l e (headSpec wsX0_mostSavingCandidate ({ frames := 1, cells := 0, slots := 0, locals := 21 })).room s m ([.ref x0, .long a1, .long a3] : List Value).toArray below meth c H locs 0 0 (MQ below (va_Qi (fun (r : Int32) (_ : Unit) => r = r0) (fun (_ : Unit) t => bx_Post D [(cI, .int), (cJ, .long)] (wX cI cJ x0 x1 x2 x3 x4 x5 x6 x7 x8 x9 g rm op rc ec su pe qt rs rn cs cn lc hc lg hg) A t) A) ([.ref x0, .long a1, .long a3] : List Value).toArray s 0 0 A) (F0 m 9 ls []) := by
    intro n
    induction n with
    | zero =>
      intro v5 v6 v7 H locs ls h
      rw [m_X0_mostSavingCandidate_9] at h
      cases h
    | succ n ih =>
      intro v5 v6 v7 H locs ls h hP hD hS hl
      rw [m_X0_mostSavingCandidate_9] at h
      refine lv_iload hx hb dX0_mostSavingCandidate_9 (lv_at hl 5 rfl) ?_
      refine lv_aload_n hx hb dX0_mostSavingCandidate_11 rfl (lv_at hl 0 rfl) ?_
      refine va_get (D := D) (ci := 0) (v := .int cn) (C := RX0) (T := TX0) (N := 16) hx hb hts hin hown hK hP 0 rfl rfl 11 (by decide) hw_0 (fun _ h9 => h9) rfl dX0_mostSavingCandidate_12 ?_
      refine lv_icmp_ge (tgt := 80) hx hb dX0_mostSavingCandidate_15 (by decide) (fun c_1 => ?_) (fun c_1 => ?_)
      · replace h := (if_pos c_1).symm.trans h
        refine lv_iload hx hb dX0_mostSavingCandidate_80 (lv_at hl 3 rfl) ?_
        cases h
        exact W.iret hx hb hr (fun t ht hW => ⟨⟨_, (), rfl, rfl, by rw [ht]; exact hP, va_K.moved hW.alike hK, hD⟩, hS.F ht⟩) hS.2.2 dX0_mostSavingCandidate_82
      · replace h := (if_neg c_1).symm.trans h
        refine lv_lload_n hx hb dX0_mostSavingCandidate_18 rfl (lv_at hl 1 rfl) ?_
        refine lv_aload_n hx hb dX0_mostSavingCandidate_19 rfl (lv_at hl 0 rfl) ?_
        refine va_get (D := D) (ci := 0) (v := .ref x6) (C := RX0) (T := TX0) (N := 16) hx hb hts hin hown hK hP 0 rfl rfl 12 (by decide) hw_1 (fun _ h9 => h9) rfl dX0_mostSavingCandidate_20 ?_
        refine lv_iload hx hb dX0_mostSavingCandidate_23 (lv_at hl 5 rfl) ?_
        obtain ⟨h_2, h⟩ := ix_some h
        refine va_lald hx hb hK hP 6 1 rfl rfl h_2 dX0_mostSavingCandidate_25 ?_
        refine lv_land hx hb dX0_mostSavingCandidate_26 ?_
        refine cl_Si0 (As := [.long (a1 &&& (lc (Int32.toNatClampNeg v7)))]) (rest := []) ⟨hx, hb, hml, hown, hts⟩ (c_J13_bitCount_95d88 l D _ (a1 &&& (lc (Int32.toNatClampNeg v7)))) (va_cwS 1 hts gX0_mostSavingCandidate_J13_bitCount_95d88 rfl rfl rfl (by decide +kernel) ⟨Nat.le_of_ble_eq_true rfl, Nat.le_of_ble_eq_true rfl⟩) hK hP hD hS hA rfl rfl hl.1 rfl (lv_room (Nat.le_of_ble_eq_true rfl)) dX0_mostSavingCandidate_27 (fun H locs hP hD hS => ?_)
        refine lv_lload_n hx hb dX0_mostSavingCandidate_30 rfl (lv_at hl 2 rfl) ?_
        refine lv_aload_n hx hb dX0_mostSavingCandidate_31 rfl (lv_at hl 0 rfl) ?_
        refine va_get (D := D) (ci := 0) (v := .ref x7) (C := RX0) (T := TX0) (N := 16) hx hb hts hin hown hK hP 0 rfl rfl 13 (by decide) hw_2 (fun _ h9 => h9) rfl dX0_mostSavingCandidate_32 ?_
        refine lv_iload hx hb dX0_mostSavingCandidate_35 (lv_at hl 5 rfl) ?_
        refine va_lald hx hb hK hP 7 1 rfl rfl h_2 dX0_mostSavingCandidate_37 ?_
        refine lv_land hx hb dX0_mostSavingCandidate_38 ?_
        refine cl_Si0 (As := [.long (a3 &&& (hc (Int32.toNatClampNeg v7)))]) (rest := [.int (m_J13_bitCount_95d88 (a1 &&& (lc (Int32.toNatClampNeg v7))))]) ⟨hx, hb, hml, hown, hts⟩ (c_J13_bitCount_95d88 l D _ (a3 &&& (hc (Int32.toNatClampNeg v7)))) (va_cwS 1 hts gX0_mostSavingCandidate_J13_bitCount_95d88 rfl rfl rfl (by decide +kernel) ⟨Nat.le_of_ble_eq_true rfl, Nat.le_of_ble_eq_true rfl⟩) hK hP hD hS hA rfl rfl hl.1 rfl (lv_room (Nat.le_of_ble_eq_true rfl)) dX0_mostSavingCandidate_39 (fun H locs hP hD hS => ?_)
        refine lv_iadd hx hb dX0_mostSavingCandidate_42 ?_
        refine lv_istore (lv' := [(8, .int ((m_J13_bitCount_95d88 (a1 &&& (lc (Int32.toNatClampNeg v7)))) + (m_J13_bitCount_95d88 (a3 &&& (hc (Int32.toNatClampNeg v7)))))), (0, .ref x0), (1, .long a1), (3, .long a3), (5, .int v5), (6, .int v6), (7, .int v7)]) hx hb dX0_mostSavingCandidate_43 hl (by decide) rfl (fun ls hl => ?_)
        refine lv_aload_n hx hb dX0_mostSavingCandidate_45 rfl (lv_at hl 1 rfl) ?_
        refine va_get (D := D) (ci := 0) (v := .int ec) (C := RX0) (T := TX0) (N := 16) hx hb hts hin hown hK hP 0 rfl rfl 4 (by decide) hw_3 (fun _ h9 => h9) rfl dX0_mostSavingCandidate_46 ?_
        refine lv_iload hx hb dX0_mostSavingCandidate_49 (lv_at hl 0 rfl) ?_
        refine lv_imul hx hb dX0_mostSavingCandidate_51 ?_
        refine lv_aload_n hx hb dX0_mostSavingCandidate_52 rfl (lv_at hl 1 rfl) ?_
        refine va_get (D := D) (ci := 0) (v := .int rc) (C := RX0) (T := TX0) (N := 16) hx hb hts hin hown hK hP 0 rfl rfl 3 (by decide) hw_4 (fun _ h9 => h9) rfl dX0_mostSavingCandidate_53 ?_
        refine lv_isub hx hb dX0_mostSavingCandidate_56 ?_
        refine lv_istore (lv' := [(9, .int ((ec * ((m_J13_bitCount_95d88 (a1 &&& (lc (Int32.toNatClampNeg v7)))) + (m_J13_bitCount_95d88 (a3 &&& (hc (Int32.toNatClampNeg v7)))))) - rc)), (8, .int ((m_J13_bitCount_95d88 (a1 &&& (lc (Int32.toNatClampNeg v7)))) + (m_J13_bitCount_95d88 (a3 &&& (hc (Int32.toNatClampNeg v7)))))), (0, .ref x0), (1, .long a1), (3, .long a3), (5, .int v5), (6, .int v6), (7, .int v7)]) hx hb dX0_mostSavingCandidate_57 hl (by decide) rfl (fun ls hl => ?_)
        refine lv_iload hx hb dX0_mostSavingCandidate_59 (lv_at hl 0 rfl) ?_
        refine lv_iload hx hb dX0_mostSavingCandidate_61 (lv_at hl 6 rfl) ?_
        refine lv_icmp_le (tgt := 74) hx hb dX0_mostSavingCandidate_63 (by decide) (fun c_3 => ?_) (fun c_3 => ?_)
        · replace h := (if_pos c_3).symm.trans h
          refine lv_iinc (v := (v7 + 1)) (lv' := [(7, .int (v7 + 1)), (9, .int ((ec * ((m_J13_bitCount_95d88 (a1 &&& (lc (Int32.toNatClampNeg v7)))) + (m_J13_bitCount_95d88 (a3 &&& (hc (Int32.toNatClampNeg v7)))))) - rc)), (8, .int ((m_J13_bitCount_95d88 (a1 &&& (lc (Int32.toNatClampNeg v7)))) + (m_J13_bitCount_95d88 (a3 &&& (hc (Int32.toNatClampNeg v7)))))), (0, .ref x0), (1, .long a1), (3, .long a3), (5, .int v5), (6, .int v6)]) hx hb dX0_mostSavingCandidate_74 hl (k := 7) rfl rfl (by decide) rfl (fun ls hl => ?_)
          refine lv_goto (tgt := 9) hx hb dX0_mostSavingCandidate_77 (by decide) ?_
          exact ih v5 v6 (v7 + 1) _ _ _ h hP hD hS (lv_sub hl [3, 4, 5, 6, 7, 0] rfl)
        · replace h := (if_neg c_3).symm.trans h
          refine lv_iload hx hb dX0_mostSavingCandidate_66 (lv_at hl 7 rfl) ?_
          refine lv_istore (lv' := [(5, .int v7), (9, .int ((ec * ((m_J13_bitCount_95d88 (a1 &&& (lc (Int32.toNatClampNeg v7)))) + (m_J13_bitCount_95d88 (a3 &&& (hc (Int32.toNatClampNeg v7)))))) - rc)), (8, .int ((m_J13_bitCount_95d88 (a1 &&& (lc (Int32.toNatClampNeg v7)))) + (m_J13_bitCount_95d88 (a3 &&& (hc (Int32.toNatClampNeg v7)))))), (0, .ref x0), (1, .long a1), (3, .long a3), (6, .int v6), (7, .int v7)]) hx hb dX0_mostSavingCandidate_68 hl (by decide) rfl (fun ls hl => ?_)
          refine lv_iload hx hb dX0_mostSavingCandidate_70 (lv_at hl 1 rfl) ?_
          refine lv_istore (lv' := [(6, .int ((ec * ((m_J13_bitCount_95d88 (a1 &&& (lc (Int32.toNatClampNeg v7)))) + (m_J13_bitCount_95d88 (a3 &&& (hc (Int32.toNatClampNeg v7)))))) - rc)), (5, .int v7), (9, .int ((ec * ((m_J13_bitCount_95d88 (a1 &&& (lc (Int32.toNatClampNeg v7)))) + (m_J13_bitCount_95d88 (a3 &&& (hc (Int32.toNatClampNeg v7)))))) - rc)), (8, .int ((m_J13_bitCount_95d88 (a1 &&& (lc (Int32.toNatClampNeg v7)))) + (m_J13_bitCount_95d88 (a3 &&& (hc (Int32.toNatClampNeg v7)))))), (0, .ref x0), (1, .long a1), (3, .long a3), (7, .int v7)]) hx hb dX0_mostSavingCandidate_72 hl (by decide) rfl (fun ls hl => ?_)
          refine lv_iinc (v := (v7 + 1)) (lv' := [(7, .int (v7 + 1)), (6, .int ((ec * ((m_J13_bitCount_95d88 (a1 &&& (lc (Int32.toNatClampNeg v7)))) + (m_J13_bitCount_95d88 (a3 &&& (hc (Int32.toNatClampNeg v7)))))) - rc)), (5, .int v7), (9, .int ((ec * ((m_J13_bitCount_95d88 (a1 &&& (lc (Int32.toNatClampNeg v7)))) + (m_J13_bitCount_95d88 (a3 &&& (hc (Int32.toNatClampNeg v7)))))) - rc)), (8, .int ((m_J13_bitCount_95d88 (a1 &&& (lc (Int32.toNatClampNeg v7)))) + (m_J13_bitCount_95d88 (a3 &&& (hc (Int32.toNatClampNeg v7)))))), (0, .ref x0), (1, .long a1), (3, .long a3)]) hx hb dX0_mostSavingCandidate_74 hl (k := 7) rfl rfl (by decide) rfl (fun ls hl => ?_)
          refine lv_goto (tgt := 9) hx hb dX0_mostSavingCandidate_77 (by decide) ?_
          exact ih v7 ((ec * ((m_J13_bitCount_95d88 (a1 &&& (lc (Int32.toNatClampNeg v7)))) + (m_J13_bitCount_95d88 (a3 &&& (hc (Int32.toNatClampNeg v7)))))) - rc) (v7 + 1) _ _ _ h hP hD hS (lv_sub hl [5, 6, 7, 2, 1, 0] rfl)
  rw [m_X0_mostSavingCandidate] at h
  refine lv_iconst (v := (-1)) hx hb dX0_mostSavingCandidate_0 (by decide) ?_
  refine lv_istore (lv' := [(5, .int (-1)), (0, .ref x0), (1, .long a1), (3, .long a3)]) hx hb dX0_mostSavingCandidate_1 hl (by decide) rfl (fun ls hl => ?_)
  refine lv_iconst (v := 0) hx hb dX0_mostSavingCandidate_3 (by decide) ?_
  refine lv_istore (lv' := [(6, .int 0), (5, .int (-1)), (0, .ref x0), (1, .long a1), (3, .long a3)]) hx hb dX0_mostSavingCandidate_4 hl (by decide) rfl (fun ls hl => ?_)
  refine lv_iconst (v := 0) hx hb dX0_mostSavingCandidate_6 (by decide) ?_
  refine lv_istore (lv' := [(7, .int 0), (6, .int 0), (5, .int (-1)), (0, .ref x0), (1, .long a1), (3, .long a3)]) hx hb dX0_mostSavingCandidate_7 hl (by decide) rfl (fun ls hl => ?_)
  exact L9 fu (-1) 0 0 _ _ _ h hP hD hS (lv_sub hl [3, 4, 5, 2, 1, 0] rfl)
-- X0_costWith
def m_X0_costWith (rc : Int32) (ec : Int32) (a1 : Int32) (a2 : Int64) (a4 : Int64) : (Int32) := ((rc * a1) + (ec * ((m_J13_bitCount_95d88 a2) + (m_J13_bitCount_95d88 a4))))
set_option maxHeartbeats 4000000 in
set_option maxRecDepth 100000 in
theorem c_X0_costWith (l : Launch) (D : va_G) (cI cJ : ClassId) (x0 x1 x2 x3 x4 x5 x6 x7 x8 x9 : Nat) (sz : Nat) (g : Nat → Int32) (rm : Nat → Int32) (op : Nat → Int32) (rc : Int32) (ec : Int32) (su : Int32) (pe : Int32) (qt : Int32) (rs : Nat → Int32) (rn : Int32) (cs : Nat → Int32) (cn : Int32) (lc : Nat → Int64) (hc : Nat → Int64) (lg : Nat → Int64) (hg : Nat → Int64) (a1 : Int32) (a2 : Int64) (a4 : Int64) : Met l yX0_costWith wsX0_costWith ({ frames := 1, cells := 0, slots := 0, locals := 21 }) (va_Pc [.ref x0, .int a1, .long a2, .long a4] (bx_Pre D [(cI, .int), (cJ, .long)] (wX cI cJ x0 x1 x2 x3 x4 x5 x6 x7 x8 x9 g rm op rc ec su pe qt rs rn cs cn lc hc lg hg) sz)) (va_Qi (fun (r : Int32) (_ : Unit) => r = m_X0_costWith rc ec a1 a2 a4) (fun (_ : Unit) t => bx_Post D [(cI, .int), (cJ, .long)] (wX cI cJ x0 x1 x2 x3 x4 x5 x6 x7 x8 x9 g rm op rc ec su pe qt rs rn cs cn lc hc lg hg) (va_A (wX cI cJ x0 x1 x2 x3 x4 x5 x6 x7 x8 x9 g rm op rc ec su pe qt rs rn cs cn lc hc lg hg) sz) t) (va_A (wX cI cJ x0 x1 x2 x3 x4 x5 x6 x7 x8 x9 g rm op rc ec su pe qt rs rn cs cn lc hc lg hg) sz)) 0 0 (va_A (wX cI cJ x0 x1 x2 x3 x4 x5 x6 x7 x8 x9 g rm op rc ec su pe qt rs rn cs cn lc hc lg hg) sz) := by
  refine Met.ofW (cc := cX0_costWith) (maxL := 6) (ret := (some .int)) (by decide) rfl ?_
  intro p e s m args below meth c s₁ B hml hv
  obtain ⟨rfl, hsz, hP, hK, hD0⟩ := hv
  have hx := B.exec
  have hb := B.bytes
  have hr := B.returns
  have hts := atoms_spec (ws := wsX0_costWith) B.pre
  have hown : s.vm.findClass RX0 = some m.cls := findClass_of_methodNamed B.named
  have hlocks := B.notSynchronized
  subst hsz
  have hD := hD0.self (sz := s.heap.size)
  generalize hAe : va_A (wX cI cJ x0 x1 x2 x3 x4 x5 x6 x7 x8 x9 g rm op rc ec su pe qt rs rn cs cn lc hc lg hg) s.heap.size = A at hD ⊢
  have hA : ∀ q : Nat, s.heap.size ≤ q → A q := fun q h9 => by rw [← hAe]; exact Or.inr h9
  have hS : va_S A s.heap s.heap [] := va_S.rf
  have hin : ∀ w ∈ wsX00, w ∈ wsX0_costWith := fun _ h9 => List.mem_cons_of_mem _ (List.mem_append_right _ h9)
  have hw_0 := hts (.fieldLink RX0 19 "RoleMiner" "roleCost" "I") (by decide +kernel)
  have hw_1 := hts (.fieldLink RX0 23 "RoleMiner" "exceptionCost" "I") (by decide +kernel)
  have hl := lv_entry ([.ref x0, .int a1, .long a2, .long a4]) (n := 6) (Nat.le_of_ble_eq_true rfl)
  rw [lg_entry_eq]
  generalize (lg_sl ([.ref x0, .int a1, .long a2, .long a4]) ++ List.replicate (6 - (lg_sl ([.ref x0, .int a1, .long a2, .long a4])).length) Slot.unset).toArray = ls at hl ⊢
  have hl : lv_has ls 6 [(0, .ref x0), (1, .int a1), (2, .long a2), (4, .long a4)] := hl
  refine lv_aload_n hx hb dX0_costWith_0 rfl (lv_at hl 0 rfl) ?_
  refine va_get (D := D) (ci := 0) (v := .int rc) (C := RX0) (T := TX0) (N := 16) hx hb hts hin hown hK hP 0 rfl rfl 3 (by decide) hw_0 (fun _ h9 => h9) rfl dX0_costWith_1 ?_
  refine lv_iload_n hx hb dX0_costWith_4 rfl (lv_at hl 1 rfl) ?_
  refine lv_imul hx hb dX0_costWith_5 ?_
  refine lv_aload_n hx hb dX0_costWith_6 rfl (lv_at hl 0 rfl) ?_
  refine va_get (D := D) (ci := 0) (v := .int ec) (C := RX0) (T := TX0) (N := 16) hx hb hts hin hown hK hP 0 rfl rfl 4 (by decide) hw_1 (fun _ h9 => h9) rfl dX0_costWith_7 ?_
  refine lv_lload_n hx hb dX0_costWith_10 rfl (lv_at hl 2 rfl) ?_
  refine cl_Si0 (As := [.long a2]) (rest := [.int ec, .int (rc * a1)]) ⟨hx, hb, hml, hown, hts⟩ (c_J13_bitCount_95d88 l D _ a2) (va_cwS 1 hts gX0_costWith_J13_bitCount_95d88 rfl rfl rfl (by decide +kernel) ⟨Nat.le_of_ble_eq_true rfl, Nat.le_of_ble_eq_true rfl⟩) hK hP hD hS hA rfl rfl hl.1 rfl (lv_room (Nat.le_of_ble_eq_true rfl)) dX0_costWith_11 (fun H locs hP hD hS => ?_)
  refine lv_lload hx hb dX0_costWith_14 (lv_at hl 3 rfl) ?_
  refine cl_Si0 (As := [.long a4]) (rest := [.int (m_J13_bitCount_95d88 a2), .int ec, .int (rc * a1)]) ⟨hx, hb, hml, hown, hts⟩ (c_J13_bitCount_95d88 l D _ a4) (va_cwS 1 hts gX0_costWith_J13_bitCount_95d88 rfl rfl rfl (by decide +kernel) ⟨Nat.le_of_ble_eq_true rfl, Nat.le_of_ble_eq_true rfl⟩) hK hP hD hS hA rfl rfl hl.1 rfl (lv_room (Nat.le_of_ble_eq_true rfl)) dX0_costWith_16 (fun H locs hP hD hS => ?_)
  refine lv_iadd hx hb dX0_costWith_19 ?_
  refine lv_imul hx hb dX0_costWith_20 ?_
  refine lv_iadd hx hb dX0_costWith_21 ?_
  exact W.iret hx hb hr (fun t ht hW => ⟨⟨_, (), rfl, (by rw [m_X0_costWith]), by rw [ht]; exact hP, va_K.moved hW.alike hK, hD⟩, hS.F ht⟩) hS.2.2 dX0_costWith_22
-- X0_mineGreedily
def m_X0_mineGreedily_28 (fu : Nat) (g : Nat → Int32) (op : Nat → Int32) (rc : Int32) (ec : Int32) (su : Int32) : Nat → Int64 → Int64 → Int32 → (Nat → Int32) → (Int32) → (Nat → Int32) → (Int32) → (Nat → Int64) → (Nat → Int64) → (Nat → Int64) → (Nat → Int64) → Option ((Int32) × ((Nat → Int32)) × ((Int32)) × ((Nat → Int32)) × ((Int32)) × ((Nat → Int64)) × ((Nat → Int64)) × ((Nat → Int64)) × ((Nat → Int64)))
  | 0, _, _, _, _, _, _, _, _, _, _, _ => none
  | n + 1, v1, v3, v5, rs, rn, cs, cn, lc, hc, lg, hg => (if cn ≤ v5 then some ((m_X0_costWith rc ec rn v1 v3), rs, rn, cs, cn, lc, hc, lg, hg) else (bnd1 (m_X0_mostSavingCandidate fu rc ec cn lc hc v1 v3) (fun r_9 => (if r_9 < 0 then some ((m_X0_costWith rc ec rn v1 v3), rs, rn, cs, cn, lc, hc, lg, hg) else (if r_9 < cn then (ix r_9 255 (bnd2 (m_X0_insertInOrder fu rs rn (cs (Int32.toNatClampNeg r_9))) (fun r_14 f_15 => (m_X0_mineGreedily_28 fu g op rc ec su n (v1 &&& ((lc (Int32.toNatClampNeg r_9)) ^^^ (-1))) (v3 &&& ((hc (Int32.toNatClampNeg r_9)) ^^^ (-1))) (v5 + 1) f_15 r_14 cs cn lc hc lg hg)))) else some ((m_X0_costWith rc ec rn v1 v3), rs, rn, cs, cn, lc, hc, lg, hg))))))
def m_X0_mineGreedily (fu : Nat) (g : Nat → Int32) (op : Nat → Int32) (rc : Int32) (ec : Int32) (su : Int32) (rs : Nat → Int32) (rn : Int32) (cs : Nat → Int32) (cn : Int32) (lc : Nat → Int64) (hc : Nat → Int64) (lg : Nat → Int64) (hg : Nat → Int64) : Option ((Int32) × ((Nat → Int32)) × ((Int32)) × ((Nat → Int32)) × ((Int32)) × ((Nat → Int64)) × ((Nat → Int64)) × ((Nat → Int64)) × ((Nat → Int64))) := (bnd6 (m_X0_findCandidates fu g op su cs cn lc hc lg hg) (fun cs_1 cn_2 lc_3 hc_4 lg_5 hg_6 => (m_X0_mineGreedily_28 fu g op rc ec su fu (lg_5 (Int32.toNatClampNeg 14)) (hg_6 (Int32.toNatClampNeg 14)) 0 rs 0 cs_1 cn_2 lc_3 hc_4 lg_5 hg_6)))
set_option maxHeartbeats 4000000 in
set_option maxRecDepth 100000 in
theorem c_X0_mineGreedily (l : Launch) (D : va_G) (cI cJ : ClassId) (x0 x1 x2 x3 x4 x5 x6 x7 x8 x9 : Nat) (sz : Nat) (g : Nat → Int32) (rm : Nat → Int32) (op : Nat → Int32) (rc : Int32) (ec : Int32) (su : Int32) (pe : Int32) (qt : Int32) (rs : Nat → Int32) (rn : Int32) (cs : Nat → Int32) (cn : Int32) (lc : Nat → Int64) (hc : Nat → Int64) (lg : Nat → Int64) (hg : Nat → Int64) (fu : Nat) (r0 : Int32) (rs' : Nat → Int32) (rn' : Int32) (cs' : Nat → Int32) (cn' : Int32) (lc' : Nat → Int64) (hc' : Nat → Int64) (lg' : Nat → Int64) (hg' : Nat → Int64) (h : m_X0_mineGreedily fu g op rc ec su rs rn cs cn lc hc lg hg = some (r0, rs', rn', cs', cn', lc', hc', lg', hg')) : Met l yX0_mineGreedily wsX0_mineGreedily ({ frames := 3, cells := 0, slots := 0, locals := 72 }) (va_Pc [.ref x0] (bx_Pre D [(cI, .int), (cJ, .long)] (wX cI cJ x0 x1 x2 x3 x4 x5 x6 x7 x8 x9 g rm op rc ec su pe qt rs rn cs cn lc hc lg hg) sz)) (va_Qi (fun (r : Int32) (_ : Unit) => r = r0) (fun (_ : Unit) t => bx_Post D [(cI, .int), (cJ, .long)] (wX cI cJ x0 x1 x2 x3 x4 x5 x6 x7 x8 x9 g rm op rc ec su pe qt rs' rn' cs' cn' lc' hc' lg' hg') (va_A (wX cI cJ x0 x1 x2 x3 x4 x5 x6 x7 x8 x9 g rm op rc ec su pe qt rs rn cs cn lc hc lg hg) sz) t) (va_A (wX cI cJ x0 x1 x2 x3 x4 x5 x6 x7 x8 x9 g rm op rc ec su pe qt rs rn cs cn lc hc lg hg) sz)) 0 0 (va_A (wX cI cJ x0 x1 x2 x3 x4 x5 x6 x7 x8 x9 g rm op rc ec su pe qt rs rn cs cn lc hc lg hg) sz) := by
  refine Met.ofW (cc := cX0_mineGreedily) (maxL := 7) (ret := (some .int)) (by decide) rfl ?_
  intro p e s m args below meth c s₁ B hml hv
  obtain ⟨rfl, hsz, hP, hK, hD0⟩ := hv
  have hx := B.exec
  have hb := B.bytes
  have hr := B.returns
  have hts := atoms_spec (ws := wsX0_mineGreedily) B.pre
  have hown : s.vm.findClass RX0 = some m.cls := findClass_of_methodNamed B.named
  have hlocks := B.notSynchronized
  subst hsz
  have hD := hD0.self (sz := s.heap.size)
  generalize hAe : va_A (wX cI cJ x0 x1 x2 x3 x4 x5 x6 x7 x8 x9 g rm op rc ec su pe qt rs rn cs cn lc hc lg hg) s.heap.size = A at hD ⊢
  have hA : ∀ q : Nat, s.heap.size ≤ q → A q := fun q h9 => by rw [← hAe]; exact Or.inr h9
  have hS : va_S A s.heap s.heap [] := va_S.rf
  have hin : ∀ w ∈ wsX00, w ∈ wsX0_mineGreedily := fun _ h9 => List.mem_cons_of_mem _ (List.mem_append_right _ h9)
  have hw_0 := hts (.fieldLink RX0 38 "RoleMiner" "roleCount" "I") (by decide +kernel)
  have hw_1 := hts (.fieldLink RX0 54 "RoleMiner" "lowLeft" "[J") (by decide +kernel)
  have hw_2 := hts (.fieldLink RX0 57 "RoleMiner" "highLeft" "[J") (by decide +kernel)
  have hw_3 := hts (.fieldLink RX0 44 "RoleMiner" "candidateCount" "I") (by decide +kernel)
  have hw_4 := hts (.fieldLink RX0 35 "RoleMiner" "roleSets" "[I") (by decide +kernel)
  have hw_5 := hts (.fieldLink RX0 41 "RoleMiner" "candidateSets" "[I") (by decide +kernel)
  have hw_6 := hts (.fieldLink RX0 47 "RoleMiner" "lowCover" "[J") (by decide +kernel)
  have hw_7 := hts (.constantLong RX0 132 (-1)) (by decide +kernel)
  have hw_8 := hts (.fieldLink RX0 51 "RoleMiner" "highCover" "[J") (by decide +kernel)
  have hl := lv_entry ([.ref x0]) (n := 7) (Nat.le_of_ble_eq_true rfl)
  rw [lg_entry_eq]
  generalize (lg_sl ([.ref x0]) ++ List.replicate (7 - (lg_sl ([.ref x0])).length) Slot.unset).toArray = ls at hl ⊢
  have hl : lv_has ls 7 [(0, .ref x0)] := hl
  have L28 : ∀ (n : Nat) (v1 : Int64) (v3 : Int64) (v5 : Int32) (rs : Nat → Int32) (rn : Int32) (cs : Nat → Int32) (cn : Int32) (lc : Nat → Int64) (hc : Nat → Int64) (lg : Nat → Int64) (hg : Nat → Int64) (H : Heap) (locs : List Loc) (ls : Array Slot), m_X0_mineGreedily_28 fu g op rc ec su n v1 v3 v5 rs rn cs cn lc hc lg hg = some (r0, rs', rn', cs', cn', lc', hc', lg', hg') → va_P D vwCl (wX cI cJ x0 x1 x2 x3 x4 x5 x6 x7 x8 x9 g rm op rc ec su pe qt rs rn cs cn lc hc lg hg) H → va_D A (wX cI cJ x0 x1 x2 x3 x4 x5 x6 x7 x8 x9 g rm op rc ec su pe qt rs rn cs cn lc hc lg hg) → va_S A s.heap H locs → lv_has ls 7 [(0, .ref x0), (1, .long v1), (3, .long v3), (5, .int v5)] → W p l e (headSpec wsX0_mineGreedily ({ frames := 3, cells := 0, slots := 0, locals := 72 })).room s m ([.ref x0] : List Value).toArray below meth c H locs 0 0 (MQ below (va_Qi (fun (r : Int32) (_ : Unit) => r = r0) (fun (_ : Unit) t => bx_Post D [(cI, .int), (cJ, .long)] (wX cI cJ x0 x1 x2 x3 x4 x5 x6 x7 x8 x9 g rm op rc ec su pe qt rs' rn' cs' cn' lc' hc' lg' hg') A t) A) ([.ref x0] : List Value).toArray s 0 0 A) (F0 m 28 ls []) := by
    intro n
    induction n with
    | zero =>
      intro v1 v3 v5 rs rn cs cn lc hc lg hg H locs ls h
      rw [m_X0_mineGreedily_28] at h
      cases h
    | succ n ih =>
      intro v1 v3 v5 rs rn cs cn lc hc lg hg H locs ls h hP hD hS hl
      rw [m_X0_mineGreedily_28] at h
      refine lv_iload hx hb dX0_mineGreedily_28 (lv_at hl 3 rfl) ?_
      refine lv_aload_n hx hb dX0_mineGreedily_30 rfl (lv_at hl 0 rfl) ?_
      refine va_get (D := D) (ci := 0) (v := .int cn) (C := RX0) (T := TX0) (N := 16) hx hb hts hin hown hK hP 0 rfl rfl 11 (by decide) hw_3 (fun _ h9 => h9) rfl dX0_mineGreedily_31 ?_
      refine lv_icmp_ge (tgt := 118) hx hb dX0_mineGreedily_34 (by decide) (fun c_8 => ?_) (fun c_8 => ?_)
      · replace h := (if_pos c_8).symm.trans h
        refine lv_aload_n hx hb dX0_mineGreedily_118 rfl (lv_at hl 0 rfl) ?_
        refine lv_aload_n hx hb dX0_mineGreedily_119 rfl (lv_at hl 0 rfl) ?_
        refine va_get (D := D) (ci := 0) (v := .int rn) (C := RX0) (T := TX0) (N := 16) hx hb hts hin hown hK hP 0 rfl rfl 9 (by decide) hw_0 (fun _ h9 => h9) rfl dX0_mineGreedily_120 ?_
        refine lv_lload_n hx hb dX0_mineGreedily_123 rfl (lv_at hl 1 rfl) ?_
        refine lv_lload_n hx hb dX0_mineGreedily_124 rfl (lv_at hl 2 rfl) ?_
        refine cl_Vi (As := [.int rn, .long v1, .long v3]) (rest := []) (wc := wX cI cJ x0 x1 x2 x3 x4 x5 x6 x7 x8 x9 g rm op rc ec su pe qt rs rn cs cn lc hc lg hg) (w1 := wX cI cJ x0 x1 x2 x3 x4 x5 x6 x7 x8 x9 g rm op rc ec su pe qt rs rn cs cn lc hc lg hg) (wr := []) ⟨hx, hb, hml, hown, hts⟩ (c_X0_costWith l D cI cJ x0 x1 x2 x3 x4 x5 x6 x7 x8 x9 _ g rm op rc ec su pe qt rs rn cs cn lc hc lg hg rn v1 v3) (cwV 3 hts gX0_mineGreedily_X0_costWith rfl rfl rfl (by decide +kernel) ⟨Nat.le_of_ble_eq_true rfl, Nat.le_of_ble_eq_true rfl⟩) hK hP hD hS hA [0, 1, 2, 3, 4, 5, 6, 7, 8, 9] [] rfl rfl (by decide) (by decide) rfl rfl rfl rfl rfl hl.1 rfl (lv_room (Nat.le_of_ble_eq_true rfl)) dX0_mineGreedily_125 (fun H locs hP hD hS => ?_)
        have hP : va_P D vwCl (wX cI cJ x0 x1 x2 x3 x4 x5 x6 x7 x8 x9 g rm op rc ec su pe qt rs rn cs cn lc hc lg hg) H := hP
        have hD : va_D A (wX cI cJ x0 x1 x2 x3 x4 x5 x6 x7 x8 x9 g rm op rc ec su pe qt rs rn cs cn lc hc lg hg) := hD
        cases h
        exact W.iret hx hb hr (fun t ht hW => ⟨⟨_, (), rfl, rfl, by rw [ht]; exact hP, va_K.moved hW.alike hK, hD⟩, hS.F ht⟩) hS.2.2 dX0_mineGreedily_128
      · replace h := (if_neg c_8).symm.trans h
        refine lv_aload_n hx hb dX0_mineGreedily_37 rfl (lv_at hl 0 rfl) ?_
        refine lv_lload_n hx hb dX0_mineGreedily_38 rfl (lv_at hl 1 rfl) ?_
        refine lv_lload_n hx hb dX0_mineGreedily_39 rfl (lv_at hl 2 rfl) ?_
        obtain ⟨r_9, e_10, h⟩ := bnd1_some h
        refine cl_Vi (As := [.long v1, .long v3]) (rest := []) (wc := wX cI cJ x0 x1 x2 x3 x4 x5 x6 x7 x8 x9 g rm op rc ec su pe qt rs rn cs cn lc hc lg hg) (w1 := wX cI cJ x0 x1 x2 x3 x4 x5 x6 x7 x8 x9 g rm op rc ec su pe qt rs rn cs cn lc hc lg hg) (wr := []) ⟨hx, hb, hml, hown, hts⟩ (c_X0_mostSavingCandidate l D cI cJ x0 x1 x2 x3 x4 x5 x6 x7 x8 x9 _ g rm op rc ec su pe qt rs rn cs cn lc hc lg hg fu v1 v3 r_9 e_10) (cwV 2 hts gX0_mineGreedily_X0_mostSavingCandidate rfl rfl rfl (by decide +kernel) ⟨Nat.le_of_ble_eq_true rfl, Nat.le_of_ble_eq_true rfl⟩) hK hP hD hS hA [0, 1, 2, 3, 4, 5, 6, 7, 8, 9] [] rfl rfl (by decide) (by decide) rfl rfl rfl rfl rfl hl.1 rfl (lv_room (Nat.le_of_ble_eq_true rfl)) dX0_mineGreedily_40 (fun H locs hP hD hS => ?_)
        have hP : va_P D vwCl (wX cI cJ x0 x1 x2 x3 x4 x5 x6 x7 x8 x9 g rm op rc ec su pe qt rs rn cs cn lc hc lg hg) H := hP
        have hD : va_D A (wX cI cJ x0 x1 x2 x3 x4 x5 x6 x7 x8 x9 g rm op rc ec su pe qt rs rn cs cn lc hc lg hg) := hD
        refine lv_istore (lv' := [(6, .int r_9), (0, .ref x0), (1, .long v1), (3, .long v3), (5, .int v5)]) hx hb dX0_mineGreedily_43 hl (by decide) rfl (fun ls hl => ?_)
        refine lv_iload hx hb dX0_mineGreedily_45 (lv_at hl 0 rfl) ?_
        refine lv_if_lt (tgt := 118) hx hb dX0_mineGreedily_47 (by decide) (fun c_11 => ?_) (fun c_11 => ?_)
        · replace h := (if_pos c_11).symm.trans h
          refine lv_aload_n hx hb dX0_mineGreedily_118 rfl (lv_at hl 1 rfl) ?_
          refine lv_aload_n hx hb dX0_mineGreedily_119 rfl (lv_at hl 1 rfl) ?_
          refine va_get (D := D) (ci := 0) (v := .int rn) (C := RX0) (T := TX0) (N := 16) hx hb hts hin hown hK hP 0 rfl rfl 9 (by decide) hw_0 (fun _ h9 => h9) rfl dX0_mineGreedily_120 ?_
          refine lv_lload_n hx hb dX0_mineGreedily_123 rfl (lv_at hl 2 rfl) ?_
          refine lv_lload_n hx hb dX0_mineGreedily_124 rfl (lv_at hl 3 rfl) ?_
          refine cl_Vi (As := [.int rn, .long v1, .long v3]) (rest := []) (wc := wX cI cJ x0 x1 x2 x3 x4 x5 x6 x7 x8 x9 g rm op rc ec su pe qt rs rn cs cn lc hc lg hg) (w1 := wX cI cJ x0 x1 x2 x3 x4 x5 x6 x7 x8 x9 g rm op rc ec su pe qt rs rn cs cn lc hc lg hg) (wr := []) ⟨hx, hb, hml, hown, hts⟩ (c_X0_costWith l D cI cJ x0 x1 x2 x3 x4 x5 x6 x7 x8 x9 _ g rm op rc ec su pe qt rs rn cs cn lc hc lg hg rn v1 v3) (cwV 3 hts gX0_mineGreedily_X0_costWith rfl rfl rfl (by decide +kernel) ⟨Nat.le_of_ble_eq_true rfl, Nat.le_of_ble_eq_true rfl⟩) hK hP hD hS hA [0, 1, 2, 3, 4, 5, 6, 7, 8, 9] [] rfl rfl (by decide) (by decide) rfl rfl rfl rfl rfl hl.1 rfl (lv_room (Nat.le_of_ble_eq_true rfl)) dX0_mineGreedily_125 (fun H locs hP hD hS => ?_)
          have hP : va_P D vwCl (wX cI cJ x0 x1 x2 x3 x4 x5 x6 x7 x8 x9 g rm op rc ec su pe qt rs rn cs cn lc hc lg hg) H := hP
          have hD : va_D A (wX cI cJ x0 x1 x2 x3 x4 x5 x6 x7 x8 x9 g rm op rc ec su pe qt rs rn cs cn lc hc lg hg) := hD
          cases h
          exact W.iret hx hb hr (fun t ht hW => ⟨⟨_, (), rfl, rfl, by rw [ht]; exact hP, va_K.moved hW.alike hK, hD⟩, hS.F ht⟩) hS.2.2 dX0_mineGreedily_128
        · replace h := (if_neg c_11).symm.trans h
          refine lv_iload hx hb dX0_mineGreedily_50 (lv_at hl 0 rfl) ?_
          refine lv_aload_n hx hb dX0_mineGreedily_52 rfl (lv_at hl 1 rfl) ?_
          refine va_get (D := D) (ci := 0) (v := .int cn) (C := RX0) (T := TX0) (N := 16) hx hb hts hin hown hK hP 0 rfl rfl 11 (by decide) hw_3 (fun _ h9 => h9) rfl dX0_mineGreedily_53 ?_
          refine lv_icmp_lt (tgt := 62) hx hb dX0_mineGreedily_56 (by decide) (fun c_12 => ?_) (fun c_12 => ?_)
          · replace h := (if_pos c_12).symm.trans h
            refine lv_aload_n hx hb dX0_mineGreedily_62 rfl (lv_at hl 1 rfl) ?_
            refine lv_aload_n hx hb dX0_mineGreedily_63 rfl (lv_at hl 1 rfl) ?_
            refine va_get (D := D) (ci := 0) (v := .ref x4) (C := RX0) (T := TX0) (N := 16) hx hb hts hin hown hK hP 0 rfl rfl 8 (by decide) hw_4 (fun _ h9 => h9) rfl dX0_mineGreedily_64 ?_
            refine lv_aload_n hx hb dX0_mineGreedily_67 rfl (lv_at hl 1 rfl) ?_
            refine va_get (D := D) (ci := 0) (v := .int rn) (C := RX0) (T := TX0) (N := 16) hx hb hts hin hown hK hP 0 rfl rfl 9 (by decide) hw_0 (fun _ h9 => h9) rfl dX0_mineGreedily_68 ?_
            refine lv_aload_n hx hb dX0_mineGreedily_71 rfl (lv_at hl 1 rfl) ?_
            refine va_get (D := D) (ci := 0) (v := .ref x5) (C := RX0) (T := TX0) (N := 16) hx hb hts hin hown hK hP 0 rfl rfl 10 (by decide) hw_5 (fun _ h9 => h9) rfl dX0_mineGreedily_72 ?_
            refine lv_iload hx hb dX0_mineGreedily_75 (lv_at hl 0 rfl) ?_
            obtain ⟨h_13, h⟩ := ix_some h
            refine va_iald hx hb hK hP 5 0 rfl rfl h_13 dX0_mineGreedily_77 ?_
            obtain ⟨r_14, f_15, e_16, h⟩ := bnd2_some h
            refine cl_Si (As := [.ref x4, .int rn, .int (cs (Int32.toNatClampNeg r_9))]) (rest := [.ref x0]) (wc := [(x4, .inl (cI, 255, .inl rs))]) (wr := [(x0, .inr (0, [.ref x1, .ref x2, .ref x3, .int rc, .int ec, .int su, .int pe, .int qt, .ref x4, .int rn, .ref x5, .int cn, .ref x6, .ref x7, .ref x8, .ref x9])), (x1, .inl (cI, 8, .inl g)), (x2, .inl (cI, 96, .inl rm)), (x3, .inl (cI, 12, .inl op)), (x5, .inl (cI, 255, .inl cs)), (x6, .inl (cJ, 255, .inr (.inl lc))), (x7, .inl (cJ, 255, .inr (.inl hc))), (x8, .inl (cJ, 15, .inr (.inl lg))), (x9, .inl (cJ, 15, .inr (.inl hg)))]) ⟨hx, hb, hml, hown, hts⟩ (c_X0_insertInOrder l D cI cJ x4 _ rs fu rn (cs (Int32.toNatClampNeg r_9)) r_14 f_15 e_16) (va_cwS 3 hts gX0_mineGreedily_X0_insertInOrder rfl rfl rfl (by decide +kernel) ⟨Nat.le_of_ble_eq_true rfl, Nat.le_of_ble_eq_true rfl⟩) hK hP hD hS hA [4] [0, 1, 2, 3, 5, 6, 7, 8, 9] rfl rfl (by decide) (by decide) rfl rfl rfl hl.1 rfl (lv_room (Nat.le_of_ble_eq_true rfl)) dX0_mineGreedily_78 (fun H locs hP hD hS => ?_)
            replace hP := hP.sub (ws' := wX cI cJ x0 x1 x2 x3 x4 x5 x6 x7 x8 x9 g rm op rc ec su pe qt f_15 rn cs cn lc hc lg hg) [0, 1, 2, 3, 9, 4, 5, 6, 7, 8] rfl
            replace hD := hD.sub (ws' := wX cI cJ x0 x1 x2 x3 x4 x5 x6 x7 x8 x9 g rm op rc ec su pe qt f_15 rn cs cn lc hc lg hg) [0, 1, 2, 3, 9, 4, 5, 6, 7, 8] (by decide) rfl
            refine va_put (D := D) (ci := 0) (v := .int r_14) (ty := .int) (C := RX0) (T := TX0) (N := 16) hx hb hts hin tyX0 tyX0_ok nmX0 hown hK hP hD hS 0 rfl rfl 9 (by decide) hw_0 (fun _ h9 => h9) rfl (by decide +kernel) rfl rfl (Nat.le_of_ble_eq_true rfl) dX0_mineGreedily_81 (fun H locs hP hD hS => ?_)
            have hP : va_P D vwCl (wX cI cJ x0 x1 x2 x3 x4 x5 x6 x7 x8 x9 g rm op rc ec su pe qt f_15 r_14 cs cn lc hc lg hg) H := hP
            have hD : va_D A (wX cI cJ x0 x1 x2 x3 x4 x5 x6 x7 x8 x9 g rm op rc ec su pe qt f_15 r_14 cs cn lc hc lg hg) := hD
            refine lv_lload_n hx hb dX0_mineGreedily_84 rfl (lv_at hl 2 rfl) ?_
            refine lv_aload_n hx hb dX0_mineGreedily_85 rfl (lv_at hl 1 rfl) ?_
            refine va_get (D := D) (ci := 0) (v := .ref x6) (C := RX0) (T := TX0) (N := 16) hx hb hts hin hown hK hP 0 rfl rfl 12 (by decide) hw_6 (fun _ h9 => h9) rfl dX0_mineGreedily_86 ?_
            refine lv_iload hx hb dX0_mineGreedily_89 (lv_at hl 0 rfl) ?_
            refine va_lald hx hb hK hP 6 1 rfl rfl h_13 dX0_mineGreedily_91 ?_
            refine lv_ldc2 hx hb hown hw_7 dX0_mineGreedily_92 ?_
            refine lv_lxor hx hb dX0_mineGreedily_95 ?_
            refine lv_land hx hb dX0_mineGreedily_96 ?_
            refine lv_lstore_n (lv' := [(1, .long (v1 &&& ((lc (Int32.toNatClampNeg r_9)) ^^^ (-1)))), (6, .int r_9), (0, .ref x0), (3, .long v3), (5, .int v5)]) hx hb dX0_mineGreedily_97 rfl hl (by decide) rfl (fun ls hl => ?_)
            refine lv_lload_n hx hb dX0_mineGreedily_98 rfl (lv_at hl 3 rfl) ?_
            refine lv_aload_n hx hb dX0_mineGreedily_99 rfl (lv_at hl 2 rfl) ?_
            refine va_get (D := D) (ci := 0) (v := .ref x7) (C := RX0) (T := TX0) (N := 16) hx hb hts hin hown hK hP 0 rfl rfl 13 (by decide) hw_8 (fun _ h9 => h9) rfl dX0_mineGreedily_100 ?_
            refine lv_iload hx hb dX0_mineGreedily_103 (lv_at hl 1 rfl) ?_
            refine va_lald hx hb hK hP 7 1 rfl rfl h_13 dX0_mineGreedily_105 ?_
            refine lv_ldc2 hx hb hown hw_7 dX0_mineGreedily_106 ?_
            refine lv_lxor hx hb dX0_mineGreedily_109 ?_
            refine lv_land hx hb dX0_mineGreedily_110 ?_
            refine lv_lstore_n (lv' := [(3, .long (v3 &&& ((hc (Int32.toNatClampNeg r_9)) ^^^ (-1)))), (1, .long (v1 &&& ((lc (Int32.toNatClampNeg r_9)) ^^^ (-1)))), (6, .int r_9), (0, .ref x0), (5, .int v5)]) hx hb dX0_mineGreedily_111 rfl hl (by decide) rfl (fun ls hl => ?_)
            refine lv_iinc (v := (v5 + 1)) (lv' := [(5, .int (v5 + 1)), (3, .long (v3 &&& ((hc (Int32.toNatClampNeg r_9)) ^^^ (-1)))), (1, .long (v1 &&& ((lc (Int32.toNatClampNeg r_9)) ^^^ (-1)))), (6, .int r_9), (0, .ref x0)]) hx hb dX0_mineGreedily_112 hl (k := 4) rfl rfl (by decide) rfl (fun ls hl => ?_)
            refine lv_goto (tgt := 28) hx hb dX0_mineGreedily_115 (by decide) ?_
            exact ih (v1 &&& ((lc (Int32.toNatClampNeg r_9)) ^^^ (-1))) (v3 &&& ((hc (Int32.toNatClampNeg r_9)) ^^^ (-1))) (v5 + 1) f_15 r_14 cs cn lc hc lg hg _ _ _ h hP hD hS (lv_sub hl [4, 2, 1, 0] rfl)
          · replace h := (if_neg c_12).symm.trans h
            refine lv_goto (tgt := 118) hx hb dX0_mineGreedily_59 (by decide) ?_
            refine lv_aload_n hx hb dX0_mineGreedily_118 rfl (lv_at hl 1 rfl) ?_
            refine lv_aload_n hx hb dX0_mineGreedily_119 rfl (lv_at hl 1 rfl) ?_
            refine va_get (D := D) (ci := 0) (v := .int rn) (C := RX0) (T := TX0) (N := 16) hx hb hts hin hown hK hP 0 rfl rfl 9 (by decide) hw_0 (fun _ h9 => h9) rfl dX0_mineGreedily_120 ?_
            refine lv_lload_n hx hb dX0_mineGreedily_123 rfl (lv_at hl 2 rfl) ?_
            refine lv_lload_n hx hb dX0_mineGreedily_124 rfl (lv_at hl 3 rfl) ?_
            refine cl_Vi (As := [.int rn, .long v1, .long v3]) (rest := []) (wc := wX cI cJ x0 x1 x2 x3 x4 x5 x6 x7 x8 x9 g rm op rc ec su pe qt rs rn cs cn lc hc lg hg) (w1 := wX cI cJ x0 x1 x2 x3 x4 x5 x6 x7 x8 x9 g rm op rc ec su pe qt rs rn cs cn lc hc lg hg) (wr := []) ⟨hx, hb, hml, hown, hts⟩ (c_X0_costWith l D cI cJ x0 x1 x2 x3 x4 x5 x6 x7 x8 x9 _ g rm op rc ec su pe qt rs rn cs cn lc hc lg hg rn v1 v3) (cwV 3 hts gX0_mineGreedily_X0_costWith rfl rfl rfl (by decide +kernel) ⟨Nat.le_of_ble_eq_true rfl, Nat.le_of_ble_eq_true rfl⟩) hK hP hD hS hA [0, 1, 2, 3, 4, 5, 6, 7, 8, 9] [] rfl rfl (by decide) (by decide) rfl rfl rfl rfl rfl hl.1 rfl (lv_room (Nat.le_of_ble_eq_true rfl)) dX0_mineGreedily_125 (fun H locs hP hD hS => ?_)
            have hP : va_P D vwCl (wX cI cJ x0 x1 x2 x3 x4 x5 x6 x7 x8 x9 g rm op rc ec su pe qt rs rn cs cn lc hc lg hg) H := hP
            have hD : va_D A (wX cI cJ x0 x1 x2 x3 x4 x5 x6 x7 x8 x9 g rm op rc ec su pe qt rs rn cs cn lc hc lg hg) := hD
            cases h
            exact W.iret hx hb hr (fun t ht hW => ⟨⟨_, (), rfl, rfl, by rw [ht]; exact hP, va_K.moved hW.alike hK, hD⟩, hS.F ht⟩) hS.2.2 dX0_mineGreedily_128
  rw [m_X0_mineGreedily] at h
  refine lv_aload_n hx hb dX0_mineGreedily_0 rfl (lv_at hl 0 rfl) ?_
  obtain ⟨cs_1, cn_2, lc_3, hc_4, lg_5, hg_6, e_7, h⟩ := bnd6_some h
  refine cl_Vv (As := []) (rest := []) (wc := wX cI cJ x0 x1 x2 x3 x4 x5 x6 x7 x8 x9 g rm op rc ec su pe qt rs rn cs cn lc hc lg hg) (w1 := wX cI cJ x0 x1 x2 x3 x4 x5 x6 x7 x8 x9 g rm op rc ec su pe qt rs rn cs_1 cn_2 lc_3 hc_4 lg_5 hg_6) (wr := []) ⟨hx, hb, hml, hown, hts⟩ (c_X0_findCandidates l D cI cJ x0 x1 x2 x3 x4 x5 x6 x7 x8 x9 _ g rm op rc ec su pe qt rs rn cs cn lc hc lg hg fu  cs_1 cn_2 lc_3 hc_4 lg_5 hg_6 e_7) (cwV 0 hts gX0_mineGreedily_X0_findCandidates rfl rfl rfl (by decide +kernel) ⟨Nat.le_of_ble_eq_true rfl, Nat.le_of_ble_eq_true rfl⟩) hK hP hD hS hA [0, 1, 2, 3, 4, 5, 6, 7, 8, 9] [] rfl rfl (by decide) (by decide) rfl rfl rfl rfl rfl hl.1 rfl (lv_room (Nat.le_of_ble_eq_true rfl)) dX0_mineGreedily_1 (fun H locs hP hD hS => ?_)
  have hP : va_P D vwCl (wX cI cJ x0 x1 x2 x3 x4 x5 x6 x7 x8 x9 g rm op rc ec su pe qt rs rn cs_1 cn_2 lc_3 hc_4 lg_5 hg_6) H := hP
  have hD : va_D A (wX cI cJ x0 x1 x2 x3 x4 x5 x6 x7 x8 x9 g rm op rc ec su pe qt rs rn cs_1 cn_2 lc_3 hc_4 lg_5 hg_6) := hD
  refine lv_aload_n hx hb dX0_mineGreedily_4 rfl (lv_at hl 0 rfl) ?_
  refine lv_iconst (v := 0) hx hb dX0_mineGreedily_5 (by decide) ?_
  refine va_put (D := D) (ci := 0) (v := .int 0) (ty := .int) (C := RX0) (T := TX0) (N := 16) hx hb hts hin tyX0 tyX0_ok nmX0 hown hK hP hD hS 0 rfl rfl 9 (by decide) hw_0 (fun _ h9 => h9) rfl (by decide +kernel) rfl rfl (Nat.le_of_ble_eq_true rfl) dX0_mineGreedily_6 (fun H locs hP hD hS => ?_)
  have hP : va_P D vwCl (wX cI cJ x0 x1 x2 x3 x4 x5 x6 x7 x8 x9 g rm op rc ec su pe qt rs 0 cs_1 cn_2 lc_3 hc_4 lg_5 hg_6) H := hP
  have hD : va_D A (wX cI cJ x0 x1 x2 x3 x4 x5 x6 x7 x8 x9 g rm op rc ec su pe qt rs 0 cs_1 cn_2 lc_3 hc_4 lg_5 hg_6) := hD
  refine lv_aload_n hx hb dX0_mineGreedily_9 rfl (lv_at hl 0 rfl) ?_
  refine va_get (D := D) (ci := 0) (v := .ref x8) (C := RX0) (T := TX0) (N := 16) hx hb hts hin hown hK hP 0 rfl rfl 14 (by decide) hw_1 (fun _ h9 => h9) rfl dX0_mineGreedily_10 ?_
  refine lv_bipush (v := 14) hx hb dX0_mineGreedily_13 (by decide) ?_
  refine va_lald hx hb hK hP 8 1 rfl rfl (show ¬ ((14 : Int32) < 0 ∨ 15 ≤ Int32.toNatClampNeg 14) by decide) dX0_mineGreedily_15 ?_
  refine lv_lstore_n (lv' := [(1, .long (lg_5 (Int32.toNatClampNeg 14))), (0, .ref x0)]) hx hb dX0_mineGreedily_16 rfl hl (by decide) rfl (fun ls hl => ?_)
  refine lv_aload_n hx hb dX0_mineGreedily_17 rfl (lv_at hl 1 rfl) ?_
  refine va_get (D := D) (ci := 0) (v := .ref x9) (C := RX0) (T := TX0) (N := 16) hx hb hts hin hown hK hP 0 rfl rfl 15 (by decide) hw_2 (fun _ h9 => h9) rfl dX0_mineGreedily_18 ?_
  refine lv_bipush (v := 14) hx hb dX0_mineGreedily_21 (by decide) ?_
  refine va_lald hx hb hK hP 9 1 rfl rfl (show ¬ ((14 : Int32) < 0 ∨ 15 ≤ Int32.toNatClampNeg 14) by decide) dX0_mineGreedily_23 ?_
  refine lv_lstore_n (lv' := [(3, .long (hg_6 (Int32.toNatClampNeg 14))), (1, .long (lg_5 (Int32.toNatClampNeg 14))), (0, .ref x0)]) hx hb dX0_mineGreedily_24 rfl hl (by decide) rfl (fun ls hl => ?_)
  refine lv_iconst (v := 0) hx hb dX0_mineGreedily_25 (by decide) ?_
  refine lv_istore (lv' := [(5, .int 0), (3, .long (hg_6 (Int32.toNatClampNeg 14))), (1, .long (lg_5 (Int32.toNatClampNeg 14))), (0, .ref x0)]) hx hb dX0_mineGreedily_26 hl (by decide) rfl (fun ls hl => ?_)
  exact L28 fu (lg_5 (Int32.toNatClampNeg 14)) (hg_6 (Int32.toNatClampNeg 14)) 0 rs 0 cs_1 cn_2 lc_3 hc_4 lg_5 hg_6 _ _ _ h hP hD hS (lv_sub hl [3, 2, 1, 0] rfl)
-- X0_costOfChoice
def m_X0_costOfChoice_20 (fu : Nat) (rc : Int32) (ec : Int32) (cn : Int32) (lc : Nat → Int64) (hc : Nat → Int64) (lg : Nat → Int64) (hg : Nat → Int64) (a1 : Int32) : Nat → Int64 → Int64 → Int32 → Option ((Int32))
  | 0, _, _, _ => none
  | n + 1, v2, v4, v6 => (if cn ≤ v6 then some (m_X0_costWith rc ec (m_J6_bitCount_0f7a4 a1) v2 v4) else (if 14 ≤ v6 then some (m_X0_costWith rc ec (m_J6_bitCount_0f7a4 a1) v2 v4) else (if (m_X0_has a1 v6) = 0 then (m_X0_costOfChoice_20 fu rc ec cn lc hc lg hg a1 n v2 v4 (v6 + 1)) else (ix v6 255 (m_X0_costOfChoice_20 fu rc ec cn lc hc lg hg a1 n (v2 &&& ((lc (Int32.toNatClampNeg v6)) ^^^ (-1))) (v4 &&& ((hc (Int32.toNatClampNeg v6)) ^^^ (-1))) (v6 + 1))))))
def m_X0_costOfChoice (fu : Nat) (rc : Int32) (ec : Int32) (cn : Int32) (lc : Nat → Int64) (hc : Nat → Int64) (lg : Nat → Int64) (hg : Nat → Int64) (a1 : Int32) : Option ((Int32)) := (m_X0_costOfChoice_20 fu rc ec cn lc hc lg hg a1 fu (lg (Int32.toNatClampNeg 14)) (hg (Int32.toNatClampNeg 14)) 0)
set_option maxHeartbeats 4000000 in
set_option maxRecDepth 100000 in
theorem c_X0_costOfChoice (l : Launch) (D : va_G) (cI cJ : ClassId) (x0 x1 x2 x3 x4 x5 x6 x7 x8 x9 : Nat) (sz : Nat) (g : Nat → Int32) (rm : Nat → Int32) (op : Nat → Int32) (rc : Int32) (ec : Int32) (su : Int32) (pe : Int32) (qt : Int32) (rs : Nat → Int32) (rn : Int32) (cs : Nat → Int32) (cn : Int32) (lc : Nat → Int64) (hc : Nat → Int64) (lg : Nat → Int64) (hg : Nat → Int64) (fu : Nat) (a1 : Int32) (r0 : Int32) (h : m_X0_costOfChoice fu rc ec cn lc hc lg hg a1 = some r0) : Met l yX0_costOfChoice wsX0_costOfChoice ({ frames := 2, cells := 0, slots := 0, locals := 46 }) (va_Pc [.ref x0, .int a1] (bx_Pre D [(cI, .int), (cJ, .long)] (wX cI cJ x0 x1 x2 x3 x4 x5 x6 x7 x8 x9 g rm op rc ec su pe qt rs rn cs cn lc hc lg hg) sz)) (va_Qi (fun (r : Int32) (_ : Unit) => r = r0) (fun (_ : Unit) t => bx_Post D [(cI, .int), (cJ, .long)] (wX cI cJ x0 x1 x2 x3 x4 x5 x6 x7 x8 x9 g rm op rc ec su pe qt rs rn cs cn lc hc lg hg) (va_A (wX cI cJ x0 x1 x2 x3 x4 x5 x6 x7 x8 x9 g rm op rc ec su pe qt rs rn cs cn lc hc lg hg) sz) t) (va_A (wX cI cJ x0 x1 x2 x3 x4 x5 x6 x7 x8 x9 g rm op rc ec su pe qt rs rn cs cn lc hc lg hg) sz)) 0 0 (va_A (wX cI cJ x0 x1 x2 x3 x4 x5 x6 x7 x8 x9 g rm op rc ec su pe qt rs rn cs cn lc hc lg hg) sz) := by
  refine Met.ofW (cc := cX0_costOfChoice) (maxL := 7) (ret := (some .int)) (by decide) rfl ?_
  intro p e s m args below meth c s₁ B hml hv
  obtain ⟨rfl, hsz, hP, hK, hD0⟩ := hv
  have hx := B.exec
  have hb := B.bytes
  have hr := B.returns
  have hts := atoms_spec (ws := wsX0_costOfChoice) B.pre
  have hown : s.vm.findClass RX0 = some m.cls := findClass_of_methodNamed B.named
  have hlocks := B.notSynchronized
  subst hsz
  have hD := hD0.self (sz := s.heap.size)
  generalize hAe : va_A (wX cI cJ x0 x1 x2 x3 x4 x5 x6 x7 x8 x9 g rm op rc ec su pe qt rs rn cs cn lc hc lg hg) s.heap.size = A at hD ⊢
  have hA : ∀ q : Nat, s.heap.size ≤ q → A q := fun q h9 => by rw [← hAe]; exact Or.inr h9
  have hS : va_S A s.heap s.heap [] := va_S.rf
  have hin : ∀ w ∈ wsX00, w ∈ wsX0_costOfChoice := fun _ h9 => List.mem_cons_of_mem _ (List.mem_append_right _ h9)
  have hw_0 := hts (.fieldLink RX0 54 "RoleMiner" "lowLeft" "[J") (by decide +kernel)
  have hw_1 := hts (.fieldLink RX0 57 "RoleMiner" "highLeft" "[J") (by decide +kernel)
  have hw_2 := hts (.fieldLink RX0 44 "RoleMiner" "candidateCount" "I") (by decide +kernel)
  have hw_3 := hts (.fieldLink RX0 47 "RoleMiner" "lowCover" "[J") (by decide +kernel)
  have hw_4 := hts (.constantLong RX0 132 (-1)) (by decide +kernel)
  have hw_5 := hts (.fieldLink RX0 51 "RoleMiner" "highCover" "[J") (by decide +kernel)
  have hl := lv_entry ([.ref x0, .int a1]) (n := 7) (Nat.le_of_ble_eq_true rfl)
  rw [lg_entry_eq]
  generalize (lg_sl ([.ref x0, .int a1]) ++ List.replicate (7 - (lg_sl ([.ref x0, .int a1])).length) Slot.unset).toArray = ls at hl ⊢
  have hl : lv_has ls 7 [(0, .ref x0), (1, .int a1)] := hl
  have L20 : ∀ (n : Nat) (v2 : Int64) (v4 : Int64) (v6 : Int32) (H : Heap) (locs : List Loc) (ls : Array Slot), m_X0_costOfChoice_20 fu rc ec cn lc hc lg hg a1 n v2 v4 v6 = some r0 → va_P D vwCl (wX cI cJ x0 x1 x2 x3 x4 x5 x6 x7 x8 x9 g rm op rc ec su pe qt rs rn cs cn lc hc lg hg) H → va_D A (wX cI cJ x0 x1 x2 x3 x4 x5 x6 x7 x8 x9 g rm op rc ec su pe qt rs rn cs cn lc hc lg hg) → va_S A s.heap H locs → lv_has ls 7 [(0, .ref x0), (1, .int a1), (2, .long v2), (4, .long v4), (6, .int v6)] → W p l e (headSpec wsX0_costOfChoice ({ frames := 2, cells := 0, slots := 0, locals := 46 })).room s m ([.ref x0, .int a1] : List Value).toArray below meth c H locs 0 0 (MQ below (va_Qi (fun (r : Int32) (_ : Unit) => r = r0) (fun (_ : Unit) t => bx_Post D [(cI, .int), (cJ, .long)] (wX cI cJ x0 x1 x2 x3 x4 x5 x6 x7 x8 x9 g rm op rc ec su pe qt rs rn cs cn lc hc lg hg) A t) A) ([.ref x0, .int a1] : List Value).toArray s 0 0 A) (F0 m 20 ls []) := by
    intro n
    induction n with
    | zero =>
      intro v2 v4 v6 H locs ls h
      rw [m_X0_costOfChoice_20] at h
      cases h
    | succ n ih =>
      intro v2 v4 v6 H locs ls h hP hD hS hl
      rw [m_X0_costOfChoice_20] at h
      refine lv_iload hx hb dX0_costOfChoice_20 (lv_at hl 4 rfl) ?_
      refine lv_aload_n hx hb dX0_costOfChoice_22 rfl (lv_at hl 0 rfl) ?_
      refine va_get (D := D) (ci := 0) (v := .int cn) (C := RX0) (T := TX0) (N := 16) hx hb hts hin hown hK hP 0 rfl rfl 11 (by decide) hw_2 (fun _ h9 => h9) rfl dX0_costOfChoice_23 ?_
      refine lv_icmp_ge (tgt := 81) hx hb dX0_costOfChoice_26 (by decide) (fun c_1 => ?_) (fun c_1 => ?_)
      · replace h := (if_pos c_1).symm.trans h
        refine lv_aload_n hx hb dX0_costOfChoice_81 rfl (lv_at hl 0 rfl) ?_
        refine lv_iload_n hx hb dX0_costOfChoice_82 rfl (lv_at hl 1 rfl) ?_
        refine cl_Si0 (As := [.int a1]) (rest := [.ref x0]) ⟨hx, hb, hml, hown, hts⟩ (c_J6_bitCount_0f7a4 l D _ a1) (va_cwS 1 hts gX0_costOfChoice_J6_bitCount_0f7a4 rfl rfl rfl (by decide +kernel) ⟨Nat.le_of_ble_eq_true rfl, Nat.le_of_ble_eq_true rfl⟩) hK hP hD hS hA rfl rfl hl.1 rfl (lv_room (Nat.le_of_ble_eq_true rfl)) dX0_costOfChoice_83 (fun H locs hP hD hS => ?_)
        refine lv_lload_n hx hb dX0_costOfChoice_86 rfl (lv_at hl 2 rfl) ?_
        refine lv_lload hx hb dX0_costOfChoice_87 (lv_at hl 3 rfl) ?_
        refine cl_Vi (As := [.int (m_J6_bitCount_0f7a4 a1), .long v2, .long v4]) (rest := []) (wc := wX cI cJ x0 x1 x2 x3 x4 x5 x6 x7 x8 x9 g rm op rc ec su pe qt rs rn cs cn lc hc lg hg) (w1 := wX cI cJ x0 x1 x2 x3 x4 x5 x6 x7 x8 x9 g rm op rc ec su pe qt rs rn cs cn lc hc lg hg) (wr := []) ⟨hx, hb, hml, hown, hts⟩ (c_X0_costWith l D cI cJ x0 x1 x2 x3 x4 x5 x6 x7 x8 x9 _ g rm op rc ec su pe qt rs rn cs cn lc hc lg hg (m_J6_bitCount_0f7a4 a1) v2 v4) (cwV 3 hts gX0_costOfChoice_X0_costWith rfl rfl rfl (by decide +kernel) ⟨Nat.le_of_ble_eq_true rfl, Nat.le_of_ble_eq_true rfl⟩) hK hP hD hS hA [0, 1, 2, 3, 4, 5, 6, 7, 8, 9] [] rfl rfl (by decide) (by decide) rfl rfl rfl rfl rfl hl.1 rfl (lv_room (Nat.le_of_ble_eq_true rfl)) dX0_costOfChoice_89 (fun H locs hP hD hS => ?_)
        have hP : va_P D vwCl (wX cI cJ x0 x1 x2 x3 x4 x5 x6 x7 x8 x9 g rm op rc ec su pe qt rs rn cs cn lc hc lg hg) H := hP
        have hD : va_D A (wX cI cJ x0 x1 x2 x3 x4 x5 x6 x7 x8 x9 g rm op rc ec su pe qt rs rn cs cn lc hc lg hg) := hD
        cases h
        exact W.iret hx hb hr (fun t ht hW => ⟨⟨_, (), rfl, rfl, by rw [ht]; exact hP, va_K.moved hW.alike hK, hD⟩, hS.F ht⟩) hS.2.2 dX0_costOfChoice_92
      · replace h := (if_neg c_1).symm.trans h
        refine lv_iload hx hb dX0_costOfChoice_29 (lv_at hl 4 rfl) ?_
        refine lv_bipush (v := 14) hx hb dX0_costOfChoice_31 (by decide) ?_
        refine lv_icmp_ge (tgt := 81) hx hb dX0_costOfChoice_33 (by decide) (fun c_2 => ?_) (fun c_2 => ?_)
        · replace h := (if_pos c_2).symm.trans h
          refine lv_aload_n hx hb dX0_costOfChoice_81 rfl (lv_at hl 0 rfl) ?_
          refine lv_iload_n hx hb dX0_costOfChoice_82 rfl (lv_at hl 1 rfl) ?_
          refine cl_Si0 (As := [.int a1]) (rest := [.ref x0]) ⟨hx, hb, hml, hown, hts⟩ (c_J6_bitCount_0f7a4 l D _ a1) (va_cwS 1 hts gX0_costOfChoice_J6_bitCount_0f7a4 rfl rfl rfl (by decide +kernel) ⟨Nat.le_of_ble_eq_true rfl, Nat.le_of_ble_eq_true rfl⟩) hK hP hD hS hA rfl rfl hl.1 rfl (lv_room (Nat.le_of_ble_eq_true rfl)) dX0_costOfChoice_83 (fun H locs hP hD hS => ?_)
          refine lv_lload_n hx hb dX0_costOfChoice_86 rfl (lv_at hl 2 rfl) ?_
          refine lv_lload hx hb dX0_costOfChoice_87 (lv_at hl 3 rfl) ?_
          refine cl_Vi (As := [.int (m_J6_bitCount_0f7a4 a1), .long v2, .long v4]) (rest := []) (wc := wX cI cJ x0 x1 x2 x3 x4 x5 x6 x7 x8 x9 g rm op rc ec su pe qt rs rn cs cn lc hc lg hg) (w1 := wX cI cJ x0 x1 x2 x3 x4 x5 x6 x7 x8 x9 g rm op rc ec su pe qt rs rn cs cn lc hc lg hg) (wr := []) ⟨hx, hb, hml, hown, hts⟩ (c_X0_costWith l D cI cJ x0 x1 x2 x3 x4 x5 x6 x7 x8 x9 _ g rm op rc ec su pe qt rs rn cs cn lc hc lg hg (m_J6_bitCount_0f7a4 a1) v2 v4) (cwV 3 hts gX0_costOfChoice_X0_costWith rfl rfl rfl (by decide +kernel) ⟨Nat.le_of_ble_eq_true rfl, Nat.le_of_ble_eq_true rfl⟩) hK hP hD hS hA [0, 1, 2, 3, 4, 5, 6, 7, 8, 9] [] rfl rfl (by decide) (by decide) rfl rfl rfl rfl rfl hl.1 rfl (lv_room (Nat.le_of_ble_eq_true rfl)) dX0_costOfChoice_89 (fun H locs hP hD hS => ?_)
          have hP : va_P D vwCl (wX cI cJ x0 x1 x2 x3 x4 x5 x6 x7 x8 x9 g rm op rc ec su pe qt rs rn cs cn lc hc lg hg) H := hP
          have hD : va_D A (wX cI cJ x0 x1 x2 x3 x4 x5 x6 x7 x8 x9 g rm op rc ec su pe qt rs rn cs cn lc hc lg hg) := hD
          cases h
          exact W.iret hx hb hr (fun t ht hW => ⟨⟨_, (), rfl, rfl, by rw [ht]; exact hP, va_K.moved hW.alike hK, hD⟩, hS.F ht⟩) hS.2.2 dX0_costOfChoice_92
        · replace h := (if_neg c_2).symm.trans h
          refine lv_iload_n hx hb dX0_costOfChoice_36 rfl (lv_at hl 1 rfl) ?_
          refine lv_iload hx hb dX0_costOfChoice_37 (lv_at hl 4 rfl) ?_
          refine cl_Si0 (As := [.int a1, .int v6]) (rest := []) ⟨hx, hb, hml, hown, hts⟩ (c_X0_has l D _ a1 v6) (va_cwS 2 hts gX0_costOfChoice_X0_has rfl rfl rfl (by decide +kernel) ⟨Nat.le_of_ble_eq_true rfl, Nat.le_of_ble_eq_true rfl⟩) hK hP hD hS hA rfl rfl hl.1 rfl (lv_room (Nat.le_of_ble_eq_true rfl)) dX0_costOfChoice_39 (fun H locs hP hD hS => ?_)
          refine lv_if_eq (tgt := 75) hx hb dX0_costOfChoice_42 (by decide) (fun c_3 => ?_) (fun c_3 => ?_)
          · replace h := (if_pos c_3).symm.trans h
            refine lv_iinc (v := (v6 + 1)) (lv' := [(6, .int (v6 + 1)), (0, .ref x0), (1, .int a1), (2, .long v2), (4, .long v4)]) hx hb dX0_costOfChoice_75 hl (k := 4) rfl rfl (by decide) rfl (fun ls hl => ?_)
            refine lv_goto (tgt := 20) hx hb dX0_costOfChoice_78 (by decide) ?_
            exact ih v2 v4 (v6 + 1) _ _ _ h hP hD hS (lv_sub hl [1, 2, 3, 4, 0] rfl)
          · replace h := (if_neg c_3).symm.trans h
            refine lv_lload_n hx hb dX0_costOfChoice_45 rfl (lv_at hl 2 rfl) ?_
            refine lv_aload_n hx hb dX0_costOfChoice_46 rfl (lv_at hl 0 rfl) ?_
            refine va_get (D := D) (ci := 0) (v := .ref x6) (C := RX0) (T := TX0) (N := 16) hx hb hts hin hown hK hP 0 rfl rfl 12 (by decide) hw_3 (fun _ h9 => h9) rfl dX0_costOfChoice_47 ?_
            refine lv_iload hx hb dX0_costOfChoice_50 (lv_at hl 4 rfl) ?_
            obtain ⟨h_4, h⟩ := ix_some h
            refine va_lald hx hb hK hP 6 1 rfl rfl h_4 dX0_costOfChoice_52 ?_
            refine lv_ldc2 hx hb hown hw_4 dX0_costOfChoice_53 ?_
            refine lv_lxor hx hb dX0_costOfChoice_56 ?_
            refine lv_land hx hb dX0_costOfChoice_57 ?_
            refine lv_lstore_n (lv' := [(2, .long (v2 &&& ((lc (Int32.toNatClampNeg v6)) ^^^ (-1)))), (0, .ref x0), (1, .int a1), (4, .long v4), (6, .int v6)]) hx hb dX0_costOfChoice_58 rfl hl (by decide) rfl (fun ls hl => ?_)
            refine lv_lload hx hb dX0_costOfChoice_59 (lv_at hl 3 rfl) ?_
            refine lv_aload_n hx hb dX0_costOfChoice_61 rfl (lv_at hl 1 rfl) ?_
            refine va_get (D := D) (ci := 0) (v := .ref x7) (C := RX0) (T := TX0) (N := 16) hx hb hts hin hown hK hP 0 rfl rfl 13 (by decide) hw_5 (fun _ h9 => h9) rfl dX0_costOfChoice_62 ?_
            refine lv_iload hx hb dX0_costOfChoice_65 (lv_at hl 4 rfl) ?_
            refine va_lald hx hb hK hP 7 1 rfl rfl h_4 dX0_costOfChoice_67 ?_
            refine lv_ldc2 hx hb hown hw_4 dX0_costOfChoice_68 ?_
            refine lv_lxor hx hb dX0_costOfChoice_71 ?_
            refine lv_land hx hb dX0_costOfChoice_72 ?_
            refine lv_lstore (lv' := [(4, .long (v4 &&& ((hc (Int32.toNatClampNeg v6)) ^^^ (-1)))), (2, .long (v2 &&& ((lc (Int32.toNatClampNeg v6)) ^^^ (-1)))), (0, .ref x0), (1, .int a1), (6, .int v6)]) hx hb dX0_costOfChoice_73 hl (by decide) rfl (fun ls hl => ?_)
            refine lv_iinc (v := (v6 + 1)) (lv' := [(6, .int (v6 + 1)), (4, .long (v4 &&& ((hc (Int32.toNatClampNeg v6)) ^^^ (-1)))), (2, .long (v2 &&& ((lc (Int32.toNatClampNeg v6)) ^^^ (-1)))), (0, .ref x0), (1, .int a1)]) hx hb dX0_costOfChoice_75 hl (k := 4) rfl rfl (by decide) rfl (fun ls hl => ?_)
            refine lv_goto (tgt := 20) hx hb dX0_costOfChoice_78 (by decide) ?_
            exact ih (v2 &&& ((lc (Int32.toNatClampNeg v6)) ^^^ (-1))) (v4 &&& ((hc (Int32.toNatClampNeg v6)) ^^^ (-1))) (v6 + 1) _ _ _ h hP hD hS (lv_sub hl [3, 4, 2, 1, 0] rfl)
  rw [m_X0_costOfChoice] at h
  refine lv_aload_n hx hb dX0_costOfChoice_0 rfl (lv_at hl 0 rfl) ?_
  refine va_get (D := D) (ci := 0) (v := .ref x8) (C := RX0) (T := TX0) (N := 16) hx hb hts hin hown hK hP 0 rfl rfl 14 (by decide) hw_0 (fun _ h9 => h9) rfl dX0_costOfChoice_1 ?_
  refine lv_bipush (v := 14) hx hb dX0_costOfChoice_4 (by decide) ?_
  refine va_lald hx hb hK hP 8 1 rfl rfl (show ¬ ((14 : Int32) < 0 ∨ 15 ≤ Int32.toNatClampNeg 14) by decide) dX0_costOfChoice_6 ?_
  refine lv_lstore_n (lv' := [(2, .long (lg (Int32.toNatClampNeg 14))), (0, .ref x0), (1, .int a1)]) hx hb dX0_costOfChoice_7 rfl hl (by decide) rfl (fun ls hl => ?_)
  refine lv_aload_n hx hb dX0_costOfChoice_8 rfl (lv_at hl 1 rfl) ?_
  refine va_get (D := D) (ci := 0) (v := .ref x9) (C := RX0) (T := TX0) (N := 16) hx hb hts hin hown hK hP 0 rfl rfl 15 (by decide) hw_1 (fun _ h9 => h9) rfl dX0_costOfChoice_9 ?_
  refine lv_bipush (v := 14) hx hb dX0_costOfChoice_12 (by decide) ?_
  refine va_lald hx hb hK hP 9 1 rfl rfl (show ¬ ((14 : Int32) < 0 ∨ 15 ≤ Int32.toNatClampNeg 14) by decide) dX0_costOfChoice_14 ?_
  refine lv_lstore (lv' := [(4, .long (hg (Int32.toNatClampNeg 14))), (2, .long (lg (Int32.toNatClampNeg 14))), (0, .ref x0), (1, .int a1)]) hx hb dX0_costOfChoice_15 hl (by decide) rfl (fun ls hl => ?_)
  refine lv_iconst (v := 0) hx hb dX0_costOfChoice_17 (by decide) ?_
  refine lv_istore (lv' := [(6, .int 0), (4, .long (hg (Int32.toNatClampNeg 14))), (2, .long (lg (Int32.toNatClampNeg 14))), (0, .ref x0), (1, .int a1)]) hx hb dX0_costOfChoice_18 hl (by decide) rfl (fun ls hl => ?_)
  exact L20 fu (lg (Int32.toNatClampNeg 14)) (hg (Int32.toNatClampNeg 14)) 0 _ _ _ h hP hD hS (lv_sub hl [3, 4, 2, 1, 0] rfl)
-- X0_bestChoice
def m_X0_bestChoice_23 (fu : Nat) (rc : Int32) (ec : Int32) (cn : Int32) (lc : Nat → Int64) (hc : Nat → Int64) : Nat → Int32 → Int32 → Int32 → Int32 → (Nat → Int64) → (Nat → Int64) → Option ((Int32) × ((Nat → Int64)) × ((Nat → Int64)))
  | 0, _, _, _, _, _, _ => none
  | n + 1, v1, v2, v3, v4, lg, hg => (if v1 ≤ v4 then some (v2, lg, hg) else (ix (if 14 < (m_J6_numberOfTrailingZeros_0f7a4 (v4 &&& (v4 - 1))) then 14 else (m_J6_numberOfTrailingZeros_0f7a4 (v4 &&& (v4 - 1)))) 15 (ix (if 13 < (m_J6_numberOfTrailingZeros_0f7a4 v4) then 13 else (m_J6_numberOfTrailingZeros_0f7a4 v4)) 255 (ix (if 13 < (m_J6_numberOfTrailingZeros_0f7a4 v4) then 13 else (m_J6_numberOfTrailingZeros_0f7a4 v4)) 15 (if (m_X0_costWith rc ec (m_J6_bitCount_0f7a4 v4) ((vp_updL lg (Int32.toNatClampNeg (if 13 < (m_J6_numberOfTrailingZeros_0f7a4 v4) then 13 else (m_J6_numberOfTrailingZeros_0f7a4 v4))) ((lg (Int32.toNatClampNeg (if 14 < (m_J6_numberOfTrailingZeros_0f7a4 (v4 &&& (v4 - 1))) then 14 else (m_J6_numberOfTrailingZeros_0f7a4 (v4 &&& (v4 - 1)))))) &&& ((lc (Int32.toNatClampNeg (if 13 < (m_J6_numberOfTrailingZeros_0f7a4 v4) then 13 else (m_J6_numberOfTrailingZeros_0f7a4 v4)))) ^^^ (-1)))) (Int32.toNatClampNeg (if 13 < (m_J6_numberOfTrailingZeros_0f7a4 v4) then 13 else (m_J6_numberOfTrailingZeros_0f7a4 v4)))) ((vp_updL hg (Int32.toNatClampNeg (if 13 < (m_J6_numberOfTrailingZeros_0f7a4 v4) then 13 else (m_J6_numberOfTrailingZeros_0f7a4 v4))) ((hg (Int32.toNatClampNeg (if 14 < (m_J6_numberOfTrailingZeros_0f7a4 (v4 &&& (v4 - 1))) then 14 else (m_J6_numberOfTrailingZeros_0f7a4 (v4 &&& (v4 - 1)))))) &&& ((hc (Int32.toNatClampNeg (if 13 < (m_J6_numberOfTrailingZeros_0f7a4 v4) then 13 else (m_J6_numberOfTrailingZeros_0f7a4 v4)))) ^^^ (-1)))) (Int32.toNatClampNeg (if 13 < (m_J6_numberOfTrailingZeros_0f7a4 v4) then 13 else (m_J6_numberOfTrailingZeros_0f7a4 v4))))) < v3 then (m_X0_bestChoice_23 fu rc ec cn lc hc n v1 v4 (m_X0_costWith rc ec (m_J6_bitCount_0f7a4 v4) ((vp_updL lg (Int32.toNatClampNeg (if 13 < (m_J6_numberOfTrailingZeros_0f7a4 v4) then 13 else (m_J6_numberOfTrailingZeros_0f7a4 v4))) ((lg (Int32.toNatClampNeg (if 14 < (m_J6_numberOfTrailingZeros_0f7a4 (v4 &&& (v4 - 1))) then 14 else (m_J6_numberOfTrailingZeros_0f7a4 (v4 &&& (v4 - 1)))))) &&& ((lc (Int32.toNatClampNeg (if 13 < (m_J6_numberOfTrailingZeros_0f7a4 v4) then 13 else (m_J6_numberOfTrailingZeros_0f7a4 v4)))) ^^^ (-1)))) (Int32.toNatClampNeg (if 13 < (m_J6_numberOfTrailingZeros_0f7a4 v4) then 13 else (m_J6_numberOfTrailingZeros_0f7a4 v4)))) ((vp_updL hg (Int32.toNatClampNeg (if 13 < (m_J6_numberOfTrailingZeros_0f7a4 v4) then 13 else (m_J6_numberOfTrailingZeros_0f7a4 v4))) ((hg (Int32.toNatClampNeg (if 14 < (m_J6_numberOfTrailingZeros_0f7a4 (v4 &&& (v4 - 1))) then 14 else (m_J6_numberOfTrailingZeros_0f7a4 (v4 &&& (v4 - 1)))))) &&& ((hc (Int32.toNatClampNeg (if 13 < (m_J6_numberOfTrailingZeros_0f7a4 v4) then 13 else (m_J6_numberOfTrailingZeros_0f7a4 v4)))) ^^^ (-1)))) (Int32.toNatClampNeg (if 13 < (m_J6_numberOfTrailingZeros_0f7a4 v4) then 13 else (m_J6_numberOfTrailingZeros_0f7a4 v4))))) (v4 + 1) (vp_updL lg (Int32.toNatClampNeg (if 13 < (m_J6_numberOfTrailingZeros_0f7a4 v4) then 13 else (m_J6_numberOfTrailingZeros_0f7a4 v4))) ((lg (Int32.toNatClampNeg (if 14 < (m_J6_numberOfTrailingZeros_0f7a4 (v4 &&& (v4 - 1))) then 14 else (m_J6_numberOfTrailingZeros_0f7a4 (v4 &&& (v4 - 1)))))) &&& ((lc (Int32.toNatClampNeg (if 13 < (m_J6_numberOfTrailingZeros_0f7a4 v4) then 13 else (m_J6_numberOfTrailingZeros_0f7a4 v4)))) ^^^ (-1)))) (vp_updL hg (Int32.toNatClampNeg (if 13 < (m_J6_numberOfTrailingZeros_0f7a4 v4) then 13 else (m_J6_numberOfTrailingZeros_0f7a4 v4))) ((hg (Int32.toNatClampNeg (if 14 < (m_J6_numberOfTrailingZeros_0f7a4 (v4 &&& (v4 - 1))) then 14 else (m_J6_numberOfTrailingZeros_0f7a4 (v4 &&& (v4 - 1)))))) &&& ((hc (Int32.toNatClampNeg (if 13 < (m_J6_numberOfTrailingZeros_0f7a4 v4) then 13 else (m_J6_numberOfTrailingZeros_0f7a4 v4)))) ^^^ (-1))))) else (if (m_X0_costWith rc ec (m_J6_bitCount_0f7a4 v4) ((vp_updL lg (Int32.toNatClampNeg (if 13 < (m_J6_numberOfTrailingZeros_0f7a4 v4) then 13 else (m_J6_numberOfTrailingZeros_0f7a4 v4))) ((lg (Int32.toNatClampNeg (if 14 < (m_J6_numberOfTrailingZeros_0f7a4 (v4 &&& (v4 - 1))) then 14 else (m_J6_numberOfTrailingZeros_0f7a4 (v4 &&& (v4 - 1)))))) &&& ((lc (Int32.toNatClampNeg (if 13 < (m_J6_numberOfTrailingZeros_0f7a4 v4) then 13 else (m_J6_numberOfTrailingZeros_0f7a4 v4)))) ^^^ (-1)))) (Int32.toNatClampNeg (if 13 < (m_J6_numberOfTrailingZeros_0f7a4 v4) then 13 else (m_J6_numberOfTrailingZeros_0f7a4 v4)))) ((vp_updL hg (Int32.toNatClampNeg (if 13 < (m_J6_numberOfTrailingZeros_0f7a4 v4) then 13 else (m_J6_numberOfTrailingZeros_0f7a4 v4))) ((hg (Int32.toNatClampNeg (if 14 < (m_J6_numberOfTrailingZeros_0f7a4 (v4 &&& (v4 - 1))) then 14 else (m_J6_numberOfTrailingZeros_0f7a4 (v4 &&& (v4 - 1)))))) &&& ((hc (Int32.toNatClampNeg (if 13 < (m_J6_numberOfTrailingZeros_0f7a4 v4) then 13 else (m_J6_numberOfTrailingZeros_0f7a4 v4)))) ^^^ (-1)))) (Int32.toNatClampNeg (if 13 < (m_J6_numberOfTrailingZeros_0f7a4 v4) then 13 else (m_J6_numberOfTrailingZeros_0f7a4 v4))))) = v3 then (if (m_X0_comesBefore v4 v2) = 0 then (m_X0_bestChoice_23 fu rc ec cn lc hc n v1 v2 v3 (v4 + 1) (vp_updL lg (Int32.toNatClampNeg (if 13 < (m_J6_numberOfTrailingZeros_0f7a4 v4) then 13 else (m_J6_numberOfTrailingZeros_0f7a4 v4))) ((lg (Int32.toNatClampNeg (if 14 < (m_J6_numberOfTrailingZeros_0f7a4 (v4 &&& (v4 - 1))) then 14 else (m_J6_numberOfTrailingZeros_0f7a4 (v4 &&& (v4 - 1)))))) &&& ((lc (Int32.toNatClampNeg (if 13 < (m_J6_numberOfTrailingZeros_0f7a4 v4) then 13 else (m_J6_numberOfTrailingZeros_0f7a4 v4)))) ^^^ (-1)))) (vp_updL hg (Int32.toNatClampNeg (if 13 < (m_J6_numberOfTrailingZeros_0f7a4 v4) then 13 else (m_J6_numberOfTrailingZeros_0f7a4 v4))) ((hg (Int32.toNatClampNeg (if 14 < (m_J6_numberOfTrailingZeros_0f7a4 (v4 &&& (v4 - 1))) then 14 else (m_J6_numberOfTrailingZeros_0f7a4 (v4 &&& (v4 - 1)))))) &&& ((hc (Int32.toNatClampNeg (if 13 < (m_J6_numberOfTrailingZeros_0f7a4 v4) then 13 else (m_J6_numberOfTrailingZeros_0f7a4 v4)))) ^^^ (-1))))) else (m_X0_bestChoice_23 fu rc ec cn lc hc n v1 v4 (m_X0_costWith rc ec (m_J6_bitCount_0f7a4 v4) ((vp_updL lg (Int32.toNatClampNeg (if 13 < (m_J6_numberOfTrailingZeros_0f7a4 v4) then 13 else (m_J6_numberOfTrailingZeros_0f7a4 v4))) ((lg (Int32.toNatClampNeg (if 14 < (m_J6_numberOfTrailingZeros_0f7a4 (v4 &&& (v4 - 1))) then 14 else (m_J6_numberOfTrailingZeros_0f7a4 (v4 &&& (v4 - 1)))))) &&& ((lc (Int32.toNatClampNeg (if 13 < (m_J6_numberOfTrailingZeros_0f7a4 v4) then 13 else (m_J6_numberOfTrailingZeros_0f7a4 v4)))) ^^^ (-1)))) (Int32.toNatClampNeg (if 13 < (m_J6_numberOfTrailingZeros_0f7a4 v4) then 13 else (m_J6_numberOfTrailingZeros_0f7a4 v4)))) ((vp_updL hg (Int32.toNatClampNeg (if 13 < (m_J6_numberOfTrailingZeros_0f7a4 v4) then 13 else (m_J6_numberOfTrailingZeros_0f7a4 v4))) ((hg (Int32.toNatClampNeg (if 14 < (m_J6_numberOfTrailingZeros_0f7a4 (v4 &&& (v4 - 1))) then 14 else (m_J6_numberOfTrailingZeros_0f7a4 (v4 &&& (v4 - 1)))))) &&& ((hc (Int32.toNatClampNeg (if 13 < (m_J6_numberOfTrailingZeros_0f7a4 v4) then 13 else (m_J6_numberOfTrailingZeros_0f7a4 v4)))) ^^^ (-1)))) (Int32.toNatClampNeg (if 13 < (m_J6_numberOfTrailingZeros_0f7a4 v4) then 13 else (m_J6_numberOfTrailingZeros_0f7a4 v4))))) (v4 + 1) (vp_updL lg (Int32.toNatClampNeg (if 13 < (m_J6_numberOfTrailingZeros_0f7a4 v4) then 13 else (m_J6_numberOfTrailingZeros_0f7a4 v4))) ((lg (Int32.toNatClampNeg (if 14 < (m_J6_numberOfTrailingZeros_0f7a4 (v4 &&& (v4 - 1))) then 14 else (m_J6_numberOfTrailingZeros_0f7a4 (v4 &&& (v4 - 1)))))) &&& ((lc (Int32.toNatClampNeg (if 13 < (m_J6_numberOfTrailingZeros_0f7a4 v4) then 13 else (m_J6_numberOfTrailingZeros_0f7a4 v4)))) ^^^ (-1)))) (vp_updL hg (Int32.toNatClampNeg (if 13 < (m_J6_numberOfTrailingZeros_0f7a4 v4) then 13 else (m_J6_numberOfTrailingZeros_0f7a4 v4))) ((hg (Int32.toNatClampNeg (if 14 < (m_J6_numberOfTrailingZeros_0f7a4 (v4 &&& (v4 - 1))) then 14 else (m_J6_numberOfTrailingZeros_0f7a4 (v4 &&& (v4 - 1)))))) &&& ((hc (Int32.toNatClampNeg (if 13 < (m_J6_numberOfTrailingZeros_0f7a4 v4) then 13 else (m_J6_numberOfTrailingZeros_0f7a4 v4)))) ^^^ (-1)))))) else (m_X0_bestChoice_23 fu rc ec cn lc hc n v1 v2 v3 (v4 + 1) (vp_updL lg (Int32.toNatClampNeg (if 13 < (m_J6_numberOfTrailingZeros_0f7a4 v4) then 13 else (m_J6_numberOfTrailingZeros_0f7a4 v4))) ((lg (Int32.toNatClampNeg (if 14 < (m_J6_numberOfTrailingZeros_0f7a4 (v4 &&& (v4 - 1))) then 14 else (m_J6_numberOfTrailingZeros_0f7a4 (v4 &&& (v4 - 1)))))) &&& ((lc (Int32.toNatClampNeg (if 13 < (m_J6_numberOfTrailingZeros_0f7a4 v4) then 13 else (m_J6_numberOfTrailingZeros_0f7a4 v4)))) ^^^ (-1)))) (vp_updL hg (Int32.toNatClampNeg (if 13 < (m_J6_numberOfTrailingZeros_0f7a4 v4) then 13 else (m_J6_numberOfTrailingZeros_0f7a4 v4))) ((hg (Int32.toNatClampNeg (if 14 < (m_J6_numberOfTrailingZeros_0f7a4 (v4 &&& (v4 - 1))) then 14 else (m_J6_numberOfTrailingZeros_0f7a4 (v4 &&& (v4 - 1)))))) &&& ((hc (Int32.toNatClampNeg (if 13 < (m_J6_numberOfTrailingZeros_0f7a4 v4) then 13 else (m_J6_numberOfTrailingZeros_0f7a4 v4)))) ^^^ (-1)))))))))))
def m_X0_bestChoice (fu : Nat) (rc : Int32) (ec : Int32) (cn : Int32) (lc : Nat → Int64) (hc : Nat → Int64) (lg : Nat → Int64) (hg : Nat → Int64) : Option ((Int32) × ((Nat → Int64)) × ((Nat → Int64))) := (bnd1 (m_X0_costOfChoice fu rc ec cn lc hc lg hg 0) (fun r_1 => (m_X0_bestChoice_23 fu rc ec cn lc hc fu (1 <<< ((if 14 < cn then 14 else cn) &&& 31)) 0 r_1 1 lg hg)))
set_option maxHeartbeats 4000000 in
set_option maxRecDepth 100000 in
theorem c_X0_bestChoice (l : Launch) (D : va_G) (cI cJ : ClassId) (x0 x1 x2 x3 x4 x5 x6 x7 x8 x9 : Nat) (sz : Nat) (g : Nat → Int32) (rm : Nat → Int32) (op : Nat → Int32) (rc : Int32) (ec : Int32) (su : Int32) (pe : Int32) (qt : Int32) (rs : Nat → Int32) (rn : Int32) (cs : Nat → Int32) (cn : Int32) (lc : Nat → Int64) (hc : Nat → Int64) (lg : Nat → Int64) (hg : Nat → Int64) (fu : Nat) (r0 : Int32) (lg' : Nat → Int64) (hg' : Nat → Int64) (h : m_X0_bestChoice fu rc ec cn lc hc lg hg = some (r0, lg', hg')) : Met l yX0_bestChoice wsX0_bestChoice ({ frames := 3, cells := 0, slots := 0, locals := 72 }) (va_Pc [.ref x0] (bx_Pre D [(cI, .int), (cJ, .long)] (wX cI cJ x0 x1 x2 x3 x4 x5 x6 x7 x8 x9 g rm op rc ec su pe qt rs rn cs cn lc hc lg hg) sz)) (va_Qi (fun (r : Int32) (_ : Unit) => r = r0) (fun (_ : Unit) t => bx_Post D [(cI, .int), (cJ, .long)] (wX cI cJ x0 x1 x2 x3 x4 x5 x6 x7 x8 x9 g rm op rc ec su pe qt rs rn cs cn lc hc lg' hg') (va_A (wX cI cJ x0 x1 x2 x3 x4 x5 x6 x7 x8 x9 g rm op rc ec su pe qt rs rn cs cn lc hc lg hg) sz) t) (va_A (wX cI cJ x0 x1 x2 x3 x4 x5 x6 x7 x8 x9 g rm op rc ec su pe qt rs rn cs cn lc hc lg hg) sz)) 0 0 (va_A (wX cI cJ x0 x1 x2 x3 x4 x5 x6 x7 x8 x9 g rm op rc ec su pe qt rs rn cs cn lc hc lg hg) sz) := by
  refine Met.ofW (cc := cX0_bestChoice) (maxL := 8) (ret := (some .int)) (by decide) rfl ?_
  intro p e s m args below meth c s₁ B hml hv
  obtain ⟨rfl, hsz, hP, hK, hD0⟩ := hv
  have hx := B.exec
  have hb := B.bytes
  have hr := B.returns
  have hts := atoms_spec (ws := wsX0_bestChoice) B.pre
  have hown : s.vm.findClass RX0 = some m.cls := findClass_of_methodNamed B.named
  have hlocks := B.notSynchronized
  subst hsz
  have hD := hD0.self (sz := s.heap.size)
  generalize hAe : va_A (wX cI cJ x0 x1 x2 x3 x4 x5 x6 x7 x8 x9 g rm op rc ec su pe qt rs rn cs cn lc hc lg hg) s.heap.size = A at hD ⊢
  have hA : ∀ q : Nat, s.heap.size ≤ q → A q := fun q h9 => by rw [← hAe]; exact Or.inr h9
  have hS : va_S A s.heap s.heap [] := va_S.rf
  have hin : ∀ w ∈ wsX00, w ∈ wsX0_bestChoice := fun _ h9 => List.mem_cons_of_mem _ (List.mem_append_right _ h9)
  have hw_0 := hts (.fieldLink RX0 44 "RoleMiner" "candidateCount" "I") (by decide +kernel)
  have hw_1 := hts (.methodLink RX0 187 Lib.Math.min.name) (by decide +kernel)
  have hw_2 := hts (.static Lib.Math.min.name) (by decide +kernel)
  have hw_3 := hts (.initialized "java/lang/Math") (by decide +kernel)
  have hw_4 := hts (.code Lib.Math.min.name Lib.Math.min.code 2 (some .int)) (by decide +kernel)
  have hw_5 := hts (.fieldLink RX0 54 "RoleMiner" "lowLeft" "[J") (by decide +kernel)
  have hw_6 := hts (.fieldLink RX0 47 "RoleMiner" "lowCover" "[J") (by decide +kernel)
  have hw_7 := hts (.constantLong RX0 132 (-1)) (by decide +kernel)
  have hw_8 := hts (.fieldLink RX0 57 "RoleMiner" "highLeft" "[J") (by decide +kernel)
  have hw_9 := hts (.fieldLink RX0 51 "RoleMiner" "highCover" "[J") (by decide +kernel)
  have hl := lv_entry ([.ref x0]) (n := 8) (Nat.le_of_ble_eq_true rfl)
  rw [lg_entry_eq]
  generalize (lg_sl ([.ref x0]) ++ List.replicate (8 - (lg_sl ([.ref x0])).length) Slot.unset).toArray = ls at hl ⊢
  have hl : lv_has ls 8 [(0, .ref x0)] := hl
  have L23 : ∀ (n : Nat) (v1 : Int32) (v2 : Int32) (v3 : Int32) (v4 : Int32) (lg : Nat → Int64) (hg : Nat → Int64) (H : Heap) (locs : List Loc) (ls : Array Slot), m_X0_bestChoice_23 fu rc ec cn lc hc n v1 v2 v3 v4 lg hg = some (r0, lg', hg') → va_P D vwCl (wX cI cJ x0 x1 x2 x3 x4 x5 x6 x7 x8 x9 g rm op rc ec su pe qt rs rn cs cn lc hc lg hg) H → va_D A (wX cI cJ x0 x1 x2 x3 x4 x5 x6 x7 x8 x9 g rm op rc ec su pe qt rs rn cs cn lc hc lg hg) → va_S A s.heap H locs → lv_has ls 8 [(0, .ref x0), (1, .int v1), (2, .int v2), (3, .int v3), (4, .int v4)] → W p l e (headSpec wsX0_bestChoice ({ frames := 3, cells := 0, slots := 0, locals := 72 })).room s m ([.ref x0] : List Value).toArray below meth c H locs 0 0 (MQ below (va_Qi (fun (r : Int32) (_ : Unit) => r = r0) (fun (_ : Unit) t => bx_Post D [(cI, .int), (cJ, .long)] (wX cI cJ x0 x1 x2 x3 x4 x5 x6 x7 x8 x9 g rm op rc ec su pe qt rs rn cs cn lc hc lg' hg') A t) A) ([.ref x0] : List Value).toArray s 0 0 A) (F0 m 23 ls []) := by
    intro n
    induction n with
    | zero =>
      intro v1 v2 v3 v4 lg hg H locs ls h
      rw [m_X0_bestChoice_23] at h
      cases h
    | succ n ih =>
      intro v1 v2 v3 v4 lg hg H locs ls h hP hD hS hl
      rw [m_X0_bestChoice_23] at h
      refine lv_iload hx hb dX0_bestChoice_23 (lv_at hl 4 rfl) ?_
      refine lv_iload_n hx hb dX0_bestChoice_25 rfl (lv_at hl 1 rfl) ?_
      refine lv_icmp_ge (tgt := 168) hx hb dX0_bestChoice_26 (by decide) (fun c_3 => ?_) (fun c_3 => ?_)
      · replace h := (if_pos c_3).symm.trans h
        refine lv_iload_n hx hb dX0_bestChoice_168 rfl (lv_at hl 2 rfl) ?_
        cases h
        exact W.iret hx hb hr (fun t ht hW => ⟨⟨_, (), rfl, rfl, by rw [ht]; exact hP, va_K.moved hW.alike hK, hD⟩, hS.F ht⟩) hS.2.2 dX0_bestChoice_169
      · replace h := (if_neg c_3).symm.trans h
        refine lv_iload hx hb dX0_bestChoice_29 (lv_at hl 4 rfl) ?_
        refine cl_Si0 (As := [.int v4]) (rest := []) ⟨hx, hb, hml, hown, hts⟩ (c_J6_numberOfTrailingZeros_0f7a4 l D _ v4) (va_cwS 1 hts gX0_bestChoice_J6_numberOfTrailingZeros_0f7a4 rfl rfl rfl (by decide +kernel) ⟨Nat.le_of_ble_eq_true rfl, Nat.le_of_ble_eq_true rfl⟩) hK hP hD hS hA rfl rfl hl.1 rfl (lv_room (Nat.le_of_ble_eq_true rfl)) dX0_bestChoice_31 (fun H locs hP hD hS => ?_)
        refine lv_bipush (v := 13) hx hb dX0_bestChoice_34 (by decide) ?_
        refine va_mmin hx hb (hml.trans hl.1.symm) hown hw_1 hw_2 hw_3 hw_4 (Nat.le_of_ble_eq_true rfl) (Nat.le_of_ble_eq_true rfl) (Nat.zero_le _) (Nat.zero_le _) dX0_bestChoice_36 ?_
        refine lv_istore (lv' := [(5, .int (if 13 < (m_J6_numberOfTrailingZeros_0f7a4 v4) then 13 else (m_J6_numberOfTrailingZeros_0f7a4 v4))), (0, .ref x0), (1, .int v1), (2, .int v2), (3, .int v3), (4, .int v4)]) hx hb dX0_bestChoice_39 hl (by decide) rfl (fun ls hl => ?_)
        refine lv_iload hx hb dX0_bestChoice_41 (lv_at hl 5 rfl) ?_
        refine lv_iload hx hb dX0_bestChoice_43 (lv_at hl 5 rfl) ?_
        refine lv_iconst (v := 1) hx hb dX0_bestChoice_45 (by decide) ?_
        refine lv_isub hx hb dX0_bestChoice_46 ?_
        refine lv_iand hx hb dX0_bestChoice_47 ?_
        refine cl_Si0 (As := [.int (v4 &&& (v4 - 1))]) (rest := []) ⟨hx, hb, hml, hown, hts⟩ (c_J6_numberOfTrailingZeros_0f7a4 l D _ (v4 &&& (v4 - 1))) (va_cwS 1 hts gX0_bestChoice_J6_numberOfTrailingZeros_0f7a4 rfl rfl rfl (by decide +kernel) ⟨Nat.le_of_ble_eq_true rfl, Nat.le_of_ble_eq_true rfl⟩) hK hP hD hS hA rfl rfl hl.1 rfl (lv_room (Nat.le_of_ble_eq_true rfl)) dX0_bestChoice_48 (fun H locs hP hD hS => ?_)
        refine lv_bipush (v := 14) hx hb dX0_bestChoice_51 (by decide) ?_
        refine va_mmin hx hb (hml.trans hl.1.symm) hown hw_1 hw_2 hw_3 hw_4 (Nat.le_of_ble_eq_true rfl) (Nat.le_of_ble_eq_true rfl) (Nat.zero_le _) (Nat.zero_le _) dX0_bestChoice_53 ?_
        refine lv_istore (lv' := [(6, .int (if 14 < (m_J6_numberOfTrailingZeros_0f7a4 (v4 &&& (v4 - 1))) then 14 else (m_J6_numberOfTrailingZeros_0f7a4 (v4 &&& (v4 - 1))))), (5, .int (if 13 < (m_J6_numberOfTrailingZeros_0f7a4 v4) then 13 else (m_J6_numberOfTrailingZeros_0f7a4 v4))), (0, .ref x0), (1, .int v1), (2, .int v2), (3, .int v3), (4, .int v4)]) hx hb dX0_bestChoice_56 hl (by decide) rfl (fun ls hl => ?_)
        refine lv_aload_n hx hb dX0_bestChoice_58 rfl (lv_at hl 2 rfl) ?_
        refine va_get (D := D) (ci := 0) (v := .ref x8) (C := RX0) (T := TX0) (N := 16) hx hb hts hin hown hK hP 0 rfl rfl 14 (by decide) hw_5 (fun _ h9 => h9) rfl dX0_bestChoice_59 ?_
        refine lv_iload hx hb dX0_bestChoice_62 (lv_at hl 1 rfl) ?_
        refine lv_aload_n hx hb dX0_bestChoice_64 rfl (lv_at hl 2 rfl) ?_
        refine va_get (D := D) (ci := 0) (v := .ref x8) (C := RX0) (T := TX0) (N := 16) hx hb hts hin hown hK hP 0 rfl rfl 14 (by decide) hw_5 (fun _ h9 => h9) rfl dX0_bestChoice_65 ?_
        refine lv_iload hx hb dX0_bestChoice_68 (lv_at hl 0 rfl) ?_
        obtain ⟨h_4, h⟩ := ix_some h
        refine va_lald hx hb hK hP 8 1 rfl rfl h_4 dX0_bestChoice_70 ?_
        refine lv_aload_n hx hb dX0_bestChoice_71 rfl (lv_at hl 2 rfl) ?_
        refine va_get (D := D) (ci := 0) (v := .ref x6) (C := RX0) (T := TX0) (N := 16) hx hb hts hin hown hK hP 0 rfl rfl 12 (by decide) hw_6 (fun _ h9 => h9) rfl dX0_bestChoice_72 ?_
        refine lv_iload hx hb dX0_bestChoice_75 (lv_at hl 1 rfl) ?_
        obtain ⟨h_5, h⟩ := ix_some h
        refine va_lald hx hb hK hP 6 1 rfl rfl h_5 dX0_bestChoice_77 ?_
        refine lv_ldc2 hx hb hown hw_7 dX0_bestChoice_78 ?_
        refine lv_lxor hx hb dX0_bestChoice_81 ?_
        refine lv_land hx hb dX0_bestChoice_82 ?_
        obtain ⟨h_6, h⟩ := ix_some h
        refine va_last hx hb hK hP hD hS 8 1 rfl rfl h_6 dX0_bestChoice_83 (fun H locs hP hD hS => ?_)
        have hP : va_P D vwCl (wX cI cJ x0 x1 x2 x3 x4 x5 x6 x7 x8 x9 g rm op rc ec su pe qt rs rn cs cn lc hc (vp_updL lg (Int32.toNatClampNeg (if 13 < (m_J6_numberOfTrailingZeros_0f7a4 v4) then 13 else (m_J6_numberOfTrailingZeros_0f7a4 v4))) ((lg (Int32.toNatClampNeg (if 14 < (m_J6_numberOfTrailingZeros_0f7a4 (v4 &&& (v4 - 1))) then 14 else (m_J6_numberOfTrailingZeros_0f7a4 (v4 &&& (v4 - 1)))))) &&& ((lc (Int32.toNatClampNeg (if 13 < (m_J6_numberOfTrailingZeros_0f7a4 v4) then 13 else (m_J6_numberOfTrailingZeros_0f7a4 v4)))) ^^^ (-1)))) hg) H := hP
        have hD : va_D A (wX cI cJ x0 x1 x2 x3 x4 x5 x6 x7 x8 x9 g rm op rc ec su pe qt rs rn cs cn lc hc (vp_updL lg (Int32.toNatClampNeg (if 13 < (m_J6_numberOfTrailingZeros_0f7a4 v4) then 13 else (m_J6_numberOfTrailingZeros_0f7a4 v4))) ((lg (Int32.toNatClampNeg (if 14 < (m_J6_numberOfTrailingZeros_0f7a4 (v4 &&& (v4 - 1))) then 14 else (m_J6_numberOfTrailingZeros_0f7a4 (v4 &&& (v4 - 1)))))) &&& ((lc (Int32.toNatClampNeg (if 13 < (m_J6_numberOfTrailingZeros_0f7a4 v4) then 13 else (m_J6_numberOfTrailingZeros_0f7a4 v4)))) ^^^ (-1)))) hg) := hD
        refine lv_aload_n hx hb dX0_bestChoice_84 rfl (lv_at hl 2 rfl) ?_
        refine va_get (D := D) (ci := 0) (v := .ref x9) (C := RX0) (T := TX0) (N := 16) hx hb hts hin hown hK hP 0 rfl rfl 15 (by decide) hw_8 (fun _ h9 => h9) rfl dX0_bestChoice_85 ?_
        refine lv_iload hx hb dX0_bestChoice_88 (lv_at hl 1 rfl) ?_
        refine lv_aload_n hx hb dX0_bestChoice_90 rfl (lv_at hl 2 rfl) ?_
        refine va_get (D := D) (ci := 0) (v := .ref x9) (C := RX0) (T := TX0) (N := 16) hx hb hts hin hown hK hP 0 rfl rfl 15 (by decide) hw_8 (fun _ h9 => h9) rfl dX0_bestChoice_91 ?_
        refine lv_iload hx hb dX0_bestChoice_94 (lv_at hl 0 rfl) ?_
        refine va_lald hx hb hK hP 9 1 rfl rfl h_4 dX0_bestChoice_96 ?_
        refine lv_aload_n hx hb dX0_bestChoice_97 rfl (lv_at hl 2 rfl) ?_
        refine va_get (D := D) (ci := 0) (v := .ref x7) (C := RX0) (T := TX0) (N := 16) hx hb hts hin hown hK hP 0 rfl rfl 13 (by decide) hw_9 (fun _ h9 => h9) rfl dX0_bestChoice_98 ?_
        refine lv_iload hx hb dX0_bestChoice_101 (lv_at hl 1 rfl) ?_
        refine va_lald hx hb hK hP 7 1 rfl rfl h_5 dX0_bestChoice_103 ?_
        refine lv_ldc2 hx hb hown hw_7 dX0_bestChoice_104 ?_
        refine lv_lxor hx hb dX0_bestChoice_107 ?_
        refine lv_land hx hb dX0_bestChoice_108 ?_
        refine va_last hx hb hK hP hD hS 9 1 rfl rfl h_6 dX0_bestChoice_109 (fun H locs hP hD hS => ?_)
        have hP : va_P D vwCl (wX cI cJ x0 x1 x2 x3 x4 x5 x6 x7 x8 x9 g rm op rc ec su pe qt rs rn cs cn lc hc (vp_updL lg (Int32.toNatClampNeg (if 13 < (m_J6_numberOfTrailingZeros_0f7a4 v4) then 13 else (m_J6_numberOfTrailingZeros_0f7a4 v4))) ((lg (Int32.toNatClampNeg (if 14 < (m_J6_numberOfTrailingZeros_0f7a4 (v4 &&& (v4 - 1))) then 14 else (m_J6_numberOfTrailingZeros_0f7a4 (v4 &&& (v4 - 1)))))) &&& ((lc (Int32.toNatClampNeg (if 13 < (m_J6_numberOfTrailingZeros_0f7a4 v4) then 13 else (m_J6_numberOfTrailingZeros_0f7a4 v4)))) ^^^ (-1)))) (vp_updL hg (Int32.toNatClampNeg (if 13 < (m_J6_numberOfTrailingZeros_0f7a4 v4) then 13 else (m_J6_numberOfTrailingZeros_0f7a4 v4))) ((hg (Int32.toNatClampNeg (if 14 < (m_J6_numberOfTrailingZeros_0f7a4 (v4 &&& (v4 - 1))) then 14 else (m_J6_numberOfTrailingZeros_0f7a4 (v4 &&& (v4 - 1)))))) &&& ((hc (Int32.toNatClampNeg (if 13 < (m_J6_numberOfTrailingZeros_0f7a4 v4) then 13 else (m_J6_numberOfTrailingZeros_0f7a4 v4)))) ^^^ (-1))))) H := hP
        have hD : va_D A (wX cI cJ x0 x1 x2 x3 x4 x5 x6 x7 x8 x9 g rm op rc ec su pe qt rs rn cs cn lc hc (vp_updL lg (Int32.toNatClampNeg (if 13 < (m_J6_numberOfTrailingZeros_0f7a4 v4) then 13 else (m_J6_numberOfTrailingZeros_0f7a4 v4))) ((lg (Int32.toNatClampNeg (if 14 < (m_J6_numberOfTrailingZeros_0f7a4 (v4 &&& (v4 - 1))) then 14 else (m_J6_numberOfTrailingZeros_0f7a4 (v4 &&& (v4 - 1)))))) &&& ((lc (Int32.toNatClampNeg (if 13 < (m_J6_numberOfTrailingZeros_0f7a4 v4) then 13 else (m_J6_numberOfTrailingZeros_0f7a4 v4)))) ^^^ (-1)))) (vp_updL hg (Int32.toNatClampNeg (if 13 < (m_J6_numberOfTrailingZeros_0f7a4 v4) then 13 else (m_J6_numberOfTrailingZeros_0f7a4 v4))) ((hg (Int32.toNatClampNeg (if 14 < (m_J6_numberOfTrailingZeros_0f7a4 (v4 &&& (v4 - 1))) then 14 else (m_J6_numberOfTrailingZeros_0f7a4 (v4 &&& (v4 - 1)))))) &&& ((hc (Int32.toNatClampNeg (if 13 < (m_J6_numberOfTrailingZeros_0f7a4 v4) then 13 else (m_J6_numberOfTrailingZeros_0f7a4 v4)))) ^^^ (-1))))) := hD
        refine lv_aload_n hx hb dX0_bestChoice_110 rfl (lv_at hl 2 rfl) ?_
        refine lv_iload hx hb dX0_bestChoice_111 (lv_at hl 6 rfl) ?_
        refine cl_Si0 (As := [.int v4]) (rest := [.ref x0]) ⟨hx, hb, hml, hown, hts⟩ (c_J6_bitCount_0f7a4 l D _ v4) (va_cwS 1 hts gX0_bestChoice_J6_bitCount_0f7a4 rfl rfl rfl (by decide +kernel) ⟨Nat.le_of_ble_eq_true rfl, Nat.le_of_ble_eq_true rfl⟩) hK hP hD hS hA rfl rfl hl.1 rfl (lv_room (Nat.le_of_ble_eq_true rfl)) dX0_bestChoice_113 (fun H locs hP hD hS => ?_)
        refine lv_aload_n hx hb dX0_bestChoice_116 rfl (lv_at hl 2 rfl) ?_
        refine va_get (D := D) (ci := 0) (v := .ref x8) (C := RX0) (T := TX0) (N := 16) hx hb hts hin hown hK hP 0 rfl rfl 14 (by decide) hw_5 (fun _ h9 => h9) rfl dX0_bestChoice_117 ?_
        refine lv_iload hx hb dX0_bestChoice_120 (lv_at hl 1 rfl) ?_
        refine va_lald hx hb hK hP 8 1 rfl rfl h_6 dX0_bestChoice_122 ?_
        refine lv_aload_n hx hb dX0_bestChoice_123 rfl (lv_at hl 2 rfl) ?_
        refine va_get (D := D) (ci := 0) (v := .ref x9) (C := RX0) (T := TX0) (N := 16) hx hb hts hin hown hK hP 0 rfl rfl 15 (by decide) hw_8 (fun _ h9 => h9) rfl dX0_bestChoice_124 ?_
        refine lv_iload hx hb dX0_bestChoice_127 (lv_at hl 1 rfl) ?_
        refine va_lald hx hb hK hP 9 1 rfl rfl h_6 dX0_bestChoice_129 ?_
        refine cl_Vi (As := [.int (m_J6_bitCount_0f7a4 v4), .long ((vp_updL lg (Int32.toNatClampNeg (if 13 < (m_J6_numberOfTrailingZeros_0f7a4 v4) then 13 else (m_J6_numberOfTrailingZeros_0f7a4 v4))) ((lg (Int32.toNatClampNeg (if 14 < (m_J6_numberOfTrailingZeros_0f7a4 (v4 &&& (v4 - 1))) then 14 else (m_J6_numberOfTrailingZeros_0f7a4 (v4 &&& (v4 - 1)))))) &&& ((lc (Int32.toNatClampNeg (if 13 < (m_J6_numberOfTrailingZeros_0f7a4 v4) then 13 else (m_J6_numberOfTrailingZeros_0f7a4 v4)))) ^^^ (-1)))) (Int32.toNatClampNeg (if 13 < (m_J6_numberOfTrailingZeros_0f7a4 v4) then 13 else (m_J6_numberOfTrailingZeros_0f7a4 v4)))), .long ((vp_updL hg (Int32.toNatClampNeg (if 13 < (m_J6_numberOfTrailingZeros_0f7a4 v4) then 13 else (m_J6_numberOfTrailingZeros_0f7a4 v4))) ((hg (Int32.toNatClampNeg (if 14 < (m_J6_numberOfTrailingZeros_0f7a4 (v4 &&& (v4 - 1))) then 14 else (m_J6_numberOfTrailingZeros_0f7a4 (v4 &&& (v4 - 1)))))) &&& ((hc (Int32.toNatClampNeg (if 13 < (m_J6_numberOfTrailingZeros_0f7a4 v4) then 13 else (m_J6_numberOfTrailingZeros_0f7a4 v4)))) ^^^ (-1)))) (Int32.toNatClampNeg (if 13 < (m_J6_numberOfTrailingZeros_0f7a4 v4) then 13 else (m_J6_numberOfTrailingZeros_0f7a4 v4))))]) (rest := []) (wc := wX cI cJ x0 x1 x2 x3 x4 x5 x6 x7 x8 x9 g rm op rc ec su pe qt rs rn cs cn lc hc (vp_updL lg (Int32.toNatClampNeg (if 13 < (m_J6_numberOfTrailingZeros_0f7a4 v4) then 13 else (m_J6_numberOfTrailingZeros_0f7a4 v4))) ((lg (Int32.toNatClampNeg (if 14 < (m_J6_numberOfTrailingZeros_0f7a4 (v4 &&& (v4 - 1))) then 14 else (m_J6_numberOfTrailingZeros_0f7a4 (v4 &&& (v4 - 1)))))) &&& ((lc (Int32.toNatClampNeg (if 13 < (m_J6_numberOfTrailingZeros_0f7a4 v4) then 13 else (m_J6_numberOfTrailingZeros_0f7a4 v4)))) ^^^ (-1)))) (vp_updL hg (Int32.toNatClampNeg (if 13 < (m_J6_numberOfTrailingZeros_0f7a4 v4) then 13 else (m_J6_numberOfTrailingZeros_0f7a4 v4))) ((hg (Int32.toNatClampNeg (if 14 < (m_J6_numberOfTrailingZeros_0f7a4 (v4 &&& (v4 - 1))) then 14 else (m_J6_numberOfTrailingZeros_0f7a4 (v4 &&& (v4 - 1)))))) &&& ((hc (Int32.toNatClampNeg (if 13 < (m_J6_numberOfTrailingZeros_0f7a4 v4) then 13 else (m_J6_numberOfTrailingZeros_0f7a4 v4)))) ^^^ (-1))))) (w1 := wX cI cJ x0 x1 x2 x3 x4 x5 x6 x7 x8 x9 g rm op rc ec su pe qt rs rn cs cn lc hc (vp_updL lg (Int32.toNatClampNeg (if 13 < (m_J6_numberOfTrailingZeros_0f7a4 v4) then 13 else (m_J6_numberOfTrailingZeros_0f7a4 v4))) ((lg (Int32.toNatClampNeg (if 14 < (m_J6_numberOfTrailingZeros_0f7a4 (v4 &&& (v4 - 1))) then 14 else (m_J6_numberOfTrailingZeros_0f7a4 (v4 &&& (v4 - 1)))))) &&& ((lc (Int32.toNatClampNeg (if 13 < (m_J6_numberOfTrailingZeros_0f7a4 v4) then 13 else (m_J6_numberOfTrailingZeros_0f7a4 v4)))) ^^^ (-1)))) (vp_updL hg (Int32.toNatClampNeg (if 13 < (m_J6_numberOfTrailingZeros_0f7a4 v4) then 13 else (m_J6_numberOfTrailingZeros_0f7a4 v4))) ((hg (Int32.toNatClampNeg (if 14 < (m_J6_numberOfTrailingZeros_0f7a4 (v4 &&& (v4 - 1))) then 14 else (m_J6_numberOfTrailingZeros_0f7a4 (v4 &&& (v4 - 1)))))) &&& ((hc (Int32.toNatClampNeg (if 13 < (m_J6_numberOfTrailingZeros_0f7a4 v4) then 13 else (m_J6_numberOfTrailingZeros_0f7a4 v4)))) ^^^ (-1))))) (wr := []) ⟨hx, hb, hml, hown, hts⟩ (c_X0_costWith l D cI cJ x0 x1 x2 x3 x4 x5 x6 x7 x8 x9 _ g rm op rc ec su pe qt rs rn cs cn lc hc (vp_updL lg (Int32.toNatClampNeg (if 13 < (m_J6_numberOfTrailingZeros_0f7a4 v4) then 13 else (m_J6_numberOfTrailingZeros_0f7a4 v4))) ((lg (Int32.toNatClampNeg (if 14 < (m_J6_numberOfTrailingZeros_0f7a4 (v4 &&& (v4 - 1))) then 14 else (m_J6_numberOfTrailingZeros_0f7a4 (v4 &&& (v4 - 1)))))) &&& ((lc (Int32.toNatClampNeg (if 13 < (m_J6_numberOfTrailingZeros_0f7a4 v4) then 13 else (m_J6_numberOfTrailingZeros_0f7a4 v4)))) ^^^ (-1)))) (vp_updL hg (Int32.toNatClampNeg (if 13 < (m_J6_numberOfTrailingZeros_0f7a4 v4) then 13 else (m_J6_numberOfTrailingZeros_0f7a4 v4))) ((hg (Int32.toNatClampNeg (if 14 < (m_J6_numberOfTrailingZeros_0f7a4 (v4 &&& (v4 - 1))) then 14 else (m_J6_numberOfTrailingZeros_0f7a4 (v4 &&& (v4 - 1)))))) &&& ((hc (Int32.toNatClampNeg (if 13 < (m_J6_numberOfTrailingZeros_0f7a4 v4) then 13 else (m_J6_numberOfTrailingZeros_0f7a4 v4)))) ^^^ (-1)))) (m_J6_bitCount_0f7a4 v4) ((vp_updL lg (Int32.toNatClampNeg (if 13 < (m_J6_numberOfTrailingZeros_0f7a4 v4) then 13 else (m_J6_numberOfTrailingZeros_0f7a4 v4))) ((lg (Int32.toNatClampNeg (if 14 < (m_J6_numberOfTrailingZeros_0f7a4 (v4 &&& (v4 - 1))) then 14 else (m_J6_numberOfTrailingZeros_0f7a4 (v4 &&& (v4 - 1)))))) &&& ((lc (Int32.toNatClampNeg (if 13 < (m_J6_numberOfTrailingZeros_0f7a4 v4) then 13 else (m_J6_numberOfTrailingZeros_0f7a4 v4)))) ^^^ (-1)))) (Int32.toNatClampNeg (if 13 < (m_J6_numberOfTrailingZeros_0f7a4 v4) then 13 else (m_J6_numberOfTrailingZeros_0f7a4 v4)))) ((vp_updL hg (Int32.toNatClampNeg (if 13 < (m_J6_numberOfTrailingZeros_0f7a4 v4) then 13 else (m_J6_numberOfTrailingZeros_0f7a4 v4))) ((hg (Int32.toNatClampNeg (if 14 < (m_J6_numberOfTrailingZeros_0f7a4 (v4 &&& (v4 - 1))) then 14 else (m_J6_numberOfTrailingZeros_0f7a4 (v4 &&& (v4 - 1)))))) &&& ((hc (Int32.toNatClampNeg (if 13 < (m_J6_numberOfTrailingZeros_0f7a4 v4) then 13 else (m_J6_numberOfTrailingZeros_0f7a4 v4)))) ^^^ (-1)))) (Int32.toNatClampNeg (if 13 < (m_J6_numberOfTrailingZeros_0f7a4 v4) then 13 else (m_J6_numberOfTrailingZeros_0f7a4 v4))))) (cwV 3 hts gX0_bestChoice_X0_costWith rfl rfl rfl (by decide +kernel) ⟨Nat.le_of_ble_eq_true rfl, Nat.le_of_ble_eq_true rfl⟩) hK hP hD hS hA [0, 1, 2, 3, 4, 5, 6, 7, 8, 9] [] rfl rfl (by decide) (by decide) rfl rfl rfl rfl rfl hl.1 rfl (lv_room (Nat.le_of_ble_eq_true rfl)) dX0_bestChoice_130 (fun H locs hP hD hS => ?_)
        have hP : va_P D vwCl (wX cI cJ x0 x1 x2 x3 x4 x5 x6 x7 x8 x9 g rm op rc ec su pe qt rs rn cs cn lc hc (vp_updL lg (Int32.toNatClampNeg (if 13 < (m_J6_numberOfTrailingZeros_0f7a4 v4) then 13 else (m_J6_numberOfTrailingZeros_0f7a4 v4))) ((lg (Int32.toNatClampNeg (if 14 < (m_J6_numberOfTrailingZeros_0f7a4 (v4 &&& (v4 - 1))) then 14 else (m_J6_numberOfTrailingZeros_0f7a4 (v4 &&& (v4 - 1)))))) &&& ((lc (Int32.toNatClampNeg (if 13 < (m_J6_numberOfTrailingZeros_0f7a4 v4) then 13 else (m_J6_numberOfTrailingZeros_0f7a4 v4)))) ^^^ (-1)))) (vp_updL hg (Int32.toNatClampNeg (if 13 < (m_J6_numberOfTrailingZeros_0f7a4 v4) then 13 else (m_J6_numberOfTrailingZeros_0f7a4 v4))) ((hg (Int32.toNatClampNeg (if 14 < (m_J6_numberOfTrailingZeros_0f7a4 (v4 &&& (v4 - 1))) then 14 else (m_J6_numberOfTrailingZeros_0f7a4 (v4 &&& (v4 - 1)))))) &&& ((hc (Int32.toNatClampNeg (if 13 < (m_J6_numberOfTrailingZeros_0f7a4 v4) then 13 else (m_J6_numberOfTrailingZeros_0f7a4 v4)))) ^^^ (-1))))) H := hP
        have hD : va_D A (wX cI cJ x0 x1 x2 x3 x4 x5 x6 x7 x8 x9 g rm op rc ec su pe qt rs rn cs cn lc hc (vp_updL lg (Int32.toNatClampNeg (if 13 < (m_J6_numberOfTrailingZeros_0f7a4 v4) then 13 else (m_J6_numberOfTrailingZeros_0f7a4 v4))) ((lg (Int32.toNatClampNeg (if 14 < (m_J6_numberOfTrailingZeros_0f7a4 (v4 &&& (v4 - 1))) then 14 else (m_J6_numberOfTrailingZeros_0f7a4 (v4 &&& (v4 - 1)))))) &&& ((lc (Int32.toNatClampNeg (if 13 < (m_J6_numberOfTrailingZeros_0f7a4 v4) then 13 else (m_J6_numberOfTrailingZeros_0f7a4 v4)))) ^^^ (-1)))) (vp_updL hg (Int32.toNatClampNeg (if 13 < (m_J6_numberOfTrailingZeros_0f7a4 v4) then 13 else (m_J6_numberOfTrailingZeros_0f7a4 v4))) ((hg (Int32.toNatClampNeg (if 14 < (m_J6_numberOfTrailingZeros_0f7a4 (v4 &&& (v4 - 1))) then 14 else (m_J6_numberOfTrailingZeros_0f7a4 (v4 &&& (v4 - 1)))))) &&& ((hc (Int32.toNatClampNeg (if 13 < (m_J6_numberOfTrailingZeros_0f7a4 v4) then 13 else (m_J6_numberOfTrailingZeros_0f7a4 v4)))) ^^^ (-1))))) := hD
        refine lv_istore (lv' := [(7, .int (m_X0_costWith rc ec (m_J6_bitCount_0f7a4 v4) ((vp_updL lg (Int32.toNatClampNeg (if 13 < (m_J6_numberOfTrailingZeros_0f7a4 v4) then 13 else (m_J6_numberOfTrailingZeros_0f7a4 v4))) ((lg (Int32.toNatClampNeg (if 14 < (m_J6_numberOfTrailingZeros_0f7a4 (v4 &&& (v4 - 1))) then 14 else (m_J6_numberOfTrailingZeros_0f7a4 (v4 &&& (v4 - 1)))))) &&& ((lc (Int32.toNatClampNeg (if 13 < (m_J6_numberOfTrailingZeros_0f7a4 v4) then 13 else (m_J6_numberOfTrailingZeros_0f7a4 v4)))) ^^^ (-1)))) (Int32.toNatClampNeg (if 13 < (m_J6_numberOfTrailingZeros_0f7a4 v4) then 13 else (m_J6_numberOfTrailingZeros_0f7a4 v4)))) ((vp_updL hg (Int32.toNatClampNeg (if 13 < (m_J6_numberOfTrailingZeros_0f7a4 v4) then 13 else (m_J6_numberOfTrailingZeros_0f7a4 v4))) ((hg (Int32.toNatClampNeg (if 14 < (m_J6_numberOfTrailingZeros_0f7a4 (v4 &&& (v4 - 1))) then 14 else (m_J6_numberOfTrailingZeros_0f7a4 (v4 &&& (v4 - 1)))))) &&& ((hc (Int32.toNatClampNeg (if 13 < (m_J6_numberOfTrailingZeros_0f7a4 v4) then 13 else (m_J6_numberOfTrailingZeros_0f7a4 v4)))) ^^^ (-1)))) (Int32.toNatClampNeg (if 13 < (m_J6_numberOfTrailingZeros_0f7a4 v4) then 13 else (m_J6_numberOfTrailingZeros_0f7a4 v4)))))), (6, .int (if 14 < (m_J6_numberOfTrailingZeros_0f7a4 (v4 &&& (v4 - 1))) then 14 else (m_J6_numberOfTrailingZeros_0f7a4 (v4 &&& (v4 - 1))))), (5, .int (if 13 < (m_J6_numberOfTrailingZeros_0f7a4 v4) then 13 else (m_J6_numberOfTrailingZeros_0f7a4 v4))), (0, .ref x0), (1, .int v1), (2, .int v2), (3, .int v3), (4, .int v4)]) hx hb dX0_bestChoice_133 hl (by decide) rfl (fun ls hl => ?_)
        refine lv_iload hx hb dX0_bestChoice_135 (lv_at hl 0 rfl) ?_
        refine lv_iload_n hx hb dX0_bestChoice_137 rfl (lv_at hl 6 rfl) ?_
        refine lv_icmp_lt (tgt := 156) hx hb dX0_bestChoice_138 (by decide) (fun c_7 => ?_) (fun c_7 => ?_)
        · replace h := (if_pos c_7).symm.trans h
          refine lv_iload hx hb dX0_bestChoice_156 (lv_at hl 7 rfl) ?_
          refine lv_istore_n (lv' := [(2, .int v4), (7, .int (m_X0_costWith rc ec (m_J6_bitCount_0f7a4 v4) ((vp_updL lg (Int32.toNatClampNeg (if 13 < (m_J6_numberOfTrailingZeros_0f7a4 v4) then 13 else (m_J6_numberOfTrailingZeros_0f7a4 v4))) ((lg (Int32.toNatClampNeg (if 14 < (m_J6_numberOfTrailingZeros_0f7a4 (v4 &&& (v4 - 1))) then 14 else (m_J6_numberOfTrailingZeros_0f7a4 (v4 &&& (v4 - 1)))))) &&& ((lc (Int32.toNatClampNeg (if 13 < (m_J6_numberOfTrailingZeros_0f7a4 v4) then 13 else (m_J6_numberOfTrailingZeros_0f7a4 v4)))) ^^^ (-1)))) (Int32.toNatClampNeg (if 13 < (m_J6_numberOfTrailingZeros_0f7a4 v4) then 13 else (m_J6_numberOfTrailingZeros_0f7a4 v4)))) ((vp_updL hg (Int32.toNatClampNeg (if 13 < (m_J6_numberOfTrailingZeros_0f7a4 v4) then 13 else (m_J6_numberOfTrailingZeros_0f7a4 v4))) ((hg (Int32.toNatClampNeg (if 14 < (m_J6_numberOfTrailingZeros_0f7a4 (v4 &&& (v4 - 1))) then 14 else (m_J6_numberOfTrailingZeros_0f7a4 (v4 &&& (v4 - 1)))))) &&& ((hc (Int32.toNatClampNeg (if 13 < (m_J6_numberOfTrailingZeros_0f7a4 v4) then 13 else (m_J6_numberOfTrailingZeros_0f7a4 v4)))) ^^^ (-1)))) (Int32.toNatClampNeg (if 13 < (m_J6_numberOfTrailingZeros_0f7a4 v4) then 13 else (m_J6_numberOfTrailingZeros_0f7a4 v4)))))), (6, .int (if 14 < (m_J6_numberOfTrailingZeros_0f7a4 (v4 &&& (v4 - 1))) then 14 else (m_J6_numberOfTrailingZeros_0f7a4 (v4 &&& (v4 - 1))))), (5, .int (if 13 < (m_J6_numberOfTrailingZeros_0f7a4 v4) then 13 else (m_J6_numberOfTrailingZeros_0f7a4 v4))), (0, .ref x0), (1, .int v1), (3, .int v3), (4, .int v4)]) hx hb dX0_bestChoice_158 rfl hl (by decide) rfl (fun ls hl => ?_)
          refine lv_iload hx hb dX0_bestChoice_159 (lv_at hl 1 rfl) ?_
          refine lv_istore_n (lv' := [(3, .int (m_X0_costWith rc ec (m_J6_bitCount_0f7a4 v4) ((vp_updL lg (Int32.toNatClampNeg (if 13 < (m_J6_numberOfTrailingZeros_0f7a4 v4) then 13 else (m_J6_numberOfTrailingZeros_0f7a4 v4))) ((lg (Int32.toNatClampNeg (if 14 < (m_J6_numberOfTrailingZeros_0f7a4 (v4 &&& (v4 - 1))) then 14 else (m_J6_numberOfTrailingZeros_0f7a4 (v4 &&& (v4 - 1)))))) &&& ((lc (Int32.toNatClampNeg (if 13 < (m_J6_numberOfTrailingZeros_0f7a4 v4) then 13 else (m_J6_numberOfTrailingZeros_0f7a4 v4)))) ^^^ (-1)))) (Int32.toNatClampNeg (if 13 < (m_J6_numberOfTrailingZeros_0f7a4 v4) then 13 else (m_J6_numberOfTrailingZeros_0f7a4 v4)))) ((vp_updL hg (Int32.toNatClampNeg (if 13 < (m_J6_numberOfTrailingZeros_0f7a4 v4) then 13 else (m_J6_numberOfTrailingZeros_0f7a4 v4))) ((hg (Int32.toNatClampNeg (if 14 < (m_J6_numberOfTrailingZeros_0f7a4 (v4 &&& (v4 - 1))) then 14 else (m_J6_numberOfTrailingZeros_0f7a4 (v4 &&& (v4 - 1)))))) &&& ((hc (Int32.toNatClampNeg (if 13 < (m_J6_numberOfTrailingZeros_0f7a4 v4) then 13 else (m_J6_numberOfTrailingZeros_0f7a4 v4)))) ^^^ (-1)))) (Int32.toNatClampNeg (if 13 < (m_J6_numberOfTrailingZeros_0f7a4 v4) then 13 else (m_J6_numberOfTrailingZeros_0f7a4 v4)))))), (2, .int v4), (7, .int (m_X0_costWith rc ec (m_J6_bitCount_0f7a4 v4) ((vp_updL lg (Int32.toNatClampNeg (if 13 < (m_J6_numberOfTrailingZeros_0f7a4 v4) then 13 else (m_J6_numberOfTrailingZeros_0f7a4 v4))) ((lg (Int32.toNatClampNeg (if 14 < (m_J6_numberOfTrailingZeros_0f7a4 (v4 &&& (v4 - 1))) then 14 else (m_J6_numberOfTrailingZeros_0f7a4 (v4 &&& (v4 - 1)))))) &&& ((lc (Int32.toNatClampNeg (if 13 < (m_J6_numberOfTrailingZeros_0f7a4 v4) then 13 else (m_J6_numberOfTrailingZeros_0f7a4 v4)))) ^^^ (-1)))) (Int32.toNatClampNeg (if 13 < (m_J6_numberOfTrailingZeros_0f7a4 v4) then 13 else (m_J6_numberOfTrailingZeros_0f7a4 v4)))) ((vp_updL hg (Int32.toNatClampNeg (if 13 < (m_J6_numberOfTrailingZeros_0f7a4 v4) then 13 else (m_J6_numberOfTrailingZeros_0f7a4 v4))) ((hg (Int32.toNatClampNeg (if 14 < (m_J6_numberOfTrailingZeros_0f7a4 (v4 &&& (v4 - 1))) then 14 else (m_J6_numberOfTrailingZeros_0f7a4 (v4 &&& (v4 - 1)))))) &&& ((hc (Int32.toNatClampNeg (if 13 < (m_J6_numberOfTrailingZeros_0f7a4 v4) then 13 else (m_J6_numberOfTrailingZeros_0f7a4 v4)))) ^^^ (-1)))) (Int32.toNatClampNeg (if 13 < (m_J6_numberOfTrailingZeros_0f7a4 v4) then 13 else (m_J6_numberOfTrailingZeros_0f7a4 v4)))))), (6, .int (if 14 < (m_J6_numberOfTrailingZeros_0f7a4 (v4 &&& (v4 - 1))) then 14 else (m_J6_numberOfTrailingZeros_0f7a4 (v4 &&& (v4 - 1))))), (5, .int (if 13 < (m_J6_numberOfTrailingZeros_0f7a4 v4) then 13 else (m_J6_numberOfTrailingZeros_0f7a4 v4))), (0, .ref x0), (1, .int v1), (4, .int v4)]) hx hb dX0_bestChoice_161 rfl hl (by decide) rfl (fun ls hl => ?_)
          refine lv_iinc (v := (v4 + 1)) (lv' := [(4, .int (v4 + 1)), (3, .int (m_X0_costWith rc ec (m_J6_bitCount_0f7a4 v4) ((vp_updL lg (Int32.toNatClampNeg (if 13 < (m_J6_numberOfTrailingZeros_0f7a4 v4) then 13 else (m_J6_numberOfTrailingZeros_0f7a4 v4))) ((lg (Int32.toNatClampNeg (if 14 < (m_J6_numberOfTrailingZeros_0f7a4 (v4 &&& (v4 - 1))) then 14 else (m_J6_numberOfTrailingZeros_0f7a4 (v4 &&& (v4 - 1)))))) &&& ((lc (Int32.toNatClampNeg (if 13 < (m_J6_numberOfTrailingZeros_0f7a4 v4) then 13 else (m_J6_numberOfTrailingZeros_0f7a4 v4)))) ^^^ (-1)))) (Int32.toNatClampNeg (if 13 < (m_J6_numberOfTrailingZeros_0f7a4 v4) then 13 else (m_J6_numberOfTrailingZeros_0f7a4 v4)))) ((vp_updL hg (Int32.toNatClampNeg (if 13 < (m_J6_numberOfTrailingZeros_0f7a4 v4) then 13 else (m_J6_numberOfTrailingZeros_0f7a4 v4))) ((hg (Int32.toNatClampNeg (if 14 < (m_J6_numberOfTrailingZeros_0f7a4 (v4 &&& (v4 - 1))) then 14 else (m_J6_numberOfTrailingZeros_0f7a4 (v4 &&& (v4 - 1)))))) &&& ((hc (Int32.toNatClampNeg (if 13 < (m_J6_numberOfTrailingZeros_0f7a4 v4) then 13 else (m_J6_numberOfTrailingZeros_0f7a4 v4)))) ^^^ (-1)))) (Int32.toNatClampNeg (if 13 < (m_J6_numberOfTrailingZeros_0f7a4 v4) then 13 else (m_J6_numberOfTrailingZeros_0f7a4 v4)))))), (2, .int v4), (7, .int (m_X0_costWith rc ec (m_J6_bitCount_0f7a4 v4) ((vp_updL lg (Int32.toNatClampNeg (if 13 < (m_J6_numberOfTrailingZeros_0f7a4 v4) then 13 else (m_J6_numberOfTrailingZeros_0f7a4 v4))) ((lg (Int32.toNatClampNeg (if 14 < (m_J6_numberOfTrailingZeros_0f7a4 (v4 &&& (v4 - 1))) then 14 else (m_J6_numberOfTrailingZeros_0f7a4 (v4 &&& (v4 - 1)))))) &&& ((lc (Int32.toNatClampNeg (if 13 < (m_J6_numberOfTrailingZeros_0f7a4 v4) then 13 else (m_J6_numberOfTrailingZeros_0f7a4 v4)))) ^^^ (-1)))) (Int32.toNatClampNeg (if 13 < (m_J6_numberOfTrailingZeros_0f7a4 v4) then 13 else (m_J6_numberOfTrailingZeros_0f7a4 v4)))) ((vp_updL hg (Int32.toNatClampNeg (if 13 < (m_J6_numberOfTrailingZeros_0f7a4 v4) then 13 else (m_J6_numberOfTrailingZeros_0f7a4 v4))) ((hg (Int32.toNatClampNeg (if 14 < (m_J6_numberOfTrailingZeros_0f7a4 (v4 &&& (v4 - 1))) then 14 else (m_J6_numberOfTrailingZeros_0f7a4 (v4 &&& (v4 - 1)))))) &&& ((hc (Int32.toNatClampNeg (if 13 < (m_J6_numberOfTrailingZeros_0f7a4 v4) then 13 else (m_J6_numberOfTrailingZeros_0f7a4 v4)))) ^^^ (-1)))) (Int32.toNatClampNeg (if 13 < (m_J6_numberOfTrailingZeros_0f7a4 v4) then 13 else (m_J6_numberOfTrailingZeros_0f7a4 v4)))))), (6, .int (if 14 < (m_J6_numberOfTrailingZeros_0f7a4 (v4 &&& (v4 - 1))) then 14 else (m_J6_numberOfTrailingZeros_0f7a4 (v4 &&& (v4 - 1))))), (5, .int (if 13 < (m_J6_numberOfTrailingZeros_0f7a4 v4) then 13 else (m_J6_numberOfTrailingZeros_0f7a4 v4))), (0, .ref x0), (1, .int v1)]) hx hb dX0_bestChoice_162 hl (k := 7) rfl rfl (by decide) rfl (fun ls hl => ?_)
          refine lv_goto (tgt := 23) hx hb dX0_bestChoice_165 (by decide) ?_
          exact ih v1 v4 (m_X0_costWith rc ec (m_J6_bitCount_0f7a4 v4) ((vp_updL lg (Int32.toNatClampNeg (if 13 < (m_J6_numberOfTrailingZeros_0f7a4 v4) then 13 else (m_J6_numberOfTrailingZeros_0f7a4 v4))) ((lg (Int32.toNatClampNeg (if 14 < (m_J6_numberOfTrailingZeros_0f7a4 (v4 &&& (v4 - 1))) then 14 else (m_J6_numberOfTrailingZeros_0f7a4 (v4 &&& (v4 - 1)))))) &&& ((lc (Int32.toNatClampNeg (if 13 < (m_J6_numberOfTrailingZeros_0f7a4 v4) then 13 else (m_J6_numberOfTrailingZeros_0f7a4 v4)))) ^^^ (-1)))) (Int32.toNatClampNeg (if 13 < (m_J6_numberOfTrailingZeros_0f7a4 v4) then 13 else (m_J6_numberOfTrailingZeros_0f7a4 v4)))) ((vp_updL hg (Int32.toNatClampNeg (if 13 < (m_J6_numberOfTrailingZeros_0f7a4 v4) then 13 else (m_J6_numberOfTrailingZeros_0f7a4 v4))) ((hg (Int32.toNatClampNeg (if 14 < (m_J6_numberOfTrailingZeros_0f7a4 (v4 &&& (v4 - 1))) then 14 else (m_J6_numberOfTrailingZeros_0f7a4 (v4 &&& (v4 - 1)))))) &&& ((hc (Int32.toNatClampNeg (if 13 < (m_J6_numberOfTrailingZeros_0f7a4 v4) then 13 else (m_J6_numberOfTrailingZeros_0f7a4 v4)))) ^^^ (-1)))) (Int32.toNatClampNeg (if 13 < (m_J6_numberOfTrailingZeros_0f7a4 v4) then 13 else (m_J6_numberOfTrailingZeros_0f7a4 v4))))) (v4 + 1) (vp_updL lg (Int32.toNatClampNeg (if 13 < (m_J6_numberOfTrailingZeros_0f7a4 v4) then 13 else (m_J6_numberOfTrailingZeros_0f7a4 v4))) ((lg (Int32.toNatClampNeg (if 14 < (m_J6_numberOfTrailingZeros_0f7a4 (v4 &&& (v4 - 1))) then 14 else (m_J6_numberOfTrailingZeros_0f7a4 (v4 &&& (v4 - 1)))))) &&& ((lc (Int32.toNatClampNeg (if 13 < (m_J6_numberOfTrailingZeros_0f7a4 v4) then 13 else (m_J6_numberOfTrailingZeros_0f7a4 v4)))) ^^^ (-1)))) (vp_updL hg (Int32.toNatClampNeg (if 13 < (m_J6_numberOfTrailingZeros_0f7a4 v4) then 13 else (m_J6_numberOfTrailingZeros_0f7a4 v4))) ((hg (Int32.toNatClampNeg (if 14 < (m_J6_numberOfTrailingZeros_0f7a4 (v4 &&& (v4 - 1))) then 14 else (m_J6_numberOfTrailingZeros_0f7a4 (v4 &&& (v4 - 1)))))) &&& ((hc (Int32.toNatClampNeg (if 13 < (m_J6_numberOfTrailingZeros_0f7a4 v4) then 13 else (m_J6_numberOfTrailingZeros_0f7a4 v4)))) ^^^ (-1)))) _ _ _ h hP hD hS (lv_sub hl [6, 7, 2, 1, 0] rfl)
        · replace h := (if_neg c_7).symm.trans h
          refine lv_iload hx hb dX0_bestChoice_141 (lv_at hl 0 rfl) ?_
          refine lv_iload_n hx hb dX0_bestChoice_143 rfl (lv_at hl 6 rfl) ?_
          refine lv_icmp_ne (tgt := 162) hx hb dX0_bestChoice_144 (by decide) (fun c_8 => ?_) (fun c_8 => ?_)
          · replace h := (if_neg c_8).symm.trans h
            refine lv_iinc (v := (v4 + 1)) (lv' := [(4, .int (v4 + 1)), (7, .int (m_X0_costWith rc ec (m_J6_bitCount_0f7a4 v4) ((vp_updL lg (Int32.toNatClampNeg (if 13 < (m_J6_numberOfTrailingZeros_0f7a4 v4) then 13 else (m_J6_numberOfTrailingZeros_0f7a4 v4))) ((lg (Int32.toNatClampNeg (if 14 < (m_J6_numberOfTrailingZeros_0f7a4 (v4 &&& (v4 - 1))) then 14 else (m_J6_numberOfTrailingZeros_0f7a4 (v4 &&& (v4 - 1)))))) &&& ((lc (Int32.toNatClampNeg (if 13 < (m_J6_numberOfTrailingZeros_0f7a4 v4) then 13 else (m_J6_numberOfTrailingZeros_0f7a4 v4)))) ^^^ (-1)))) (Int32.toNatClampNeg (if 13 < (m_J6_numberOfTrailingZeros_0f7a4 v4) then 13 else (m_J6_numberOfTrailingZeros_0f7a4 v4)))) ((vp_updL hg (Int32.toNatClampNeg (if 13 < (m_J6_numberOfTrailingZeros_0f7a4 v4) then 13 else (m_J6_numberOfTrailingZeros_0f7a4 v4))) ((hg (Int32.toNatClampNeg (if 14 < (m_J6_numberOfTrailingZeros_0f7a4 (v4 &&& (v4 - 1))) then 14 else (m_J6_numberOfTrailingZeros_0f7a4 (v4 &&& (v4 - 1)))))) &&& ((hc (Int32.toNatClampNeg (if 13 < (m_J6_numberOfTrailingZeros_0f7a4 v4) then 13 else (m_J6_numberOfTrailingZeros_0f7a4 v4)))) ^^^ (-1)))) (Int32.toNatClampNeg (if 13 < (m_J6_numberOfTrailingZeros_0f7a4 v4) then 13 else (m_J6_numberOfTrailingZeros_0f7a4 v4)))))), (6, .int (if 14 < (m_J6_numberOfTrailingZeros_0f7a4 (v4 &&& (v4 - 1))) then 14 else (m_J6_numberOfTrailingZeros_0f7a4 (v4 &&& (v4 - 1))))), (5, .int (if 13 < (m_J6_numberOfTrailingZeros_0f7a4 v4) then 13 else (m_J6_numberOfTrailingZeros_0f7a4 v4))), (0, .ref x0), (1, .int v1), (2, .int v2), (3, .int v3)]) hx hb dX0_bestChoice_162 hl (k := 7) rfl rfl (by decide) rfl (fun ls hl => ?_)
            refine lv_goto (tgt := 23) hx hb dX0_bestChoice_165 (by decide) ?_
            exact ih v1 v2 v3 (v4 + 1) (vp_updL lg (Int32.toNatClampNeg (if 13 < (m_J6_numberOfTrailingZeros_0f7a4 v4) then 13 else (m_J6_numberOfTrailingZeros_0f7a4 v4))) ((lg (Int32.toNatClampNeg (if 14 < (m_J6_numberOfTrailingZeros_0f7a4 (v4 &&& (v4 - 1))) then 14 else (m_J6_numberOfTrailingZeros_0f7a4 (v4 &&& (v4 - 1)))))) &&& ((lc (Int32.toNatClampNeg (if 13 < (m_J6_numberOfTrailingZeros_0f7a4 v4) then 13 else (m_J6_numberOfTrailingZeros_0f7a4 v4)))) ^^^ (-1)))) (vp_updL hg (Int32.toNatClampNeg (if 13 < (m_J6_numberOfTrailingZeros_0f7a4 v4) then 13 else (m_J6_numberOfTrailingZeros_0f7a4 v4))) ((hg (Int32.toNatClampNeg (if 14 < (m_J6_numberOfTrailingZeros_0f7a4 (v4 &&& (v4 - 1))) then 14 else (m_J6_numberOfTrailingZeros_0f7a4 (v4 &&& (v4 - 1)))))) &&& ((hc (Int32.toNatClampNeg (if 13 < (m_J6_numberOfTrailingZeros_0f7a4 v4) then 13 else (m_J6_numberOfTrailingZeros_0f7a4 v4)))) ^^^ (-1)))) _ _ _ h hP hD hS (lv_sub hl [4, 5, 6, 7, 0] rfl)
          · replace h := (if_pos c_8).symm.trans h
            refine lv_iload hx hb dX0_bestChoice_147 (lv_at hl 7 rfl) ?_
            refine lv_iload_n hx hb dX0_bestChoice_149 rfl (lv_at hl 5 rfl) ?_
            refine cl_Si0 (As := [.int v4, .int v2]) (rest := []) ⟨hx, hb, hml, hown, hts⟩ (c_X0_comesBefore l D _ v4 v2) (va_cwS 2 hts gX0_bestChoice_X0_comesBefore rfl rfl rfl (by decide +kernel) ⟨Nat.le_of_ble_eq_true rfl, Nat.le_of_ble_eq_true rfl⟩) hK hP hD hS hA rfl rfl hl.1 rfl (lv_room (Nat.le_of_ble_eq_true rfl)) dX0_bestChoice_150 (fun H locs hP hD hS => ?_)
            refine lv_if_eq (tgt := 162) hx hb dX0_bestChoice_153 (by decide) (fun c_9 => ?_) (fun c_9 => ?_)
            · replace h := (if_pos c_9).symm.trans h
              refine lv_iinc (v := (v4 + 1)) (lv' := [(4, .int (v4 + 1)), (7, .int (m_X0_costWith rc ec (m_J6_bitCount_0f7a4 v4) ((vp_updL lg (Int32.toNatClampNeg (if 13 < (m_J6_numberOfTrailingZeros_0f7a4 v4) then 13 else (m_J6_numberOfTrailingZeros_0f7a4 v4))) ((lg (Int32.toNatClampNeg (if 14 < (m_J6_numberOfTrailingZeros_0f7a4 (v4 &&& (v4 - 1))) then 14 else (m_J6_numberOfTrailingZeros_0f7a4 (v4 &&& (v4 - 1)))))) &&& ((lc (Int32.toNatClampNeg (if 13 < (m_J6_numberOfTrailingZeros_0f7a4 v4) then 13 else (m_J6_numberOfTrailingZeros_0f7a4 v4)))) ^^^ (-1)))) (Int32.toNatClampNeg (if 13 < (m_J6_numberOfTrailingZeros_0f7a4 v4) then 13 else (m_J6_numberOfTrailingZeros_0f7a4 v4)))) ((vp_updL hg (Int32.toNatClampNeg (if 13 < (m_J6_numberOfTrailingZeros_0f7a4 v4) then 13 else (m_J6_numberOfTrailingZeros_0f7a4 v4))) ((hg (Int32.toNatClampNeg (if 14 < (m_J6_numberOfTrailingZeros_0f7a4 (v4 &&& (v4 - 1))) then 14 else (m_J6_numberOfTrailingZeros_0f7a4 (v4 &&& (v4 - 1)))))) &&& ((hc (Int32.toNatClampNeg (if 13 < (m_J6_numberOfTrailingZeros_0f7a4 v4) then 13 else (m_J6_numberOfTrailingZeros_0f7a4 v4)))) ^^^ (-1)))) (Int32.toNatClampNeg (if 13 < (m_J6_numberOfTrailingZeros_0f7a4 v4) then 13 else (m_J6_numberOfTrailingZeros_0f7a4 v4)))))), (6, .int (if 14 < (m_J6_numberOfTrailingZeros_0f7a4 (v4 &&& (v4 - 1))) then 14 else (m_J6_numberOfTrailingZeros_0f7a4 (v4 &&& (v4 - 1))))), (5, .int (if 13 < (m_J6_numberOfTrailingZeros_0f7a4 v4) then 13 else (m_J6_numberOfTrailingZeros_0f7a4 v4))), (0, .ref x0), (1, .int v1), (2, .int v2), (3, .int v3)]) hx hb dX0_bestChoice_162 hl (k := 7) rfl rfl (by decide) rfl (fun ls hl => ?_)
              refine lv_goto (tgt := 23) hx hb dX0_bestChoice_165 (by decide) ?_
              exact ih v1 v2 v3 (v4 + 1) (vp_updL lg (Int32.toNatClampNeg (if 13 < (m_J6_numberOfTrailingZeros_0f7a4 v4) then 13 else (m_J6_numberOfTrailingZeros_0f7a4 v4))) ((lg (Int32.toNatClampNeg (if 14 < (m_J6_numberOfTrailingZeros_0f7a4 (v4 &&& (v4 - 1))) then 14 else (m_J6_numberOfTrailingZeros_0f7a4 (v4 &&& (v4 - 1)))))) &&& ((lc (Int32.toNatClampNeg (if 13 < (m_J6_numberOfTrailingZeros_0f7a4 v4) then 13 else (m_J6_numberOfTrailingZeros_0f7a4 v4)))) ^^^ (-1)))) (vp_updL hg (Int32.toNatClampNeg (if 13 < (m_J6_numberOfTrailingZeros_0f7a4 v4) then 13 else (m_J6_numberOfTrailingZeros_0f7a4 v4))) ((hg (Int32.toNatClampNeg (if 14 < (m_J6_numberOfTrailingZeros_0f7a4 (v4 &&& (v4 - 1))) then 14 else (m_J6_numberOfTrailingZeros_0f7a4 (v4 &&& (v4 - 1)))))) &&& ((hc (Int32.toNatClampNeg (if 13 < (m_J6_numberOfTrailingZeros_0f7a4 v4) then 13 else (m_J6_numberOfTrailingZeros_0f7a4 v4)))) ^^^ (-1)))) _ _ _ h hP hD hS (lv_sub hl [4, 5, 6, 7, 0] rfl)
            · replace h := (if_neg c_9).symm.trans h
              refine lv_iload hx hb dX0_bestChoice_156 (lv_at hl 7 rfl) ?_
              refine lv_istore_n (lv' := [(2, .int v4), (7, .int (m_X0_costWith rc ec (m_J6_bitCount_0f7a4 v4) ((vp_updL lg (Int32.toNatClampNeg (if 13 < (m_J6_numberOfTrailingZeros_0f7a4 v4) then 13 else (m_J6_numberOfTrailingZeros_0f7a4 v4))) ((lg (Int32.toNatClampNeg (if 14 < (m_J6_numberOfTrailingZeros_0f7a4 (v4 &&& (v4 - 1))) then 14 else (m_J6_numberOfTrailingZeros_0f7a4 (v4 &&& (v4 - 1)))))) &&& ((lc (Int32.toNatClampNeg (if 13 < (m_J6_numberOfTrailingZeros_0f7a4 v4) then 13 else (m_J6_numberOfTrailingZeros_0f7a4 v4)))) ^^^ (-1)))) (Int32.toNatClampNeg (if 13 < (m_J6_numberOfTrailingZeros_0f7a4 v4) then 13 else (m_J6_numberOfTrailingZeros_0f7a4 v4)))) ((vp_updL hg (Int32.toNatClampNeg (if 13 < (m_J6_numberOfTrailingZeros_0f7a4 v4) then 13 else (m_J6_numberOfTrailingZeros_0f7a4 v4))) ((hg (Int32.toNatClampNeg (if 14 < (m_J6_numberOfTrailingZeros_0f7a4 (v4 &&& (v4 - 1))) then 14 else (m_J6_numberOfTrailingZeros_0f7a4 (v4 &&& (v4 - 1)))))) &&& ((hc (Int32.toNatClampNeg (if 13 < (m_J6_numberOfTrailingZeros_0f7a4 v4) then 13 else (m_J6_numberOfTrailingZeros_0f7a4 v4)))) ^^^ (-1)))) (Int32.toNatClampNeg (if 13 < (m_J6_numberOfTrailingZeros_0f7a4 v4) then 13 else (m_J6_numberOfTrailingZeros_0f7a4 v4)))))), (6, .int (if 14 < (m_J6_numberOfTrailingZeros_0f7a4 (v4 &&& (v4 - 1))) then 14 else (m_J6_numberOfTrailingZeros_0f7a4 (v4 &&& (v4 - 1))))), (5, .int (if 13 < (m_J6_numberOfTrailingZeros_0f7a4 v4) then 13 else (m_J6_numberOfTrailingZeros_0f7a4 v4))), (0, .ref x0), (1, .int v1), (3, .int v3), (4, .int v4)]) hx hb dX0_bestChoice_158 rfl hl (by decide) rfl (fun ls hl => ?_)
              refine lv_iload hx hb dX0_bestChoice_159 (lv_at hl 1 rfl) ?_
              refine lv_istore_n (lv' := [(3, .int (m_X0_costWith rc ec (m_J6_bitCount_0f7a4 v4) ((vp_updL lg (Int32.toNatClampNeg (if 13 < (m_J6_numberOfTrailingZeros_0f7a4 v4) then 13 else (m_J6_numberOfTrailingZeros_0f7a4 v4))) ((lg (Int32.toNatClampNeg (if 14 < (m_J6_numberOfTrailingZeros_0f7a4 (v4 &&& (v4 - 1))) then 14 else (m_J6_numberOfTrailingZeros_0f7a4 (v4 &&& (v4 - 1)))))) &&& ((lc (Int32.toNatClampNeg (if 13 < (m_J6_numberOfTrailingZeros_0f7a4 v4) then 13 else (m_J6_numberOfTrailingZeros_0f7a4 v4)))) ^^^ (-1)))) (Int32.toNatClampNeg (if 13 < (m_J6_numberOfTrailingZeros_0f7a4 v4) then 13 else (m_J6_numberOfTrailingZeros_0f7a4 v4)))) ((vp_updL hg (Int32.toNatClampNeg (if 13 < (m_J6_numberOfTrailingZeros_0f7a4 v4) then 13 else (m_J6_numberOfTrailingZeros_0f7a4 v4))) ((hg (Int32.toNatClampNeg (if 14 < (m_J6_numberOfTrailingZeros_0f7a4 (v4 &&& (v4 - 1))) then 14 else (m_J6_numberOfTrailingZeros_0f7a4 (v4 &&& (v4 - 1)))))) &&& ((hc (Int32.toNatClampNeg (if 13 < (m_J6_numberOfTrailingZeros_0f7a4 v4) then 13 else (m_J6_numberOfTrailingZeros_0f7a4 v4)))) ^^^ (-1)))) (Int32.toNatClampNeg (if 13 < (m_J6_numberOfTrailingZeros_0f7a4 v4) then 13 else (m_J6_numberOfTrailingZeros_0f7a4 v4)))))), (2, .int v4), (7, .int (m_X0_costWith rc ec (m_J6_bitCount_0f7a4 v4) ((vp_updL lg (Int32.toNatClampNeg (if 13 < (m_J6_numberOfTrailingZeros_0f7a4 v4) then 13 else (m_J6_numberOfTrailingZeros_0f7a4 v4))) ((lg (Int32.toNatClampNeg (if 14 < (m_J6_numberOfTrailingZeros_0f7a4 (v4 &&& (v4 - 1))) then 14 else (m_J6_numberOfTrailingZeros_0f7a4 (v4 &&& (v4 - 1)))))) &&& ((lc (Int32.toNatClampNeg (if 13 < (m_J6_numberOfTrailingZeros_0f7a4 v4) then 13 else (m_J6_numberOfTrailingZeros_0f7a4 v4)))) ^^^ (-1)))) (Int32.toNatClampNeg (if 13 < (m_J6_numberOfTrailingZeros_0f7a4 v4) then 13 else (m_J6_numberOfTrailingZeros_0f7a4 v4)))) ((vp_updL hg (Int32.toNatClampNeg (if 13 < (m_J6_numberOfTrailingZeros_0f7a4 v4) then 13 else (m_J6_numberOfTrailingZeros_0f7a4 v4))) ((hg (Int32.toNatClampNeg (if 14 < (m_J6_numberOfTrailingZeros_0f7a4 (v4 &&& (v4 - 1))) then 14 else (m_J6_numberOfTrailingZeros_0f7a4 (v4 &&& (v4 - 1)))))) &&& ((hc (Int32.toNatClampNeg (if 13 < (m_J6_numberOfTrailingZeros_0f7a4 v4) then 13 else (m_J6_numberOfTrailingZeros_0f7a4 v4)))) ^^^ (-1)))) (Int32.toNatClampNeg (if 13 < (m_J6_numberOfTrailingZeros_0f7a4 v4) then 13 else (m_J6_numberOfTrailingZeros_0f7a4 v4)))))), (6, .int (if 14 < (m_J6_numberOfTrailingZeros_0f7a4 (v4 &&& (v4 - 1))) then 14 else (m_J6_numberOfTrailingZeros_0f7a4 (v4 &&& (v4 - 1))))), (5, .int (if 13 < (m_J6_numberOfTrailingZeros_0f7a4 v4) then 13 else (m_J6_numberOfTrailingZeros_0f7a4 v4))), (0, .ref x0), (1, .int v1), (4, .int v4)]) hx hb dX0_bestChoice_161 rfl hl (by decide) rfl (fun ls hl => ?_)
              refine lv_iinc (v := (v4 + 1)) (lv' := [(4, .int (v4 + 1)), (3, .int (m_X0_costWith rc ec (m_J6_bitCount_0f7a4 v4) ((vp_updL lg (Int32.toNatClampNeg (if 13 < (m_J6_numberOfTrailingZeros_0f7a4 v4) then 13 else (m_J6_numberOfTrailingZeros_0f7a4 v4))) ((lg (Int32.toNatClampNeg (if 14 < (m_J6_numberOfTrailingZeros_0f7a4 (v4 &&& (v4 - 1))) then 14 else (m_J6_numberOfTrailingZeros_0f7a4 (v4 &&& (v4 - 1)))))) &&& ((lc (Int32.toNatClampNeg (if 13 < (m_J6_numberOfTrailingZeros_0f7a4 v4) then 13 else (m_J6_numberOfTrailingZeros_0f7a4 v4)))) ^^^ (-1)))) (Int32.toNatClampNeg (if 13 < (m_J6_numberOfTrailingZeros_0f7a4 v4) then 13 else (m_J6_numberOfTrailingZeros_0f7a4 v4)))) ((vp_updL hg (Int32.toNatClampNeg (if 13 < (m_J6_numberOfTrailingZeros_0f7a4 v4) then 13 else (m_J6_numberOfTrailingZeros_0f7a4 v4))) ((hg (Int32.toNatClampNeg (if 14 < (m_J6_numberOfTrailingZeros_0f7a4 (v4 &&& (v4 - 1))) then 14 else (m_J6_numberOfTrailingZeros_0f7a4 (v4 &&& (v4 - 1)))))) &&& ((hc (Int32.toNatClampNeg (if 13 < (m_J6_numberOfTrailingZeros_0f7a4 v4) then 13 else (m_J6_numberOfTrailingZeros_0f7a4 v4)))) ^^^ (-1)))) (Int32.toNatClampNeg (if 13 < (m_J6_numberOfTrailingZeros_0f7a4 v4) then 13 else (m_J6_numberOfTrailingZeros_0f7a4 v4)))))), (2, .int v4), (7, .int (m_X0_costWith rc ec (m_J6_bitCount_0f7a4 v4) ((vp_updL lg (Int32.toNatClampNeg (if 13 < (m_J6_numberOfTrailingZeros_0f7a4 v4) then 13 else (m_J6_numberOfTrailingZeros_0f7a4 v4))) ((lg (Int32.toNatClampNeg (if 14 < (m_J6_numberOfTrailingZeros_0f7a4 (v4 &&& (v4 - 1))) then 14 else (m_J6_numberOfTrailingZeros_0f7a4 (v4 &&& (v4 - 1)))))) &&& ((lc (Int32.toNatClampNeg (if 13 < (m_J6_numberOfTrailingZeros_0f7a4 v4) then 13 else (m_J6_numberOfTrailingZeros_0f7a4 v4)))) ^^^ (-1)))) (Int32.toNatClampNeg (if 13 < (m_J6_numberOfTrailingZeros_0f7a4 v4) then 13 else (m_J6_numberOfTrailingZeros_0f7a4 v4)))) ((vp_updL hg (Int32.toNatClampNeg (if 13 < (m_J6_numberOfTrailingZeros_0f7a4 v4) then 13 else (m_J6_numberOfTrailingZeros_0f7a4 v4))) ((hg (Int32.toNatClampNeg (if 14 < (m_J6_numberOfTrailingZeros_0f7a4 (v4 &&& (v4 - 1))) then 14 else (m_J6_numberOfTrailingZeros_0f7a4 (v4 &&& (v4 - 1)))))) &&& ((hc (Int32.toNatClampNeg (if 13 < (m_J6_numberOfTrailingZeros_0f7a4 v4) then 13 else (m_J6_numberOfTrailingZeros_0f7a4 v4)))) ^^^ (-1)))) (Int32.toNatClampNeg (if 13 < (m_J6_numberOfTrailingZeros_0f7a4 v4) then 13 else (m_J6_numberOfTrailingZeros_0f7a4 v4)))))), (6, .int (if 14 < (m_J6_numberOfTrailingZeros_0f7a4 (v4 &&& (v4 - 1))) then 14 else (m_J6_numberOfTrailingZeros_0f7a4 (v4 &&& (v4 - 1))))), (5, .int (if 13 < (m_J6_numberOfTrailingZeros_0f7a4 v4) then 13 else (m_J6_numberOfTrailingZeros_0f7a4 v4))), (0, .ref x0), (1, .int v1)]) hx hb dX0_bestChoice_162 hl (k := 7) rfl rfl (by decide) rfl (fun ls hl => ?_)
              refine lv_goto (tgt := 23) hx hb dX0_bestChoice_165 (by decide) ?_
              exact ih v1 v4 (m_X0_costWith rc ec (m_J6_bitCount_0f7a4 v4) ((vp_updL lg (Int32.toNatClampNeg (if 13 < (m_J6_numberOfTrailingZeros_0f7a4 v4) then 13 else (m_J6_numberOfTrailingZeros_0f7a4 v4))) ((lg (Int32.toNatClampNeg (if 14 < (m_J6_numberOfTrailingZeros_0f7a4 (v4 &&& (v4 - 1))) then 14 else (m_J6_numberOfTrailingZeros_0f7a4 (v4 &&& (v4 - 1)))))) &&& ((lc (Int32.toNatClampNeg (if 13 < (m_J6_numberOfTrailingZeros_0f7a4 v4) then 13 else (m_J6_numberOfTrailingZeros_0f7a4 v4)))) ^^^ (-1)))) (Int32.toNatClampNeg (if 13 < (m_J6_numberOfTrailingZeros_0f7a4 v4) then 13 else (m_J6_numberOfTrailingZeros_0f7a4 v4)))) ((vp_updL hg (Int32.toNatClampNeg (if 13 < (m_J6_numberOfTrailingZeros_0f7a4 v4) then 13 else (m_J6_numberOfTrailingZeros_0f7a4 v4))) ((hg (Int32.toNatClampNeg (if 14 < (m_J6_numberOfTrailingZeros_0f7a4 (v4 &&& (v4 - 1))) then 14 else (m_J6_numberOfTrailingZeros_0f7a4 (v4 &&& (v4 - 1)))))) &&& ((hc (Int32.toNatClampNeg (if 13 < (m_J6_numberOfTrailingZeros_0f7a4 v4) then 13 else (m_J6_numberOfTrailingZeros_0f7a4 v4)))) ^^^ (-1)))) (Int32.toNatClampNeg (if 13 < (m_J6_numberOfTrailingZeros_0f7a4 v4) then 13 else (m_J6_numberOfTrailingZeros_0f7a4 v4))))) (v4 + 1) (vp_updL lg (Int32.toNatClampNeg (if 13 < (m_J6_numberOfTrailingZeros_0f7a4 v4) then 13 else (m_J6_numberOfTrailingZeros_0f7a4 v4))) ((lg (Int32.toNatClampNeg (if 14 < (m_J6_numberOfTrailingZeros_0f7a4 (v4 &&& (v4 - 1))) then 14 else (m_J6_numberOfTrailingZeros_0f7a4 (v4 &&& (v4 - 1)))))) &&& ((lc (Int32.toNatClampNeg (if 13 < (m_J6_numberOfTrailingZeros_0f7a4 v4) then 13 else (m_J6_numberOfTrailingZeros_0f7a4 v4)))) ^^^ (-1)))) (vp_updL hg (Int32.toNatClampNeg (if 13 < (m_J6_numberOfTrailingZeros_0f7a4 v4) then 13 else (m_J6_numberOfTrailingZeros_0f7a4 v4))) ((hg (Int32.toNatClampNeg (if 14 < (m_J6_numberOfTrailingZeros_0f7a4 (v4 &&& (v4 - 1))) then 14 else (m_J6_numberOfTrailingZeros_0f7a4 (v4 &&& (v4 - 1)))))) &&& ((hc (Int32.toNatClampNeg (if 13 < (m_J6_numberOfTrailingZeros_0f7a4 v4) then 13 else (m_J6_numberOfTrailingZeros_0f7a4 v4)))) ^^^ (-1)))) _ _ _ h hP hD hS (lv_sub hl [6, 7, 2, 1, 0] rfl)
  rw [m_X0_bestChoice] at h
  refine lv_iconst (v := 1) hx hb dX0_bestChoice_0 (by decide) ?_
  refine lv_aload_n hx hb dX0_bestChoice_1 rfl (lv_at hl 0 rfl) ?_
  refine va_get (D := D) (ci := 0) (v := .int cn) (C := RX0) (T := TX0) (N := 16) hx hb hts hin hown hK hP 0 rfl rfl 11 (by decide) hw_0 (fun _ h9 => h9) rfl dX0_bestChoice_2 ?_
  refine lv_bipush (v := 14) hx hb dX0_bestChoice_5 (by decide) ?_
  refine va_mmin hx hb (hml.trans hl.1.symm) hown hw_1 hw_2 hw_3 hw_4 (Nat.le_of_ble_eq_true rfl) (Nat.le_of_ble_eq_true rfl) (Nat.zero_le _) (Nat.zero_le _) dX0_bestChoice_7 ?_
  refine lv_ishl hx hb dX0_bestChoice_10 ?_
  refine lv_istore_n (lv' := [(1, .int (1 <<< ((if 14 < cn then 14 else cn) &&& 31))), (0, .ref x0)]) hx hb dX0_bestChoice_11 rfl hl (by decide) rfl (fun ls hl => ?_)
  refine lv_iconst (v := 0) hx hb dX0_bestChoice_12 (by decide) ?_
  refine lv_istore_n (lv' := [(2, .int 0), (1, .int (1 <<< ((if 14 < cn then 14 else cn) &&& 31))), (0, .ref x0)]) hx hb dX0_bestChoice_13 rfl hl (by decide) rfl (fun ls hl => ?_)
  refine lv_aload_n hx hb dX0_bestChoice_14 rfl (lv_at hl 2 rfl) ?_
  refine lv_iconst (v := 0) hx hb dX0_bestChoice_15 (by decide) ?_
  obtain ⟨r_1, e_2, h⟩ := bnd1_some h
  refine cl_Vi (As := [.int 0]) (rest := []) (wc := wX cI cJ x0 x1 x2 x3 x4 x5 x6 x7 x8 x9 g rm op rc ec su pe qt rs rn cs cn lc hc lg hg) (w1 := wX cI cJ x0 x1 x2 x3 x4 x5 x6 x7 x8 x9 g rm op rc ec su pe qt rs rn cs cn lc hc lg hg) (wr := []) ⟨hx, hb, hml, hown, hts⟩ (c_X0_costOfChoice l D cI cJ x0 x1 x2 x3 x4 x5 x6 x7 x8 x9 _ g rm op rc ec su pe qt rs rn cs cn lc hc lg hg fu 0 r_1 e_2) (cwV 1 hts gX0_bestChoice_X0_costOfChoice rfl rfl rfl (by decide +kernel) ⟨Nat.le_of_ble_eq_true rfl, Nat.le_of_ble_eq_true rfl⟩) hK hP hD hS hA [0, 1, 2, 3, 4, 5, 6, 7, 8, 9] [] rfl rfl (by decide) (by decide) rfl rfl rfl rfl rfl hl.1 rfl (lv_room (Nat.le_of_ble_eq_true rfl)) dX0_bestChoice_16 (fun H locs hP hD hS => ?_)
  have hP : va_P D vwCl (wX cI cJ x0 x1 x2 x3 x4 x5 x6 x7 x8 x9 g rm op rc ec su pe qt rs rn cs cn lc hc lg hg) H := hP
  have hD : va_D A (wX cI cJ x0 x1 x2 x3 x4 x5 x6 x7 x8 x9 g rm op rc ec su pe qt rs rn cs cn lc hc lg hg) := hD
  refine lv_istore_n (lv' := [(3, .int r_1), (2, .int 0), (1, .int (1 <<< ((if 14 < cn then 14 else cn) &&& 31))), (0, .ref x0)]) hx hb dX0_bestChoice_19 rfl hl (by decide) rfl (fun ls hl => ?_)
  refine lv_iconst (v := 1) hx hb dX0_bestChoice_20 (by decide) ?_
  refine lv_istore (lv' := [(4, .int 1), (3, .int r_1), (2, .int 0), (1, .int (1 <<< ((if 14 < cn then 14 else cn) &&& 31))), (0, .ref x0)]) hx hb dX0_bestChoice_21 hl (by decide) rfl (fun ls hl => ?_)
  exact L23 fu (1 <<< ((if 14 < cn then 14 else cn) &&& 31)) 0 r_1 1 lg hg _ _ _ h hP hD hS (lv_sub hl [4, 3, 2, 1, 0] rfl)
-- X0_dropRoles
def m_X0_dropRoles (rn : Int32) : Option ((Int32) × ((Int32))) := some (rn, 0)
set_option maxHeartbeats 4000000 in
set_option maxRecDepth 100000 in
theorem c_X0_dropRoles (l : Launch) (D : va_G) (cI cJ : ClassId) (x0 x1 x2 x3 x4 x5 x6 x7 x8 x9 : Nat) (sz : Nat) (g : Nat → Int32) (rm : Nat → Int32) (op : Nat → Int32) (rc : Int32) (ec : Int32) (su : Int32) (pe : Int32) (qt : Int32) (rs : Nat → Int32) (rn : Int32) (cs : Nat → Int32) (cn : Int32) (lc : Nat → Int64) (hc : Nat → Int64) (lg : Nat → Int64) (hg : Nat → Int64) (r0 : Int32) (rn' : Int32) (h : m_X0_dropRoles rn = some (r0, rn')) : Met l yX0_dropRoles wsX0_dropRoles ({ frames := 0, cells := 0, slots := 0, locals := 0 }) (va_Pc [.ref x0] (bx_Pre D [(cI, .int), (cJ, .long)] (wX cI cJ x0 x1 x2 x3 x4 x5 x6 x7 x8 x9 g rm op rc ec su pe qt rs rn cs cn lc hc lg hg) sz)) (va_Qi (fun (r : Int32) (_ : Unit) => r = r0) (fun (_ : Unit) t => bx_Post D [(cI, .int), (cJ, .long)] (wX cI cJ x0 x1 x2 x3 x4 x5 x6 x7 x8 x9 g rm op rc ec su pe qt rs rn' cs cn lc hc lg hg) (va_A (wX cI cJ x0 x1 x2 x3 x4 x5 x6 x7 x8 x9 g rm op rc ec su pe qt rs rn cs cn lc hc lg hg) sz) t) (va_A (wX cI cJ x0 x1 x2 x3 x4 x5 x6 x7 x8 x9 g rm op rc ec su pe qt rs rn cs cn lc hc lg hg) sz)) 0 0 (va_A (wX cI cJ x0 x1 x2 x3 x4 x5 x6 x7 x8 x9 g rm op rc ec su pe qt rs rn cs cn lc hc lg hg) sz) := by
  refine Met.ofW (cc := cX0_dropRoles) (maxL := 2) (ret := (some .int)) (by decide) rfl ?_
  intro p e s m args below meth c s₁ B hml hv
  obtain ⟨rfl, hsz, hP, hK, hD0⟩ := hv
  have hx := B.exec
  have hb := B.bytes
  have hr := B.returns
  have hts := atoms_spec (ws := wsX0_dropRoles) B.pre
  have hown : s.vm.findClass RX0 = some m.cls := findClass_of_methodNamed B.named
  have hlocks := B.notSynchronized
  subst hsz
  have hD := hD0.self (sz := s.heap.size)
  generalize hAe : va_A (wX cI cJ x0 x1 x2 x3 x4 x5 x6 x7 x8 x9 g rm op rc ec su pe qt rs rn cs cn lc hc lg hg) s.heap.size = A at hD ⊢
  have hA : ∀ q : Nat, s.heap.size ≤ q → A q := fun q h9 => by rw [← hAe]; exact Or.inr h9
  have hS : va_S A s.heap s.heap [] := va_S.rf
  have hin : ∀ w ∈ wsX00, w ∈ wsX0_dropRoles := fun _ h9 => List.mem_cons_of_mem _ (List.mem_append_right _ h9)
  have hw_0 := hts (.fieldLink RX0 38 "RoleMiner" "roleCount" "I") (by decide +kernel)
  have hl := lv_entry ([.ref x0]) (n := 2) (Nat.le_of_ble_eq_true rfl)
  rw [lg_entry_eq]
  generalize (lg_sl ([.ref x0]) ++ List.replicate (2 - (lg_sl ([.ref x0])).length) Slot.unset).toArray = ls at hl ⊢
  have hl : lv_has ls 2 [(0, .ref x0)] := hl
  rw [m_X0_dropRoles] at h
  refine lv_aload_n hx hb dX0_dropRoles_0 rfl (lv_at hl 0 rfl) ?_
  refine va_get (D := D) (ci := 0) (v := .int rn) (C := RX0) (T := TX0) (N := 16) hx hb hts hin hown hK hP 0 rfl rfl 9 (by decide) hw_0 (fun _ h9 => h9) rfl dX0_dropRoles_1 ?_
  refine lv_istore_n (lv' := [(1, .int rn), (0, .ref x0)]) hx hb dX0_dropRoles_4 rfl hl (by decide) rfl (fun ls hl => ?_)
  refine lv_aload_n hx hb dX0_dropRoles_5 rfl (lv_at hl 1 rfl) ?_
  refine lv_iconst (v := 0) hx hb dX0_dropRoles_6 (by decide) ?_
  refine va_put (D := D) (ci := 0) (v := .int 0) (ty := .int) (C := RX0) (T := TX0) (N := 16) hx hb hts hin tyX0 tyX0_ok nmX0 hown hK hP hD hS 0 rfl rfl 9 (by decide) hw_0 (fun _ h9 => h9) rfl (by decide +kernel) rfl rfl (Nat.le_of_ble_eq_true rfl) dX0_dropRoles_7 (fun H locs hP hD hS => ?_)
  have hP : va_P D vwCl (wX cI cJ x0 x1 x2 x3 x4 x5 x6 x7 x8 x9 g rm op rc ec su pe qt rs 0 cs cn lc hc lg hg) H := hP
  have hD : va_D A (wX cI cJ x0 x1 x2 x3 x4 x5 x6 x7 x8 x9 g rm op rc ec su pe qt rs 0 cs cn lc hc lg hg) := hD
  refine lv_iload_n hx hb dX0_dropRoles_10 rfl (lv_at hl 0 rfl) ?_
  cases h
  exact W.iret hx hb hr (fun t ht hW => ⟨⟨_, (), rfl, rfl, by rw [ht]; exact hP, va_K.moved hW.alike hK, hD⟩, hS.F ht⟩) hS.2.2 dX0_dropRoles_11
-- X0_grants
def m_X0_grants_4 (fu : Nat) (g : Nat → Int32) : Nat → Int32 → Int32 → Option ((Int32))
  | 0, _, _ => none
  | n + 1, v1, v2 => (if 8 ≤ v2 then some v1 else (ix v2 8 (m_X0_grants_4 fu g n (v1 + (m_J6_bitCount_0f7a4 (g (Int32.toNatClampNeg v2)))) (v2 + 1))))
def m_X0_grants (fu : Nat) (g : Nat → Int32) : Option ((Int32)) := (m_X0_grants_4 fu g fu 0 0)
set_option maxHeartbeats 4000000 in
set_option maxRecDepth 100000 in
theorem c_X0_grants (l : Launch) (D : va_G) (cI cJ : ClassId) (x0 x1 x2 x3 x4 x5 x6 x7 x8 x9 : Nat) (sz : Nat) (g : Nat → Int32) (rm : Nat → Int32) (op : Nat → Int32) (rc : Int32) (ec : Int32) (su : Int32) (pe : Int32) (qt : Int32) (rs : Nat → Int32) (rn : Int32) (cs : Nat → Int32) (cn : Int32) (lc : Nat → Int64) (hc : Nat → Int64) (lg : Nat → Int64) (hg : Nat → Int64) (fu : Nat) (r0 : Int32) (h : m_X0_grants fu g = some r0) : Met l yX0_grants wsX0_grants ({ frames := 1, cells := 0, slots := 0, locals := 20 }) (va_Pc [.ref x0] (bx_Pre D [(cI, .int), (cJ, .long)] (wX cI cJ x0 x1 x2 x3 x4 x5 x6 x7 x8 x9 g rm op rc ec su pe qt rs rn cs cn lc hc lg hg) sz)) (va_Qi (fun (r : Int32) (_ : Unit) => r = r0) (fun (_ : Unit) t => bx_Post D [(cI, .int), (cJ, .long)] (wX cI cJ x0 x1 x2 x3 x4 x5 x6 x7 x8 x9 g rm op rc ec su pe qt rs rn cs cn lc hc lg hg) (va_A (wX cI cJ x0 x1 x2 x3 x4 x5 x6 x7 x8 x9 g rm op rc ec su pe qt rs rn cs cn lc hc lg hg) sz) t) (va_A (wX cI cJ x0 x1 x2 x3 x4 x5 x6 x7 x8 x9 g rm op rc ec su pe qt rs rn cs cn lc hc lg hg) sz)) 0 0 (va_A (wX cI cJ x0 x1 x2 x3 x4 x5 x6 x7 x8 x9 g rm op rc ec su pe qt rs rn cs cn lc hc lg hg) sz) := by
  refine Met.ofW (cc := cX0_grants) (maxL := 3) (ret := (some .int)) (by decide) rfl ?_
  intro p e s m args below meth c s₁ B hml hv
  obtain ⟨rfl, hsz, hP, hK, hD0⟩ := hv
  have hx := B.exec
  have hb := B.bytes
  have hr := B.returns
  have hts := atoms_spec (ws := wsX0_grants) B.pre
  have hown : s.vm.findClass RX0 = some m.cls := findClass_of_methodNamed B.named
  have hlocks := B.notSynchronized
  subst hsz
  have hD := hD0.self (sz := s.heap.size)
  generalize hAe : va_A (wX cI cJ x0 x1 x2 x3 x4 x5 x6 x7 x8 x9 g rm op rc ec su pe qt rs rn cs cn lc hc lg hg) s.heap.size = A at hD ⊢
  have hA : ∀ q : Nat, s.heap.size ≤ q → A q := fun q h9 => by rw [← hAe]; exact Or.inr h9
  have hS : va_S A s.heap s.heap [] := va_S.rf
  have hin : ∀ w ∈ wsX00, w ∈ wsX0_grants := fun _ h9 => List.mem_cons_of_mem _ (List.mem_append_right _ h9)
  have hw_0 := hts (.fieldLink RX0 9 "RoleMiner" "granted" "[I") (by decide +kernel)
  have hl := lv_entry ([.ref x0]) (n := 3) (Nat.le_of_ble_eq_true rfl)
  rw [lg_entry_eq]
  generalize (lg_sl ([.ref x0]) ++ List.replicate (3 - (lg_sl ([.ref x0])).length) Slot.unset).toArray = ls at hl ⊢
  have hl : lv_has ls 3 [(0, .ref x0)] := hl
  have L4 : ∀ (n : Nat) (v1 : Int32) (v2 : Int32) (H : Heap) (locs : List Loc) (ls : Array Slot), m_X0_grants_4 fu g n v1 v2 = some r0 → va_P D vwCl (wX cI cJ x0 x1 x2 x3 x4 x5 x6 x7 x8 x9 g rm op rc ec su pe qt rs rn cs cn lc hc lg hg) H → va_D A (wX cI cJ x0 x1 x2 x3 x4 x5 x6 x7 x8 x9 g rm op rc ec su pe qt rs rn cs cn lc hc lg hg) → va_S A s.heap H locs → lv_has ls 3 [(0, .ref x0), (1, .int v1), (2, .int v2)] → W p l e (headSpec wsX0_grants ({ frames := 1, cells := 0, slots := 0, locals := 20 })).room s m ([.ref x0] : List Value).toArray below meth c H locs 0 0 (MQ below (va_Qi (fun (r : Int32) (_ : Unit) => r = r0) (fun (_ : Unit) t => bx_Post D [(cI, .int), (cJ, .long)] (wX cI cJ x0 x1 x2 x3 x4 x5 x6 x7 x8 x9 g rm op rc ec su pe qt rs rn cs cn lc hc lg hg) A t) A) ([.ref x0] : List Value).toArray s 0 0 A) (F0 m 4 ls []) := by
    intro n
    induction n with
    | zero =>
      intro v1 v2 H locs ls h
      rw [m_X0_grants_4] at h
      cases h
    | succ n ih =>
      intro v1 v2 H locs ls h hP hD hS hl
      rw [m_X0_grants_4] at h
      refine lv_iload_n hx hb dX0_grants_4 rfl (lv_at hl 2 rfl) ?_
      refine lv_bipush (v := 8) hx hb dX0_grants_5 (by decide) ?_
      refine lv_icmp_ge (tgt := 28) hx hb dX0_grants_7 (by decide) (fun c_1 => ?_) (fun c_1 => ?_)
      · replace h := (if_pos c_1).symm.trans h
        refine lv_iload_n hx hb dX0_grants_28 rfl (lv_at hl 1 rfl) ?_
        cases h
        exact W.iret hx hb hr (fun t ht hW => ⟨⟨_, (), rfl, rfl, by rw [ht]; exact hP, va_K.moved hW.alike hK, hD⟩, hS.F ht⟩) hS.2.2 dX0_grants_29
      · replace h := (if_neg c_1).symm.trans h
        refine lv_iload_n hx hb dX0_grants_10 rfl (lv_at hl 1 rfl) ?_
        refine lv_aload_n hx hb dX0_grants_11 rfl (lv_at hl 0 rfl) ?_
        refine va_get (D := D) (ci := 0) (v := .ref x1) (C := RX0) (T := TX0) (N := 16) hx hb hts hin hown hK hP 0 rfl rfl 0 (by decide) hw_0 (fun _ h9 => h9) rfl dX0_grants_12 ?_
        refine lv_iload_n hx hb dX0_grants_15 rfl (lv_at hl 2 rfl) ?_
        obtain ⟨h_2, h⟩ := ix_some h
        refine va_iald hx hb hK hP 1 0 rfl rfl h_2 dX0_grants_16 ?_
        refine cl_Si0 (As := [.int (g (Int32.toNatClampNeg v2))]) (rest := [.int v1]) ⟨hx, hb, hml, hown, hts⟩ (c_J6_bitCount_0f7a4 l D _ (g (Int32.toNatClampNeg v2))) (va_cwS 1 hts gX0_grants_J6_bitCount_0f7a4 rfl rfl rfl (by decide +kernel) ⟨Nat.le_of_ble_eq_true rfl, Nat.le_of_ble_eq_true rfl⟩) hK hP hD hS hA rfl rfl hl.1 rfl (lv_room (Nat.le_of_ble_eq_true rfl)) dX0_grants_17 (fun H locs hP hD hS => ?_)
        refine lv_iadd hx hb dX0_grants_20 ?_
        refine lv_istore_n (lv' := [(1, .int (v1 + (m_J6_bitCount_0f7a4 (g (Int32.toNatClampNeg v2))))), (0, .ref x0), (2, .int v2)]) hx hb dX0_grants_21 rfl hl (by decide) rfl (fun ls hl => ?_)
        refine lv_iinc (v := (v2 + 1)) (lv' := [(2, .int (v2 + 1)), (1, .int (v1 + (m_J6_bitCount_0f7a4 (g (Int32.toNatClampNeg v2))))), (0, .ref x0)]) hx hb dX0_grants_22 hl (k := 2) rfl rfl (by decide) rfl (fun ls hl => ?_)
        refine lv_goto (tgt := 4) hx hb dX0_grants_25 (by decide) ?_
        exact ih (v1 + (m_J6_bitCount_0f7a4 (g (Int32.toNatClampNeg v2)))) (v2 + 1) _ _ _ h hP hD hS (lv_sub hl [2, 1, 0] rfl)
  rw [m_X0_grants] at h
  refine lv_iconst (v := 0) hx hb dX0_grants_0 (by decide) ?_
  refine lv_istore_n (lv' := [(1, .int 0), (0, .ref x0)]) hx hb dX0_grants_1 rfl hl (by decide) rfl (fun ls hl => ?_)
  refine lv_iconst (v := 0) hx hb dX0_grants_2 (by decide) ?_
  refine lv_istore_n (lv' := [(2, .int 0), (1, .int 0), (0, .ref x0)]) hx hb dX0_grants_3 rfl hl (by decide) rfl (fun ls hl => ?_)
  exact L4 fu 0 0 _ _ _ h hP hD hS (lv_sub hl [2, 1, 0] rfl)
-- X0_quarter
def m_X0_quarter (qt : Int32) : (Int32) := qt
set_option maxHeartbeats 4000000 in
set_option maxRecDepth 100000 in
theorem c_X0_quarter (l : Launch) (D : va_G) (cI cJ : ClassId) (x0 x1 x2 x3 x4 x5 x6 x7 x8 x9 : Nat) (sz : Nat) (g : Nat → Int32) (rm : Nat → Int32) (op : Nat → Int32) (rc : Int32) (ec : Int32) (su : Int32) (pe : Int32) (qt : Int32) (rs : Nat → Int32) (rn : Int32) (cs : Nat → Int32) (cn : Int32) (lc : Nat → Int64) (hc : Nat → Int64) (lg : Nat → Int64) (hg : Nat → Int64) : Met l yX0_quarter wsX0_quarter ({ frames := 0, cells := 0, slots := 0, locals := 0 }) (va_Pc [.ref x0] (bx_Pre D [(cI, .int), (cJ, .long)] (wX cI cJ x0 x1 x2 x3 x4 x5 x6 x7 x8 x9 g rm op rc ec su pe qt rs rn cs cn lc hc lg hg) sz)) (va_Qi (fun (r : Int32) (_ : Unit) => r = m_X0_quarter qt) (fun (_ : Unit) t => bx_Post D [(cI, .int), (cJ, .long)] (wX cI cJ x0 x1 x2 x3 x4 x5 x6 x7 x8 x9 g rm op rc ec su pe qt rs rn cs cn lc hc lg hg) (va_A (wX cI cJ x0 x1 x2 x3 x4 x5 x6 x7 x8 x9 g rm op rc ec su pe qt rs rn cs cn lc hc lg hg) sz) t) (va_A (wX cI cJ x0 x1 x2 x3 x4 x5 x6 x7 x8 x9 g rm op rc ec su pe qt rs rn cs cn lc hc lg hg) sz)) 0 0 (va_A (wX cI cJ x0 x1 x2 x3 x4 x5 x6 x7 x8 x9 g rm op rc ec su pe qt rs rn cs cn lc hc lg hg) sz) := by
  refine Met.ofW (cc := cX0_quarter) (maxL := 1) (ret := (some .int)) (by decide) rfl ?_
  intro p e s m args below meth c s₁ B hml hv
  obtain ⟨rfl, hsz, hP, hK, hD0⟩ := hv
  have hx := B.exec
  have hb := B.bytes
  have hr := B.returns
  have hts := atoms_spec (ws := wsX0_quarter) B.pre
  have hown : s.vm.findClass RX0 = some m.cls := findClass_of_methodNamed B.named
  have hlocks := B.notSynchronized
  subst hsz
  have hD := hD0.self (sz := s.heap.size)
  generalize hAe : va_A (wX cI cJ x0 x1 x2 x3 x4 x5 x6 x7 x8 x9 g rm op rc ec su pe qt rs rn cs cn lc hc lg hg) s.heap.size = A at hD ⊢
  have hA : ∀ q : Nat, s.heap.size ≤ q → A q := fun q h9 => by rw [← hAe]; exact Or.inr h9
  have hS : va_S A s.heap s.heap [] := va_S.rf
  have hin : ∀ w ∈ wsX00, w ∈ wsX0_quarter := fun _ h9 => List.mem_cons_of_mem _ (List.mem_append_right _ h9)
  have hw_0 := hts (.fieldLink RX0 32 "RoleMiner" "quarter" "I") (by decide +kernel)
  have hl := lv_entry ([.ref x0]) (n := 1) (Nat.le_of_ble_eq_true rfl)
  rw [lg_entry_eq]
  generalize (lg_sl ([.ref x0]) ++ List.replicate (1 - (lg_sl ([.ref x0])).length) Slot.unset).toArray = ls at hl ⊢
  have hl : lv_has ls 1 [(0, .ref x0)] := hl
  refine lv_aload_n hx hb dX0_quarter_0 rfl (lv_at hl 0 rfl) ?_
  refine va_get (D := D) (ci := 0) (v := .int qt) (C := RX0) (T := TX0) (N := 16) hx hb hts hin hown hK hP 0 rfl rfl 7 (by decide) hw_0 (fun _ h9 => h9) rfl dX0_quarter_1 ?_
  exact W.iret hx hb hr (fun t ht hW => ⟨⟨_, (), rfl, (by rw [m_X0_quarter]), by rw [ht]; exact hP, va_K.moved hW.alike hK, hD⟩, hS.F ht⟩) hS.2.2 dX0_quarter_4
-- X0_candidates
def m_X0_candidates (fu : Nat) (g : Nat → Int32) (op : Nat → Int32) (su : Int32) (cs : Nat → Int32) (cn : Int32) (lc : Nat → Int64) (hc : Nat → Int64) (lg : Nat → Int64) (hg : Nat → Int64) : Option ((Int32) × ((Nat → Int32)) × ((Int32)) × ((Nat → Int64)) × ((Nat → Int64)) × ((Nat → Int64)) × ((Nat → Int64))) := (bnd6 (m_X0_findCandidates fu g op su cs cn lc hc lg hg) (fun cs_1 cn_2 lc_3 hc_4 lg_5 hg_6 => some (cn_2, cs_1, cn_2, lc_3, hc_4, lg_5, hg_6)))
set_option maxHeartbeats 4000000 in
set_option maxRecDepth 100000 in
theorem c_X0_candidates (l : Launch) (D : va_G) (cI cJ : ClassId) (x0 x1 x2 x3 x4 x5 x6 x7 x8 x9 : Nat) (sz : Nat) (g : Nat → Int32) (rm : Nat → Int32) (op : Nat → Int32) (rc : Int32) (ec : Int32) (su : Int32) (pe : Int32) (qt : Int32) (rs : Nat → Int32) (rn : Int32) (cs : Nat → Int32) (cn : Int32) (lc : Nat → Int64) (hc : Nat → Int64) (lg : Nat → Int64) (hg : Nat → Int64) (fu : Nat) (r0 : Int32) (cs' : Nat → Int32) (cn' : Int32) (lc' : Nat → Int64) (hc' : Nat → Int64) (lg' : Nat → Int64) (hg' : Nat → Int64) (h : m_X0_candidates fu g op su cs cn lc hc lg hg = some (r0, cs', cn', lc', hc', lg', hg')) : Met l yX0_candidates wsX0_candidates ({ frames := 3, cells := 0, slots := 0, locals := 72 }) (va_Pc [.ref x0] (bx_Pre D [(cI, .int), (cJ, .long)] (wX cI cJ x0 x1 x2 x3 x4 x5 x6 x7 x8 x9 g rm op rc ec su pe qt rs rn cs cn lc hc lg hg) sz)) (va_Qi (fun (r : Int32) (_ : Unit) => r = r0) (fun (_ : Unit) t => bx_Post D [(cI, .int), (cJ, .long)] (wX cI cJ x0 x1 x2 x3 x4 x5 x6 x7 x8 x9 g rm op rc ec su pe qt rs rn cs' cn' lc' hc' lg' hg') (va_A (wX cI cJ x0 x1 x2 x3 x4 x5 x6 x7 x8 x9 g rm op rc ec su pe qt rs rn cs cn lc hc lg hg) sz) t) (va_A (wX cI cJ x0 x1 x2 x3 x4 x5 x6 x7 x8 x9 g rm op rc ec su pe qt rs rn cs cn lc hc lg hg) sz)) 0 0 (va_A (wX cI cJ x0 x1 x2 x3 x4 x5 x6 x7 x8 x9 g rm op rc ec su pe qt rs rn cs cn lc hc lg hg) sz) := by
  refine Met.ofW (cc := cX0_candidates) (maxL := 1) (ret := (some .int)) (by decide) rfl ?_
  intro p e s m args below meth c s₁ B hml hv
  obtain ⟨rfl, hsz, hP, hK, hD0⟩ := hv
  have hx := B.exec
  have hb := B.bytes
  have hr := B.returns
  have hts := atoms_spec (ws := wsX0_candidates) B.pre
  have hown : s.vm.findClass RX0 = some m.cls := findClass_of_methodNamed B.named
  have hlocks := B.notSynchronized
  subst hsz
  have hD := hD0.self (sz := s.heap.size)
  generalize hAe : va_A (wX cI cJ x0 x1 x2 x3 x4 x5 x6 x7 x8 x9 g rm op rc ec su pe qt rs rn cs cn lc hc lg hg) s.heap.size = A at hD ⊢
  have hA : ∀ q : Nat, s.heap.size ≤ q → A q := fun q h9 => by rw [← hAe]; exact Or.inr h9
  have hS : va_S A s.heap s.heap [] := va_S.rf
  have hin : ∀ w ∈ wsX00, w ∈ wsX0_candidates := fun _ h9 => List.mem_cons_of_mem _ (List.mem_append_right _ h9)
  have hw_0 := hts (.fieldLink RX0 44 "RoleMiner" "candidateCount" "I") (by decide +kernel)
  have hl := lv_entry ([.ref x0]) (n := 1) (Nat.le_of_ble_eq_true rfl)
  rw [lg_entry_eq]
  generalize (lg_sl ([.ref x0]) ++ List.replicate (1 - (lg_sl ([.ref x0])).length) Slot.unset).toArray = ls at hl ⊢
  have hl : lv_has ls 1 [(0, .ref x0)] := hl
  rw [m_X0_candidates] at h
  refine lv_aload_n hx hb dX0_candidates_0 rfl (lv_at hl 0 rfl) ?_
  obtain ⟨cs_1, cn_2, lc_3, hc_4, lg_5, hg_6, e_7, h⟩ := bnd6_some h
  refine cl_Vv (As := []) (rest := []) (wc := wX cI cJ x0 x1 x2 x3 x4 x5 x6 x7 x8 x9 g rm op rc ec su pe qt rs rn cs cn lc hc lg hg) (w1 := wX cI cJ x0 x1 x2 x3 x4 x5 x6 x7 x8 x9 g rm op rc ec su pe qt rs rn cs_1 cn_2 lc_3 hc_4 lg_5 hg_6) (wr := []) ⟨hx, hb, hml, hown, hts⟩ (c_X0_findCandidates l D cI cJ x0 x1 x2 x3 x4 x5 x6 x7 x8 x9 _ g rm op rc ec su pe qt rs rn cs cn lc hc lg hg fu  cs_1 cn_2 lc_3 hc_4 lg_5 hg_6 e_7) (cwV 0 hts gX0_candidates_X0_findCandidates rfl rfl rfl (by decide +kernel) ⟨Nat.le_of_ble_eq_true rfl, Nat.le_of_ble_eq_true rfl⟩) hK hP hD hS hA [0, 1, 2, 3, 4, 5, 6, 7, 8, 9] [] rfl rfl (by decide) (by decide) rfl rfl rfl rfl rfl hl.1 rfl (lv_room (Nat.le_of_ble_eq_true rfl)) dX0_candidates_1 (fun H locs hP hD hS => ?_)
  have hP : va_P D vwCl (wX cI cJ x0 x1 x2 x3 x4 x5 x6 x7 x8 x9 g rm op rc ec su pe qt rs rn cs_1 cn_2 lc_3 hc_4 lg_5 hg_6) H := hP
  have hD : va_D A (wX cI cJ x0 x1 x2 x3 x4 x5 x6 x7 x8 x9 g rm op rc ec su pe qt rs rn cs_1 cn_2 lc_3 hc_4 lg_5 hg_6) := hD
  refine lv_aload_n hx hb dX0_candidates_4 rfl (lv_at hl 0 rfl) ?_
  refine va_get (D := D) (ci := 0) (v := .int cn_2) (C := RX0) (T := TX0) (N := 16) hx hb hts hin hown hK hP 0 rfl rfl 11 (by decide) hw_0 (fun _ h9 => h9) rfl dX0_candidates_5 ?_
  cases h
  exact W.iret hx hb hr (fun t ht hW => ⟨⟨_, (), rfl, rfl, by rw [ht]; exact hP, va_K.moved hW.alike hK, hD⟩, hS.F ht⟩) hS.2.2 dX0_candidates_8
-- X0_roles
def m_X0_roles (rn : Int32) : (Int32) := rn
set_option maxHeartbeats 4000000 in
set_option maxRecDepth 100000 in
theorem c_X0_roles (l : Launch) (D : va_G) (cI cJ : ClassId) (x0 x1 x2 x3 x4 x5 x6 x7 x8 x9 : Nat) (sz : Nat) (g : Nat → Int32) (rm : Nat → Int32) (op : Nat → Int32) (rc : Int32) (ec : Int32) (su : Int32) (pe : Int32) (qt : Int32) (rs : Nat → Int32) (rn : Int32) (cs : Nat → Int32) (cn : Int32) (lc : Nat → Int64) (hc : Nat → Int64) (lg : Nat → Int64) (hg : Nat → Int64) : Met l yX0_roles wsX0_roles ({ frames := 0, cells := 0, slots := 0, locals := 0 }) (va_Pc [.ref x0] (bx_Pre D [(cI, .int), (cJ, .long)] (wX cI cJ x0 x1 x2 x3 x4 x5 x6 x7 x8 x9 g rm op rc ec su pe qt rs rn cs cn lc hc lg hg) sz)) (va_Qi (fun (r : Int32) (_ : Unit) => r = m_X0_roles rn) (fun (_ : Unit) t => bx_Post D [(cI, .int), (cJ, .long)] (wX cI cJ x0 x1 x2 x3 x4 x5 x6 x7 x8 x9 g rm op rc ec su pe qt rs rn cs cn lc hc lg hg) (va_A (wX cI cJ x0 x1 x2 x3 x4 x5 x6 x7 x8 x9 g rm op rc ec su pe qt rs rn cs cn lc hc lg hg) sz) t) (va_A (wX cI cJ x0 x1 x2 x3 x4 x5 x6 x7 x8 x9 g rm op rc ec su pe qt rs rn cs cn lc hc lg hg) sz)) 0 0 (va_A (wX cI cJ x0 x1 x2 x3 x4 x5 x6 x7 x8 x9 g rm op rc ec su pe qt rs rn cs cn lc hc lg hg) sz) := by
  refine Met.ofW (cc := cX0_roles) (maxL := 1) (ret := (some .int)) (by decide) rfl ?_
  intro p e s m args below meth c s₁ B hml hv
  obtain ⟨rfl, hsz, hP, hK, hD0⟩ := hv
  have hx := B.exec
  have hb := B.bytes
  have hr := B.returns
  have hts := atoms_spec (ws := wsX0_roles) B.pre
  have hown : s.vm.findClass RX0 = some m.cls := findClass_of_methodNamed B.named
  have hlocks := B.notSynchronized
  subst hsz
  have hD := hD0.self (sz := s.heap.size)
  generalize hAe : va_A (wX cI cJ x0 x1 x2 x3 x4 x5 x6 x7 x8 x9 g rm op rc ec su pe qt rs rn cs cn lc hc lg hg) s.heap.size = A at hD ⊢
  have hA : ∀ q : Nat, s.heap.size ≤ q → A q := fun q h9 => by rw [← hAe]; exact Or.inr h9
  have hS : va_S A s.heap s.heap [] := va_S.rf
  have hin : ∀ w ∈ wsX00, w ∈ wsX0_roles := fun _ h9 => List.mem_cons_of_mem _ (List.mem_append_right _ h9)
  have hw_0 := hts (.fieldLink RX0 38 "RoleMiner" "roleCount" "I") (by decide +kernel)
  have hl := lv_entry ([.ref x0]) (n := 1) (Nat.le_of_ble_eq_true rfl)
  rw [lg_entry_eq]
  generalize (lg_sl ([.ref x0]) ++ List.replicate (1 - (lg_sl ([.ref x0])).length) Slot.unset).toArray = ls at hl ⊢
  have hl : lv_has ls 1 [(0, .ref x0)] := hl
  refine lv_aload_n hx hb dX0_roles_0 rfl (lv_at hl 0 rfl) ?_
  refine va_get (D := D) (ci := 0) (v := .int rn) (C := RX0) (T := TX0) (N := 16) hx hb hts hin hown hK hP 0 rfl rfl 9 (by decide) hw_0 (fun _ h9 => h9) rfl dX0_roles_1 ?_
  exact W.iret hx hb hr (fun t ht hW => ⟨⟨_, (), rfl, (by rw [m_X0_roles]), by rw [ht]; exact hP, va_K.moved hW.alike hK, hD⟩, hS.F ht⟩) hS.2.2 dX0_roles_4
-- X0_joinedRoles
def m_X0_joinedRoles_4 (fu : Nat) (g : Nat → Int32) (rs : Nat → Int32) (rn : Int32) (a1 : Int32) : Nat → Int32 → Int32 → Option ((Int32))
  | 0, _, _ => none
  | n + 1, v2, v3 => (if rn ≤ v3 then some v2 else (ix v3 255 (bnd1 (m_X0_holds g a1 (rs (Int32.toNatClampNeg v3))) (fun r_3 => (if r_3 = 0 then (m_X0_joinedRoles_4 fu g rs rn a1 n v2 (v3 + 1)) else (m_X0_joinedRoles_4 fu g rs rn a1 n (v2 ||| (rs (Int32.toNatClampNeg v3))) (v3 + 1)))))))
def m_X0_joinedRoles (fu : Nat) (g : Nat → Int32) (rs : Nat → Int32) (rn : Int32) (a1 : Int32) : Option ((Int32)) := (m_X0_joinedRoles_4 fu g rs rn a1 fu 0 0)
set_option maxHeartbeats 4000000 in
set_option maxRecDepth 100000 in
theorem c_X0_joinedRoles (l : Launch) (D : va_G) (cI cJ : ClassId) (x0 x1 x2 x3 x4 x5 x6 x7 x8 x9 : Nat) (sz : Nat) (g : Nat → Int32) (rm : Nat → Int32) (op : Nat → Int32) (rc : Int32) (ec : Int32) (su : Int32) (pe : Int32) (qt : Int32) (rs : Nat → Int32) (rn : Int32) (cs : Nat → Int32) (cn : Int32) (lc : Nat → Int64) (hc : Nat → Int64) (lg : Nat → Int64) (hg : Nat → Int64) (fu : Nat) (a1 : Int32) (r0 : Int32) (h : m_X0_joinedRoles fu g rs rn a1 = some r0) : Met l yX0_joinedRoles wsX0_joinedRoles ({ frames := 1, cells := 0, slots := 0, locals := 22 }) (va_Pc [.ref x0, .int a1] (bx_Pre D [(cI, .int), (cJ, .long)] (wX cI cJ x0 x1 x2 x3 x4 x5 x6 x7 x8 x9 g rm op rc ec su pe qt rs rn cs cn lc hc lg hg) sz)) (va_Qi (fun (r : Int32) (_ : Unit) => r = r0) (fun (_ : Unit) t => bx_Post D [(cI, .int), (cJ, .long)] (wX cI cJ x0 x1 x2 x3 x4 x5 x6 x7 x8 x9 g rm op rc ec su pe qt rs rn cs cn lc hc lg hg) (va_A (wX cI cJ x0 x1 x2 x3 x4 x5 x6 x7 x8 x9 g rm op rc ec su pe qt rs rn cs cn lc hc lg hg) sz) t) (va_A (wX cI cJ x0 x1 x2 x3 x4 x5 x6 x7 x8 x9 g rm op rc ec su pe qt rs rn cs cn lc hc lg hg) sz)) 0 0 (va_A (wX cI cJ x0 x1 x2 x3 x4 x5 x6 x7 x8 x9 g rm op rc ec su pe qt rs rn cs cn lc hc lg hg) sz) := by
  refine Met.ofW (cc := cX0_joinedRoles) (maxL := 4) (ret := (some .int)) (by decide) rfl ?_
  intro p e s m args below meth c s₁ B hml hv
  obtain ⟨rfl, hsz, hP, hK, hD0⟩ := hv
  have hx := B.exec
  have hb := B.bytes
  have hr := B.returns
  have hts := atoms_spec (ws := wsX0_joinedRoles) B.pre
  have hown : s.vm.findClass RX0 = some m.cls := findClass_of_methodNamed B.named
  have hlocks := B.notSynchronized
  subst hsz
  have hD := hD0.self (sz := s.heap.size)
  generalize hAe : va_A (wX cI cJ x0 x1 x2 x3 x4 x5 x6 x7 x8 x9 g rm op rc ec su pe qt rs rn cs cn lc hc lg hg) s.heap.size = A at hD ⊢
  have hA : ∀ q : Nat, s.heap.size ≤ q → A q := fun q h9 => by rw [← hAe]; exact Or.inr h9
  have hS : va_S A s.heap s.heap [] := va_S.rf
  have hin : ∀ w ∈ wsX00, w ∈ wsX0_joinedRoles := fun _ h9 => List.mem_cons_of_mem _ (List.mem_append_right _ h9)
  have hw_0 := hts (.fieldLink RX0 38 "RoleMiner" "roleCount" "I") (by decide +kernel)
  have hw_1 := hts (.fieldLink RX0 35 "RoleMiner" "roleSets" "[I") (by decide +kernel)
  have hl := lv_entry ([.ref x0, .int a1]) (n := 4) (Nat.le_of_ble_eq_true rfl)
  rw [lg_entry_eq]
  generalize (lg_sl ([.ref x0, .int a1]) ++ List.replicate (4 - (lg_sl ([.ref x0, .int a1])).length) Slot.unset).toArray = ls at hl ⊢
  have hl : lv_has ls 4 [(0, .ref x0), (1, .int a1)] := hl
  have L4 : ∀ (n : Nat) (v2 : Int32) (v3 : Int32) (H : Heap) (locs : List Loc) (ls : Array Slot), m_X0_joinedRoles_4 fu g rs rn a1 n v2 v3 = some r0 → va_P D vwCl (wX cI cJ x0 x1 x2 x3 x4 x5 x6 x7 x8 x9 g rm op rc ec su pe qt rs rn cs cn lc hc lg hg) H → va_D A (wX cI cJ x0 x1 x2 x3 x4 x5 x6 x7 x8 x9 g rm op rc ec su pe qt rs rn cs cn lc hc lg hg) → va_S A s.heap H locs → lv_has ls 4 [(0, .ref x0), (1, .int a1), (2, .int v2), (3, .int v3)] → W p l e (headSpec wsX0_joinedRoles ({ frames := 1, cells := 0, slots := 0, locals := 22 })).room s m ([.ref x0, .int a1] : List Value).toArray below meth c H locs 0 0 (MQ below (va_Qi (fun (r : Int32) (_ : Unit) => r = r0) (fun (_ : Unit) t => bx_Post D [(cI, .int), (cJ, .long)] (wX cI cJ x0 x1 x2 x3 x4 x5 x6 x7 x8 x9 g rm op rc ec su pe qt rs rn cs cn lc hc lg hg) A t) A) ([.ref x0, .int a1] : List Value).toArray s 0 0 A) (F0 m 4 ls []) := by
    intro n
    induction n with
    | zero =>
      intro v2 v3 H locs ls h
      rw [m_X0_joinedRoles_4] at h
      cases h
    | succ n ih =>
      intro v2 v3 H locs ls h hP hD hS hl
      rw [m_X0_joinedRoles_4] at h
      refine lv_iload_n hx hb dX0_joinedRoles_4 rfl (lv_at hl 3 rfl) ?_
      refine lv_aload_n hx hb dX0_joinedRoles_5 rfl (lv_at hl 0 rfl) ?_
      refine va_get (D := D) (ci := 0) (v := .int rn) (C := RX0) (T := TX0) (N := 16) hx hb hts hin hown hK hP 0 rfl rfl 9 (by decide) hw_0 (fun _ h9 => h9) rfl dX0_joinedRoles_6 ?_
      refine lv_icmp_ge (tgt := 41) hx hb dX0_joinedRoles_9 (by decide) (fun c_1 => ?_) (fun c_1 => ?_)
      · replace h := (if_pos c_1).symm.trans h
        refine lv_iload_n hx hb dX0_joinedRoles_41 rfl (lv_at hl 2 rfl) ?_
        cases h
        exact W.iret hx hb hr (fun t ht hW => ⟨⟨_, (), rfl, rfl, by rw [ht]; exact hP, va_K.moved hW.alike hK, hD⟩, hS.F ht⟩) hS.2.2 dX0_joinedRoles_42
      · replace h := (if_neg c_1).symm.trans h
        refine lv_aload_n hx hb dX0_joinedRoles_12 rfl (lv_at hl 0 rfl) ?_
        refine lv_iload_n hx hb dX0_joinedRoles_13 rfl (lv_at hl 1 rfl) ?_
        refine lv_aload_n hx hb dX0_joinedRoles_14 rfl (lv_at hl 0 rfl) ?_
        refine va_get (D := D) (ci := 0) (v := .ref x4) (C := RX0) (T := TX0) (N := 16) hx hb hts hin hown hK hP 0 rfl rfl 8 (by decide) hw_1 (fun _ h9 => h9) rfl dX0_joinedRoles_15 ?_
        refine lv_iload_n hx hb dX0_joinedRoles_18 rfl (lv_at hl 3 rfl) ?_
        obtain ⟨h_2, h⟩ := ix_some h
        refine va_iald hx hb hK hP 4 0 rfl rfl h_2 dX0_joinedRoles_19 ?_
        obtain ⟨r_3, e_4, h⟩ := bnd1_some h
        refine cl_Vi (As := [.int a1, .int (rs (Int32.toNatClampNeg v3))]) (rest := []) (wc := wX cI cJ x0 x1 x2 x3 x4 x5 x6 x7 x8 x9 g rm op rc ec su pe qt rs rn cs cn lc hc lg hg) (w1 := wX cI cJ x0 x1 x2 x3 x4 x5 x6 x7 x8 x9 g rm op rc ec su pe qt rs rn cs cn lc hc lg hg) (wr := []) ⟨hx, hb, hml, hown, hts⟩ (c_X0_holds l D cI cJ x0 x1 x2 x3 x4 x5 x6 x7 x8 x9 _ g rm op rc ec su pe qt rs rn cs cn lc hc lg hg a1 (rs (Int32.toNatClampNeg v3)) r_3 e_4) (cwV 2 hts gX0_joinedRoles_X0_holds rfl rfl rfl (by decide +kernel) ⟨Nat.le_of_ble_eq_true rfl, Nat.le_of_ble_eq_true rfl⟩) hK hP hD hS hA [0, 1, 2, 3, 4, 5, 6, 7, 8, 9] [] rfl rfl (by decide) (by decide) rfl rfl rfl rfl rfl hl.1 rfl (lv_room (Nat.le_of_ble_eq_true rfl)) dX0_joinedRoles_20 (fun H locs hP hD hS => ?_)
        have hP : va_P D vwCl (wX cI cJ x0 x1 x2 x3 x4 x5 x6 x7 x8 x9 g rm op rc ec su pe qt rs rn cs cn lc hc lg hg) H := hP
        have hD : va_D A (wX cI cJ x0 x1 x2 x3 x4 x5 x6 x7 x8 x9 g rm op rc ec su pe qt rs rn cs cn lc hc lg hg) := hD
        refine lv_if_eq (tgt := 35) hx hb dX0_joinedRoles_23 (by decide) (fun c_5 => ?_) (fun c_5 => ?_)
        · replace h := (if_pos c_5).symm.trans h
          refine lv_iinc (v := (v3 + 1)) (lv' := [(3, .int (v3 + 1)), (0, .ref x0), (1, .int a1), (2, .int v2)]) hx hb dX0_joinedRoles_35 hl (k := 3) rfl rfl (by decide) rfl (fun ls hl => ?_)
          refine lv_goto (tgt := 4) hx hb dX0_joinedRoles_38 (by decide) ?_
          exact ih v2 (v3 + 1) _ _ _ h hP hD hS (lv_sub hl [1, 2, 3, 0] rfl)
        · replace h := (if_neg c_5).symm.trans h
          refine lv_iload_n hx hb dX0_joinedRoles_26 rfl (lv_at hl 2 rfl) ?_
          refine lv_aload_n hx hb dX0_joinedRoles_27 rfl (lv_at hl 0 rfl) ?_
          refine va_get (D := D) (ci := 0) (v := .ref x4) (C := RX0) (T := TX0) (N := 16) hx hb hts hin hown hK hP 0 rfl rfl 8 (by decide) hw_1 (fun _ h9 => h9) rfl dX0_joinedRoles_28 ?_
          refine lv_iload_n hx hb dX0_joinedRoles_31 rfl (lv_at hl 3 rfl) ?_
          refine va_iald hx hb hK hP 4 0 rfl rfl h_2 dX0_joinedRoles_32 ?_
          refine lv_ior hx hb dX0_joinedRoles_33 ?_
          refine lv_istore_n (lv' := [(2, .int (v2 ||| (rs (Int32.toNatClampNeg v3)))), (0, .ref x0), (1, .int a1), (3, .int v3)]) hx hb dX0_joinedRoles_34 rfl hl (by decide) rfl (fun ls hl => ?_)
          refine lv_iinc (v := (v3 + 1)) (lv' := [(3, .int (v3 + 1)), (2, .int (v2 ||| (rs (Int32.toNatClampNeg v3)))), (0, .ref x0), (1, .int a1)]) hx hb dX0_joinedRoles_35 hl (k := 3) rfl rfl (by decide) rfl (fun ls hl => ?_)
          refine lv_goto (tgt := 4) hx hb dX0_joinedRoles_38 (by decide) ?_
          exact ih (v2 ||| (rs (Int32.toNatClampNeg v3))) (v3 + 1) _ _ _ h hP hD hS (lv_sub hl [2, 3, 1, 0] rfl)
  rw [m_X0_joinedRoles] at h
  refine lv_iconst (v := 0) hx hb dX0_joinedRoles_0 (by decide) ?_
  refine lv_istore_n (lv' := [(2, .int 0), (0, .ref x0), (1, .int a1)]) hx hb dX0_joinedRoles_1 rfl hl (by decide) rfl (fun ls hl => ?_)
  refine lv_iconst (v := 0) hx hb dX0_joinedRoles_2 (by decide) ?_
  refine lv_istore_n (lv' := [(3, .int 0), (2, .int 0), (0, .ref x0), (1, .int a1)]) hx hb dX0_joinedRoles_3 rfl hl (by decide) rfl (fun ls hl => ?_)
  exact L4 fu 0 0 _ _ _ h hP hD hS (lv_sub hl [2, 3, 1, 0] rfl)
-- X0_cost
def m_X0_cost_4 (fu : Nat) (g : Nat → Int32) (rc : Int32) (ec : Int32) (rs : Nat → Int32) (rn : Int32) : Nat → Int32 → Int32 → Option ((Int32))
  | 0, _, _ => none
  | n + 1, v1, v2 => (if 8 ≤ v2 then some ((rc * rn) + (ec * v1)) else (ix v2 8 (bnd1 (m_X0_joinedRoles fu g rs rn v2) (fun r_3 => (m_X0_cost_4 fu g rc ec rs rn n (v1 + (m_J6_bitCount_0f7a4 ((g (Int32.toNatClampNeg v2)) &&& (r_3 ^^^ (-1))))) (v2 + 1))))))
def m_X0_cost (fu : Nat) (g : Nat → Int32) (rc : Int32) (ec : Int32) (rs : Nat → Int32) (rn : Int32) : Option ((Int32)) := (m_X0_cost_4 fu g rc ec rs rn fu 0 0)
set_option maxHeartbeats 4000000 in
set_option maxRecDepth 100000 in
theorem c_X0_cost (l : Launch) (D : va_G) (cI cJ : ClassId) (x0 x1 x2 x3 x4 x5 x6 x7 x8 x9 : Nat) (sz : Nat) (g : Nat → Int32) (rm : Nat → Int32) (op : Nat → Int32) (rc : Int32) (ec : Int32) (su : Int32) (pe : Int32) (qt : Int32) (rs : Nat → Int32) (rn : Int32) (cs : Nat → Int32) (cn : Int32) (lc : Nat → Int64) (hc : Nat → Int64) (lg : Nat → Int64) (hg : Nat → Int64) (fu : Nat) (r0 : Int32) (h : m_X0_cost fu g rc ec rs rn = some r0) : Met l yX0_cost wsX0_cost ({ frames := 2, cells := 0, slots := 0, locals := 45 }) (va_Pc [.ref x0] (bx_Pre D [(cI, .int), (cJ, .long)] (wX cI cJ x0 x1 x2 x3 x4 x5 x6 x7 x8 x9 g rm op rc ec su pe qt rs rn cs cn lc hc lg hg) sz)) (va_Qi (fun (r : Int32) (_ : Unit) => r = r0) (fun (_ : Unit) t => bx_Post D [(cI, .int), (cJ, .long)] (wX cI cJ x0 x1 x2 x3 x4 x5 x6 x7 x8 x9 g rm op rc ec su pe qt rs rn cs cn lc hc lg hg) (va_A (wX cI cJ x0 x1 x2 x3 x4 x5 x6 x7 x8 x9 g rm op rc ec su pe qt rs rn cs cn lc hc lg hg) sz) t) (va_A (wX cI cJ x0 x1 x2 x3 x4 x5 x6 x7 x8 x9 g rm op rc ec su pe qt rs rn cs cn lc hc lg hg) sz)) 0 0 (va_A (wX cI cJ x0 x1 x2 x3 x4 x5 x6 x7 x8 x9 g rm op rc ec su pe qt rs rn cs cn lc hc lg hg) sz) := by
  refine Met.ofW (cc := cX0_cost) (maxL := 3) (ret := (some .int)) (by decide) rfl ?_
  intro p e s m args below meth c s₁ B hml hv
  obtain ⟨rfl, hsz, hP, hK, hD0⟩ := hv
  have hx := B.exec
  have hb := B.bytes
  have hr := B.returns
  have hts := atoms_spec (ws := wsX0_cost) B.pre
  have hown : s.vm.findClass RX0 = some m.cls := findClass_of_methodNamed B.named
  have hlocks := B.notSynchronized
  subst hsz
  have hD := hD0.self (sz := s.heap.size)
  generalize hAe : va_A (wX cI cJ x0 x1 x2 x3 x4 x5 x6 x7 x8 x9 g rm op rc ec su pe qt rs rn cs cn lc hc lg hg) s.heap.size = A at hD ⊢
  have hA : ∀ q : Nat, s.heap.size ≤ q → A q := fun q h9 => by rw [← hAe]; exact Or.inr h9
  have hS : va_S A s.heap s.heap [] := va_S.rf
  have hin : ∀ w ∈ wsX00, w ∈ wsX0_cost := fun _ h9 => List.mem_cons_of_mem _ (List.mem_append_right _ h9)
  have hw_0 := hts (.fieldLink RX0 19 "RoleMiner" "roleCost" "I") (by decide +kernel)
  have hw_1 := hts (.fieldLink RX0 38 "RoleMiner" "roleCount" "I") (by decide +kernel)
  have hw_2 := hts (.fieldLink RX0 23 "RoleMiner" "exceptionCost" "I") (by decide +kernel)
  have hw_3 := hts (.fieldLink RX0 9 "RoleMiner" "granted" "[I") (by decide +kernel)
  have hl := lv_entry ([.ref x0]) (n := 3) (Nat.le_of_ble_eq_true rfl)
  rw [lg_entry_eq]
  generalize (lg_sl ([.ref x0]) ++ List.replicate (3 - (lg_sl ([.ref x0])).length) Slot.unset).toArray = ls at hl ⊢
  have hl : lv_has ls 3 [(0, .ref x0)] := hl
  have L4 : ∀ (n : Nat) (v1 : Int32) (v2 : Int32) (H : Heap) (locs : List Loc) (ls : Array Slot), m_X0_cost_4 fu g rc ec rs rn n v1 v2 = some r0 → va_P D vwCl (wX cI cJ x0 x1 x2 x3 x4 x5 x6 x7 x8 x9 g rm op rc ec su pe qt rs rn cs cn lc hc lg hg) H → va_D A (wX cI cJ x0 x1 x2 x3 x4 x5 x6 x7 x8 x9 g rm op rc ec su pe qt rs rn cs cn lc hc lg hg) → va_S A s.heap H locs → lv_has ls 3 [(0, .ref x0), (1, .int v1), (2, .int v2)] → W p l e (headSpec wsX0_cost ({ frames := 2, cells := 0, slots := 0, locals := 45 })).room s m ([.ref x0] : List Value).toArray below meth c H locs 0 0 (MQ below (va_Qi (fun (r : Int32) (_ : Unit) => r = r0) (fun (_ : Unit) t => bx_Post D [(cI, .int), (cJ, .long)] (wX cI cJ x0 x1 x2 x3 x4 x5 x6 x7 x8 x9 g rm op rc ec su pe qt rs rn cs cn lc hc lg hg) A t) A) ([.ref x0] : List Value).toArray s 0 0 A) (F0 m 4 ls []) := by
    intro n
    induction n with
    | zero =>
      intro v1 v2 H locs ls h
      rw [m_X0_cost_4] at h
      cases h
    | succ n ih =>
      intro v1 v2 H locs ls h hP hD hS hl
      rw [m_X0_cost_4] at h
      refine lv_iload_n hx hb dX0_cost_4 rfl (lv_at hl 2 rfl) ?_
      refine lv_bipush (v := 8) hx hb dX0_cost_5 (by decide) ?_
      refine lv_icmp_ge (tgt := 36) hx hb dX0_cost_7 (by decide) (fun c_1 => ?_) (fun c_1 => ?_)
      · replace h := (if_pos c_1).symm.trans h
        refine lv_aload_n hx hb dX0_cost_36 rfl (lv_at hl 0 rfl) ?_
        refine va_get (D := D) (ci := 0) (v := .int rc) (C := RX0) (T := TX0) (N := 16) hx hb hts hin hown hK hP 0 rfl rfl 3 (by decide) hw_0 (fun _ h9 => h9) rfl dX0_cost_37 ?_
        refine lv_aload_n hx hb dX0_cost_40 rfl (lv_at hl 0 rfl) ?_
        refine va_get (D := D) (ci := 0) (v := .int rn) (C := RX0) (T := TX0) (N := 16) hx hb hts hin hown hK hP 0 rfl rfl 9 (by decide) hw_1 (fun _ h9 => h9) rfl dX0_cost_41 ?_
        refine lv_imul hx hb dX0_cost_44 ?_
        refine lv_aload_n hx hb dX0_cost_45 rfl (lv_at hl 0 rfl) ?_
        refine va_get (D := D) (ci := 0) (v := .int ec) (C := RX0) (T := TX0) (N := 16) hx hb hts hin hown hK hP 0 rfl rfl 4 (by decide) hw_2 (fun _ h9 => h9) rfl dX0_cost_46 ?_
        refine lv_iload_n hx hb dX0_cost_49 rfl (lv_at hl 1 rfl) ?_
        refine lv_imul hx hb dX0_cost_50 ?_
        refine lv_iadd hx hb dX0_cost_51 ?_
        cases h
        exact W.iret hx hb hr (fun t ht hW => ⟨⟨_, (), rfl, rfl, by rw [ht]; exact hP, va_K.moved hW.alike hK, hD⟩, hS.F ht⟩) hS.2.2 dX0_cost_52
      · replace h := (if_neg c_1).symm.trans h
        refine lv_iload_n hx hb dX0_cost_10 rfl (lv_at hl 1 rfl) ?_
        refine lv_aload_n hx hb dX0_cost_11 rfl (lv_at hl 0 rfl) ?_
        refine va_get (D := D) (ci := 0) (v := .ref x1) (C := RX0) (T := TX0) (N := 16) hx hb hts hin hown hK hP 0 rfl rfl 0 (by decide) hw_3 (fun _ h9 => h9) rfl dX0_cost_12 ?_
        refine lv_iload_n hx hb dX0_cost_15 rfl (lv_at hl 2 rfl) ?_
        obtain ⟨h_2, h⟩ := ix_some h
        refine va_iald hx hb hK hP 1 0 rfl rfl h_2 dX0_cost_16 ?_
        refine lv_aload_n hx hb dX0_cost_17 rfl (lv_at hl 0 rfl) ?_
        refine lv_iload_n hx hb dX0_cost_18 rfl (lv_at hl 2 rfl) ?_
        obtain ⟨r_3, e_4, h⟩ := bnd1_some h
        refine cl_Vi (As := [.int v2]) (rest := [.int (g (Int32.toNatClampNeg v2)), .int v1]) (wc := wX cI cJ x0 x1 x2 x3 x4 x5 x6 x7 x8 x9 g rm op rc ec su pe qt rs rn cs cn lc hc lg hg) (w1 := wX cI cJ x0 x1 x2 x3 x4 x5 x6 x7 x8 x9 g rm op rc ec su pe qt rs rn cs cn lc hc lg hg) (wr := []) ⟨hx, hb, hml, hown, hts⟩ (c_X0_joinedRoles l D cI cJ x0 x1 x2 x3 x4 x5 x6 x7 x8 x9 _ g rm op rc ec su pe qt rs rn cs cn lc hc lg hg fu v2 r_3 e_4) (cwV 1 hts gX0_cost_X0_joinedRoles rfl rfl rfl (by decide +kernel) ⟨Nat.le_of_ble_eq_true rfl, Nat.le_of_ble_eq_true rfl⟩) hK hP hD hS hA [0, 1, 2, 3, 4, 5, 6, 7, 8, 9] [] rfl rfl (by decide) (by decide) rfl rfl rfl rfl rfl hl.1 rfl (lv_room (Nat.le_of_ble_eq_true rfl)) dX0_cost_19 (fun H locs hP hD hS => ?_)
        have hP : va_P D vwCl (wX cI cJ x0 x1 x2 x3 x4 x5 x6 x7 x8 x9 g rm op rc ec su pe qt rs rn cs cn lc hc lg hg) H := hP
        have hD : va_D A (wX cI cJ x0 x1 x2 x3 x4 x5 x6 x7 x8 x9 g rm op rc ec su pe qt rs rn cs cn lc hc lg hg) := hD
        refine lv_iconst (v := (-1)) hx hb dX0_cost_22 (by decide) ?_
        refine lv_ixor hx hb dX0_cost_23 ?_
        refine lv_iand hx hb dX0_cost_24 ?_
        refine cl_Si0 (As := [.int ((g (Int32.toNatClampNeg v2)) &&& (r_3 ^^^ (-1)))]) (rest := [.int v1]) ⟨hx, hb, hml, hown, hts⟩ (c_J6_bitCount_0f7a4 l D _ ((g (Int32.toNatClampNeg v2)) &&& (r_3 ^^^ (-1)))) (va_cwS 1 hts gX0_cost_J6_bitCount_0f7a4 rfl rfl rfl (by decide +kernel) ⟨Nat.le_of_ble_eq_true rfl, Nat.le_of_ble_eq_true rfl⟩) hK hP hD hS hA rfl rfl hl.1 rfl (lv_room (Nat.le_of_ble_eq_true rfl)) dX0_cost_25 (fun H locs hP hD hS => ?_)
        refine lv_iadd hx hb dX0_cost_28 ?_
        refine lv_istore_n (lv' := [(1, .int (v1 + (m_J6_bitCount_0f7a4 ((g (Int32.toNatClampNeg v2)) &&& (r_3 ^^^ (-1)))))), (0, .ref x0), (2, .int v2)]) hx hb dX0_cost_29 rfl hl (by decide) rfl (fun ls hl => ?_)
        refine lv_iinc (v := (v2 + 1)) (lv' := [(2, .int (v2 + 1)), (1, .int (v1 + (m_J6_bitCount_0f7a4 ((g (Int32.toNatClampNeg v2)) &&& (r_3 ^^^ (-1)))))), (0, .ref x0)]) hx hb dX0_cost_30 hl (k := 2) rfl rfl (by decide) rfl (fun ls hl => ?_)
        refine lv_goto (tgt := 4) hx hb dX0_cost_33 (by decide) ?_
        exact ih (v1 + (m_J6_bitCount_0f7a4 ((g (Int32.toNatClampNeg v2)) &&& (r_3 ^^^ (-1))))) (v2 + 1) _ _ _ h hP hD hS (lv_sub hl [2, 1, 0] rfl)
  rw [m_X0_cost] at h
  refine lv_iconst (v := 0) hx hb dX0_cost_0 (by decide) ?_
  refine lv_istore_n (lv' := [(1, .int 0), (0, .ref x0)]) hx hb dX0_cost_1 rfl hl (by decide) rfl (fun ls hl => ?_)
  refine lv_iconst (v := 0) hx hb dX0_cost_2 (by decide) ?_
  refine lv_istore_n (lv' := [(2, .int 0), (1, .int 0), (0, .ref x0)]) hx hb dX0_cost_3 rfl hl (by decide) rfl (fun ls hl => ?_)
  exact L4 fu 0 0 _ _ _ h hP hD hS (lv_sub hl [2, 1, 0] rfl)
