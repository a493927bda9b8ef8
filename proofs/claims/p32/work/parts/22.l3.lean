-- users
def m_L_users_14 (fu : Nat) (g : Nat → Int32) (rm : Nat → Int32) (op : Nat → Int32) (rc : Int32) (ec : Int32) (pe : Int32) (qt : Int32) (rs : Nat → Int32) (rn : Int32) (b1 : Nat → Int32) (a2 : Int32) (a3 : Int32) : Nat → Nat → Int32 → Int32 → Int32 → Int32 → Int32 → Int32 → Int32 → Int32 → Option ((Int32))
  | 0, _, _, _, _, _, _, _, _, _ => none
  | n + 1, tg, v4, v5, v6, v7, v8, v9, v10, v11 => if tg = 0 then (if 8 ≤ v6 then (bnd1 (m_X0_cost fu g rc ec rs rn) (fun r_2 => (if r_2 = v4 then (bnd1 (m_X0_grants fu g) (fun r_5 => (if r_5 = v5 then some 1 else some 0))) else some 0))) else (br0 (m_X0_permissions g v6) (fun r_8 => (m_L_users_14 fu g rm op rc ec pe qt rs rn b1 a2 a3 n 1 v4 v5 v6 r_8 0 0 0 0)))) else if tg = 1 then (if (m_X0_roles rn) ≤ v11 then (m_L_users_14 fu g rm op rc ec pe qt rs rn b1 a2 a3 n 2 v4 v5 v6 v7 v8 v9 v10 0) else (br0 (m_X0_role rs rn v11) (fun r_11 => (if (r_11 &&& (v7 ^^^ (-1))) = 0 then (br0 (m_X0_role rs rn v11) (fun r_17 => (m_L_users_14 fu g rm op rc ec pe qt rs rn b1 a2 a3 n 1 v4 v5 v6 v7 (v8 ||| r_17) (v9 + 1) v10 (v11 + 1)))) else (m_L_users_14 fu g rm op rc ec pe qt rs rn b1 a2 a3 n 1 v4 v5 v6 v7 (v8 ||| 0) (v9 + 0) v10 (v11 + 1)))))) else (if 12 ≤ v11 then (br0 (m_X0_byRoles fu g rs rn v6) (fun r_21 => (if r_21 = v8 then (br0 (m_X0_rolesOf fu g rs rn v6) (fun r_24 => (if r_24 = v9 then (br0 (m_X0_exceptions fu g rs rn v6) (fun r_27 => (if r_27 = (v7 &&& (v8 ^^^ (-1))) then (br0 (m_X0_due fu g rm pe qt v6) (fun r_30 => (if (r_30 &&& (v7 ^^^ (-1))) = 0 then (br0 (m_X0_violations fu g op v6) (fun r_33 => (if (2 * r_33) = v10 then (bnd1 (m_L_size fu (v7 &&& (v8 ^^^ (-1)))) (fun r_36 => (bnd1 (m_L_size fu v7) (fun r_38 => (m_L_users_14 fu g rm op rc ec pe qt rs rn b1 a2 a3 n 0 (v4 + (a3 * r_36)) (v5 + r_38) (v6 + 1) 0 0 0 0 0))))) else some 0))) else some 0))) else some 0))) else some 0))) else some 0))) else (if ((v7 >>> (v11 &&& 31)) &&& 1) = 1 then (ix v11 12 (bnd1 (m_L_size fu ((b1 (Int32.toNatClampNeg v11)) &&& v7)) (fun r_42 => (m_L_users_14 fu g rm op rc ec pe qt rs rn b1 a2 a3 n 2 v4 v5 v6 v7 v8 v9 (v10 + r_42) (v11 + 1))))) else (m_L_users_14 fu g rm op rc ec pe qt rs rn b1 a2 a3 n 2 v4 v5 v6 v7 v8 v9 (v10 + 0) (v11 + 1))))
def m_L_users (fu : Nat) (g : Nat → Int32) (rm : Nat → Int32) (op : Nat → Int32) (rc : Int32) (ec : Int32) (pe : Int32) (qt : Int32) (rs : Nat → Int32) (rn : Int32) (b1 : Nat → Int32) (a2 : Int32) (a3 : Int32) : Option ((Int32)) := (m_L_users_14 fu g rm op rc ec pe qt rs rn b1 a2 a3 fu 0 (a2 * (m_X0_roles rn)) 0 0 0 0 0 0 0)
set_option maxHeartbeats 8000000 in
set_option maxRecDepth 100000 in
theorem c_L_users (l : Launch) (D : va_G) (cI cJ : ClassId) (x0 x1 x2 x3 x4 x5 x6 x7 x8 x9 : Nat) (p1 : Nat) (sz : Nat) (g : Nat → Int32) (rm : Nat → Int32) (op : Nat → Int32) (rc : Int32) (ec : Int32) (su : Int32) (pe : Int32) (qt : Int32) (rs : Nat → Int32) (rn : Int32) (cs : Nat → Int32) (cn : Int32) (lc : Nat → Int64) (hc : Nat → Int64) (lg : Nat → Int64) (hg : Nat → Int64) (b1 : Nat → Int32) (fu : Nat) (a2 : Int32) (a3 : Int32) (r0 : Int32) (h : m_L_users fu g rm op rc ec pe qt rs rn b1 a2 a3 = some r0) : Met l yL_users wsL_users ({ frames := 3, cells := 0, slots := 0, locals := 67 }) (va_Pc [.ref x0, .ref p1, .int a2, .int a3] (bx_Pre D [(cI, .int), (cJ, .long)] (wX cI cJ x0 x1 x2 x3 x4 x5 x6 x7 x8 x9 g rm op rc ec su pe qt rs rn cs cn lc hc lg hg ++ [(p1, .inl (cI, 12, .inl b1))]) sz)) (va_Qi (fun (r : Int32) (_ : Unit) => r = r0) (fun (_ : Unit) t => bx_Post D [(cI, .int), (cJ, .long)] (wX cI cJ x0 x1 x2 x3 x4 x5 x6 x7 x8 x9 g rm op rc ec su pe qt rs rn cs cn lc hc lg hg ++ [(p1, .inl (cI, 12, .inl b1))]) (va_A (wX cI cJ x0 x1 x2 x3 x4 x5 x6 x7 x8 x9 g rm op rc ec su pe qt rs rn cs cn lc hc lg hg ++ [(p1, .inl (cI, 12, .inl b1))]) sz) t) (va_A (wX cI cJ x0 x1 x2 x3 x4 x5 x6 x7 x8 x9 g rm op rc ec su pe qt rs rn cs cn lc hc lg hg ++ [(p1, .inl (cI, 12, .inl b1))]) sz)) 0 0 (va_A (wX cI cJ x0 x1 x2 x3 x4 x5 x6 x7 x8 x9 g rm op rc ec su pe qt rs rn cs cn lc hc lg hg ++ [(p1, .inl (cI, 12, .inl b1))]) sz) := by
  refine Met.ofW (cc := cL_users) (maxL := 13) (ret := (some .boolean)) (by decide) rfl ?_
  intro p e s m args below meth c s₁ B hml hv
  obtain ⟨rfl, hsz, hP, hK, hD0⟩ := hv
  have hx := B.exec
  have hb := B.bytes
  have hr := B.returns
  have hts := atoms_spec (ws := wsL_users) B.pre
  have hown : s.vm.findClass RL = some m.cls := findClass_of_methodNamed B.named
  have hlocks := B.notSynchronized
  subst hsz
  have hD := hD0.self (sz := s.heap.size)
  generalize hAe : va_A (wX cI cJ x0 x1 x2 x3 x4 x5 x6 x7 x8 x9 g rm op rc ec su pe qt rs rn cs cn lc hc lg hg ++ [(p1, .inl (cI, 12, .inl b1))]) s.heap.size = A at hD ⊢
  have hA : ∀ q : Nat, s.heap.size ≤ q → A q := fun q h9 => by rw [← hAe]; exact Or.inr h9
  have hS : va_S A s.heap s.heap [] := va_S.rf
  have hl := lv_entry ([.ref x0, .ref p1, .int a2, .int a3]) (n := 13) (Nat.le_of_ble_eq_true rfl)
  rw [lg_entry_eq]
  generalize (lg_sl ([.ref x0, .ref p1, .int a2, .int a3]) ++ List.replicate (13 - (lg_sl ([.ref x0, .ref p1, .int a2, .int a3])).length) Slot.unset).toArray = ls at hl ⊢
  have hl : lv_has ls 13 [(0, .ref x0), (1, .ref p1), (2, .int a2), (3, .int a3)] := hl
  have L14 : ∀ (n : Nat), (∀ (v4 : Int32) (v5 : Int32) (v6 : Int32) (H : Heap) (locs : List Loc) (ls : Array Slot), m_L_users_14 fu g rm op rc ec pe qt rs rn b1 a2 a3 n 0 v4 v5 v6 0 0 0 0 0 = some r0 → va_P D vwCl (wX cI cJ x0 x1 x2 x3 x4 x5 x6 x7 x8 x9 g rm op rc ec su pe qt rs rn cs cn lc hc lg hg ++ [(p1, .inl (cI, 12, .inl b1))]) H → va_D A (wX cI cJ x0 x1 x2 x3 x4 x5 x6 x7 x8 x9 g rm op rc ec su pe qt rs rn cs cn lc hc lg hg ++ [(p1, .inl (cI, 12, .inl b1))]) → va_S A s.heap H locs → lv_has ls 13 [(0, .ref x0), (1, .ref p1), (3, .int a3), (4, .int v4), (5, .int v5), (6, .int v6)] → W p l e (headSpec wsL_users ({ frames := 3, cells := 0, slots := 0, locals := 67 })).room s m ([.ref x0, .ref p1, .int a2, .int a3] : List Value).toArray below meth c H locs 0 0 (MQ below (va_Qi (fun (r : Int32) (_ : Unit) => r = r0) (fun (_ : Unit) t => bx_Post D [(cI, .int), (cJ, .long)] (wX cI cJ x0 x1 x2 x3 x4 x5 x6 x7 x8 x9 g rm op rc ec su pe qt rs rn cs cn lc hc lg hg ++ [(p1, .inl (cI, 12, .inl b1))]) A t) A) ([.ref x0, .ref p1, .int a2, .int a3] : List Value).toArray s 0 0 A) (F0 m 14 ls [])) ∧ (∀ (v4 : Int32) (v5 : Int32) (v6 : Int32) (v7 : Int32) (v8 : Int32) (v9 : Int32) (v10 : Int32) (v11 : Int32) (H : Heap) (locs : List Loc) (ls : Array Slot), m_L_users_14 fu g rm op rc ec pe qt rs rn b1 a2 a3 n 1 v4 v5 v6 v7 v8 v9 v10 v11 = some r0 → va_P D vwCl (wX cI cJ x0 x1 x2 x3 x4 x5 x6 x7 x8 x9 g rm op rc ec su pe qt rs rn cs cn lc hc lg hg ++ [(p1, .inl (cI, 12, .inl b1))]) H → va_D A (wX cI cJ x0 x1 x2 x3 x4 x5 x6 x7 x8 x9 g rm op rc ec su pe qt rs rn cs cn lc hc lg hg ++ [(p1, .inl (cI, 12, .inl b1))]) → va_S A s.heap H locs → lv_has ls 13 [(0, .ref x0), (1, .ref p1), (3, .int a3), (4, .int v4), (5, .int v5), (6, .int v6), (7, .int v7), (8, .int v8), (9, .int v9), (10, .int v10), (11, .int v11)] → W p l e (headSpec wsL_users ({ frames := 3, cells := 0, slots := 0, locals := 67 })).room s m ([.ref x0, .ref p1, .int a2, .int a3] : List Value).toArray below meth c H locs 0 0 (MQ below (va_Qi (fun (r : Int32) (_ : Unit) => r = r0) (fun (_ : Unit) t => bx_Post D [(cI, .int), (cJ, .long)] (wX cI cJ x0 x1 x2 x3 x4 x5 x6 x7 x8 x9 g rm op rc ec su pe qt rs rn cs cn lc hc lg hg ++ [(p1, .inl (cI, 12, .inl b1))]) A t) A) ([.ref x0, .ref p1, .int a2, .int a3] : List Value).toArray s 0 0 A) (F0 m 41 ls [])) ∧ (∀ (v4 : Int32) (v5 : Int32) (v6 : Int32) (v7 : Int32) (v8 : Int32) (v9 : Int32) (v10 : Int32) (v11 : Int32) (H : Heap) (locs : List Loc) (ls : Array Slot), m_L_users_14 fu g rm op rc ec pe qt rs rn b1 a2 a3 n 2 v4 v5 v6 v7 v8 v9 v10 v11 = some r0 → va_P D vwCl (wX cI cJ x0 x1 x2 x3 x4 x5 x6 x7 x8 x9 g rm op rc ec su pe qt rs rn cs cn lc hc lg hg ++ [(p1, .inl (cI, 12, .inl b1))]) H → va_D A (wX cI cJ x0 x1 x2 x3 x4 x5 x6 x7 x8 x9 g rm op rc ec su pe qt rs rn cs cn lc hc lg hg ++ [(p1, .inl (cI, 12, .inl b1))]) → va_S A s.heap H locs → lv_has ls 13 [(0, .ref x0), (1, .ref p1), (3, .int a3), (4, .int v4), (5, .int v5), (6, .int v6), (7, .int v7), (8, .int v8), (9, .int v9), (10, .int v10), (11, .int v11)] → W p l e (headSpec wsL_users ({ frames := 3, cells := 0, slots := 0, locals := 67 })).room s m ([.ref x0, .ref p1, .int a2, .int a3] : List Value).toArray below meth c H locs 0 0 (MQ below (va_Qi (fun (r : Int32) (_ : Unit) => r = r0) (fun (_ : Unit) t => bx_Post D [(cI, .int), (cJ, .long)] (wX cI cJ x0 x1 x2 x3 x4 x5 x6 x7 x8 x9 g rm op rc ec su pe qt rs rn cs cn lc hc lg hg ++ [(p1, .inl (cI, 12, .inl b1))]) A t) A) ([.ref x0, .ref p1, .int a2, .int a3] : List Value).toArray s 0 0 A) (F0 m 115 ls [])) := by
    intro n
    induction n with
    | zero =>
      refine ⟨?_, ?_, ?_⟩
      · intro v4 v5 v6 H locs ls h
        rw [m_L_users_14] at h
        cases h
      · intro v4 v5 v6 v7 v8 v9 v10 v11 H locs ls h
        rw [m_L_users_14] at h
        cases h
      · intro v4 v5 v6 v7 v8 v9 v10 v11 H locs ls h
        rw [m_L_users_14] at h
        cases h
    | succ n ih =>
      refine ⟨?_, ?_, ?_⟩
      · intro v4 v5 v6 H locs ls h hP hD hS hl
        rw [m_L_users_14] at h
        replace h := (if_pos rfl).symm.trans h
        refine lv_iload hx hb dL_users_14 (lv_at hl 5 rfl) ?_
        refine lv_bipush (v := 8) hx hb dL_users_16 (by decide) ?_
        refine lv_icmp_ge (tgt := 258) hx hb dL_users_18 (by decide) (fun c_1 => ?_) (fun c_1 => ?_)
        · replace h := (if_pos c_1).symm.trans h
          refine lv_aload_n hx hb dL_users_258 rfl (lv_at hl 0 rfl) ?_
          obtain ⟨r_2, e_3, h⟩ := bnd1_some h
          refine gl_Vi (As := []) (rest := []) (wc := wX cI cJ x0 x1 x2 x3 x4 x5 x6 x7 x8 x9 g rm op rc ec su pe qt rs rn cs cn lc hc lg hg) (w1 := wX cI cJ x0 x1 x2 x3 x4 x5 x6 x7 x8 x9 g rm op rc ec su pe qt rs rn cs cn lc hc lg hg) (wr := [(p1, .inl (cI, 12, .inl b1))]) ⟨hx, hb, hml, hown, hts⟩ (c_X0_cost l D cI cJ x0 x1 x2 x3 x4 x5 x6 x7 x8 x9 _ g rm op rc ec su pe qt rs rn cs cn lc hc lg hg fu  r_2 e_3) (cwV 0 hts gL_users_X0_cost rfl rfl rfl (by decide +kernel) ⟨Nat.le_of_ble_eq_true rfl, Nat.le_of_ble_eq_true rfl⟩) hK hP hD hS hA [0, 1, 2, 3, 4, 5, 6, 7, 8, 9] [10] rfl rfl (by decide) (by decide) rfl rfl rfl rfl rfl hl.1 rfl (lv_room (Nat.le_of_ble_eq_true rfl)) dL_users_259 ⟨Nat.le_of_ble_eq_true rfl, Nat.le_of_ble_eq_true rfl⟩ (fun H locs hP hD hS => ?_)
          replace hP := hP.sub (ws' := wX cI cJ x0 x1 x2 x3 x4 x5 x6 x7 x8 x9 g rm op rc ec su pe qt rs rn cs cn lc hc lg hg ++ [(p1, .inl (cI, 12, .inl b1))]) [1, 2, 3, 4, 5, 6, 7, 8, 9, 10, 0] rfl
          replace hD := hD.sub (ws' := wX cI cJ x0 x1 x2 x3 x4 x5 x6 x7 x8 x9 g rm op rc ec su pe qt rs rn cs cn lc hc lg hg ++ [(p1, .inl (cI, 12, .inl b1))]) [1, 2, 3, 4, 5, 6, 7, 8, 9, 10, 0] (by decide) rfl
          refine lv_iload hx hb dL_users_262 (lv_at hl 3 rfl) ?_
          refine lv_icmp_ne (tgt := 280) hx hb dL_users_264 (by decide) (fun c_4 => ?_) (fun c_4 => ?_)
          · replace h := (if_neg c_4).symm.trans h
            refine lv_iconst (v := 0) hx hb dL_users_280 (by decide) ?_
            cases h
            exact W.zret hx hb hr rfl (fun t ht hW => ⟨⟨_, (), rfl, rfl, by rw [ht]; exact hP, va_K.moved hW.alike hK, hD⟩, hS.F ht⟩) hS.2.2 dL_users_281
          · replace h := (if_pos c_4).symm.trans h
            refine lv_aload_n hx hb dL_users_267 rfl (lv_at hl 0 rfl) ?_
            obtain ⟨r_5, e_6, h⟩ := bnd1_some h
            refine gl_Vi (As := []) (rest := []) (wc := wX cI cJ x0 x1 x2 x3 x4 x5 x6 x7 x8 x9 g rm op rc ec su pe qt rs rn cs cn lc hc lg hg) (w1 := wX cI cJ x0 x1 x2 x3 x4 x5 x6 x7 x8 x9 g rm op rc ec su pe qt rs rn cs cn lc hc lg hg) (wr := [(p1, .inl (cI, 12, .inl b1))]) ⟨hx, hb, hml, hown, hts⟩ (c_X0_grants l D cI cJ x0 x1 x2 x3 x4 x5 x6 x7 x8 x9 _ g rm op rc ec su pe qt rs rn cs cn lc hc lg hg fu  r_5 e_6) (cwV 0 hts gL_users_X0_grants rfl rfl rfl (by decide +kernel) ⟨Nat.le_of_ble_eq_true rfl, Nat.le_of_ble_eq_true rfl⟩) hK hP hD hS hA [0, 1, 2, 3, 4, 5, 6, 7, 8, 9] [10] rfl rfl (by decide) (by decide) rfl rfl rfl rfl rfl hl.1 rfl (lv_room (Nat.le_of_ble_eq_true rfl)) dL_users_268 ⟨Nat.le_of_ble_eq_true rfl, Nat.le_of_ble_eq_true rfl⟩ (fun H locs hP hD hS => ?_)
            replace hP := hP.sub (ws' := wX cI cJ x0 x1 x2 x3 x4 x5 x6 x7 x8 x9 g rm op rc ec su pe qt rs rn cs cn lc hc lg hg ++ [(p1, .inl (cI, 12, .inl b1))]) [1, 2, 3, 4, 5, 6, 7, 8, 9, 10, 0] rfl
            replace hD := hD.sub (ws' := wX cI cJ x0 x1 x2 x3 x4 x5 x6 x7 x8 x9 g rm op rc ec su pe qt rs rn cs cn lc hc lg hg ++ [(p1, .inl (cI, 12, .inl b1))]) [1, 2, 3, 4, 5, 6, 7, 8, 9, 10, 0] (by decide) rfl
            refine lv_iload hx hb dL_users_271 (lv_at hl 4 rfl) ?_
            refine lv_icmp_ne (tgt := 280) hx hb dL_users_273 (by decide) (fun c_7 => ?_) (fun c_7 => ?_)
            · replace h := (if_neg c_7).symm.trans h
              refine lv_iconst (v := 0) hx hb dL_users_280 (by decide) ?_
              cases h
              exact W.zret hx hb hr rfl (fun t ht hW => ⟨⟨_, (), rfl, rfl, by rw [ht]; exact hP, va_K.moved hW.alike hK, hD⟩, hS.F ht⟩) hS.2.2 dL_users_281
            · replace h := (if_pos c_7).symm.trans h
              refine lv_iconst (v := 1) hx hb dL_users_276 (by decide) ?_
              refine lv_goto (tgt := 281) hx hb dL_users_277 (by decide) ?_
              cases h
              exact W.zret hx hb hr rfl (fun t ht hW => ⟨⟨_, (), rfl, rfl, by rw [ht]; exact hP, va_K.moved hW.alike hK, hD⟩, hS.F ht⟩) hS.2.2 dL_users_281
        · replace h := (if_neg c_1).symm.trans h
          refine lv_aload_n hx hb dL_users_21 rfl (lv_at hl 0 rfl) ?_
          refine lv_iload hx hb dL_users_22 (lv_at hl 5 rfl) ?_
          obtain ⟨r_8, e_9, h⟩ := br0_some h
          refine gl_Vi (As := [.int v6]) (rest := []) (wc := wX cI cJ x0 x1 x2 x3 x4 x5 x6 x7 x8 x9 g rm op rc ec su pe qt rs rn cs cn lc hc lg hg) (w1 := wX cI cJ x0 x1 x2 x3 x4 x5 x6 x7 x8 x9 g rm op rc ec su pe qt rs rn cs cn lc hc lg hg) (wr := [(p1, .inl (cI, 12, .inl b1))]) ⟨hx, hb, hml, hown, hts⟩ (c0_X0_permissions l D cI cJ x0 x1 x2 x3 x4 x5 x6 x7 x8 x9 _ g rm op rc ec su pe qt rs rn cs cn lc hc lg hg v6 r_8 e_9) (cwV 1 hts gL_users_X0_permissions rfl rfl rfl (by decide +kernel) ⟨Nat.le_of_ble_eq_true rfl, Nat.le_of_ble_eq_true rfl⟩) hK hP hD hS hA [0, 1, 2, 3, 4, 5, 6, 7, 8, 9] [10] rfl rfl (by decide) (by decide) rfl rfl rfl rfl rfl hl.1 rfl (lv_room (Nat.le_of_ble_eq_true rfl)) dL_users_24 ⟨Nat.le_of_ble_eq_true rfl, Nat.le_of_ble_eq_true rfl⟩ (fun H locs hP hD hS => ?_)
          replace hP := hP.sub (ws' := wX cI cJ x0 x1 x2 x3 x4 x5 x6 x7 x8 x9 g rm op rc ec su pe qt rs rn cs cn lc hc lg hg ++ [(p1, .inl (cI, 12, .inl b1))]) [1, 2, 3, 4, 5, 6, 7, 8, 9, 10, 0] rfl
          replace hD := hD.sub (ws' := wX cI cJ x0 x1 x2 x3 x4 x5 x6 x7 x8 x9 g rm op rc ec su pe qt rs rn cs cn lc hc lg hg ++ [(p1, .inl (cI, 12, .inl b1))]) [1, 2, 3, 4, 5, 6, 7, 8, 9, 10, 0] (by decide) rfl
          refine lv_istore (lv' := [(7, .int r_8), (0, .ref x0), (1, .ref p1), (3, .int a3), (4, .int v4), (5, .int v5), (6, .int v6)]) hx hb dL_users_27 hl (by decide) rfl (fun ls hl => ?_)
          refine lv_iconst (v := 0) hx hb dL_users_29 (by decide) ?_
          refine lv_istore (lv' := [(8, .int 0), (7, .int r_8), (0, .ref x0), (1, .ref p1), (3, .int a3), (4, .int v4), (5, .int v5), (6, .int v6)]) hx hb dL_users_30 hl (by decide) rfl (fun ls hl => ?_)
          refine lv_iconst (v := 0) hx hb dL_users_32 (by decide) ?_
          refine lv_istore (lv' := [(9, .int 0), (8, .int 0), (7, .int r_8), (0, .ref x0), (1, .ref p1), (3, .int a3), (4, .int v4), (5, .int v5), (6, .int v6)]) hx hb dL_users_33 hl (by decide) rfl (fun ls hl => ?_)
          refine lv_iconst (v := 0) hx hb dL_users_35 (by decide) ?_
          refine lv_istore (lv' := [(10, .int 0), (9, .int 0), (8, .int 0), (7, .int r_8), (0, .ref x0), (1, .ref p1), (3, .int a3), (4, .int v4), (5, .int v5), (6, .int v6)]) hx hb dL_users_36 hl (by decide) rfl (fun ls hl => ?_)
          refine lv_iconst (v := 0) hx hb dL_users_38 (by decide) ?_
          refine lv_istore (lv' := [(11, .int 0), (10, .int 0), (9, .int 0), (8, .int 0), (7, .int r_8), (0, .ref x0), (1, .ref p1), (3, .int a3), (4, .int v4), (5, .int v5), (6, .int v6)]) hx hb dL_users_39 hl (by decide) rfl (fun ls hl => ?_)
          exact ih.2.1 v4 v5 v6 r_8 0 0 0 0 _ _ _ h hP hD hS (lv_sub hl [5, 6, 7, 8, 9, 10, 4, 3, 2, 1, 0] rfl)
      · intro v4 v5 v6 v7 v8 v9 v10 v11 H locs ls h hP hD hS hl
        rw [m_L_users_14] at h
        replace h := (if_neg (by decide)).symm.trans h
        replace h := (if_pos rfl).symm.trans h
        refine lv_iload hx hb dL_users_41 (lv_at hl 10 rfl) ?_
        refine lv_aload_n hx hb dL_users_43 rfl (lv_at hl 0 rfl) ?_
        refine gl_Vi (As := []) (rest := [.int v11]) (wc := wX cI cJ x0 x1 x2 x3 x4 x5 x6 x7 x8 x9 g rm op rc ec su pe qt rs rn cs cn lc hc lg hg) (w1 := wX cI cJ x0 x1 x2 x3 x4 x5 x6 x7 x8 x9 g rm op rc ec su pe qt rs rn cs cn lc hc lg hg) (wr := [(p1, .inl (cI, 12, .inl b1))]) ⟨hx, hb, hml, hown, hts⟩ (c_X0_roles l D cI cJ x0 x1 x2 x3 x4 x5 x6 x7 x8 x9 _ g rm op rc ec su pe qt rs rn cs cn lc hc lg hg ) (cwV 0 hts gL_users_X0_roles rfl rfl rfl (by decide +kernel) ⟨Nat.le_of_ble_eq_true rfl, Nat.le_of_ble_eq_true rfl⟩) hK hP hD hS hA [0, 1, 2, 3, 4, 5, 6, 7, 8, 9] [10] rfl rfl (by decide) (by decide) rfl rfl rfl rfl rfl hl.1 rfl (lv_room (Nat.le_of_ble_eq_true rfl)) dL_users_44 ⟨Nat.le_of_ble_eq_true rfl, Nat.le_of_ble_eq_true rfl⟩ (fun H locs hP hD hS => ?_)
        replace hP := hP.sub (ws' := wX cI cJ x0 x1 x2 x3 x4 x5 x6 x7 x8 x9 g rm op rc ec su pe qt rs rn cs cn lc hc lg hg ++ [(p1, .inl (cI, 12, .inl b1))]) [1, 2, 3, 4, 5, 6, 7, 8, 9, 10, 0] rfl
        replace hD := hD.sub (ws' := wX cI cJ x0 x1 x2 x3 x4 x5 x6 x7 x8 x9 g rm op rc ec su pe qt rs rn cs cn lc hc lg hg ++ [(p1, .inl (cI, 12, .inl b1))]) [1, 2, 3, 4, 5, 6, 7, 8, 9, 10, 0] (by decide) rfl
        refine lv_icmp_ge (tgt := 112) hx hb dL_users_47 (by decide) (fun c_10 => ?_) (fun c_10 => ?_)
        · replace h := (if_pos c_10).symm.trans h
          refine lv_iconst (v := 0) hx hb dL_users_112 (by decide) ?_
          refine lv_istore (lv' := [(11, .int 0), (0, .ref x0), (1, .ref p1), (3, .int a3), (4, .int v4), (5, .int v5), (6, .int v6), (7, .int v7), (8, .int v8), (9, .int v9), (10, .int v10)]) hx hb dL_users_113 hl (by decide) rfl (fun ls hl => ?_)
          exact ih.2.2 v4 v5 v6 v7 v8 v9 v10 0 _ _ _ h hP hD hS (lv_sub hl [1, 2, 3, 4, 5, 6, 7, 8, 9, 10, 0] rfl)
        · replace h := (if_neg c_10).symm.trans h
          refine lv_aload_n hx hb dL_users_50 rfl (lv_at hl 0 rfl) ?_
          refine lv_iload hx hb dL_users_51 (lv_at hl 10 rfl) ?_
          obtain ⟨r_11, e_12, h⟩ := br0_some h
          refine gl_W0 (As := [.ref x0, .int v11]) (rest := []) (wc := wX cI cJ x0 x1 x2 x3 x4 x5 x6 x7 x8 x9 g rm op rc ec su pe qt rs rn cs cn lc hc lg hg) (w1 := wX cI cJ x0 x1 x2 x3 x4 x5 x6 x7 x8 x9 g rm op rc ec su pe qt rs rn cs cn lc hc lg hg) (wr := [(p1, .inl (cI, 12, .inl b1))]) ⟨hx, hb, hml, hown, hts⟩ (c0_L_role l D cI cJ x0 x1 x2 x3 x4 x5 x6 x7 x8 x9 _ g rm op rc ec su pe qt rs rn cs cn lc hc lg hg v11 r_11 e_12) (vx_cwSW 2 hts gL_users_L_role rfl rfl rfl (by decide +kernel) ⟨Nat.le_of_ble_eq_true rfl, Nat.le_of_ble_eq_true rfl⟩) hK hP hD hS hA [0, 1, 2, 3, 4, 5, 6, 7, 8, 9] [10] rfl rfl (by decide) (by decide) rfl rfl rfl hl.1 rfl (lv_room (Nat.le_of_ble_eq_true rfl)) dL_users_53 ⟨Nat.le_of_ble_eq_true rfl, Nat.le_of_ble_eq_true rfl⟩ (fun H locs hP hD hS => ?_)
          replace hP := hP.sub (ws' := wX cI cJ x0 x1 x2 x3 x4 x5 x6 x7 x8 x9 g rm op rc ec su pe qt rs rn cs cn lc hc lg hg ++ [(p1, .inl (cI, 12, .inl b1))]) [1, 2, 3, 4, 5, 6, 7, 8, 9, 10, 0] rfl
          replace hD := hD.sub (ws' := wX cI cJ x0 x1 x2 x3 x4 x5 x6 x7 x8 x9 g rm op rc ec su pe qt rs rn cs cn lc hc lg hg ++ [(p1, .inl (cI, 12, .inl b1))]) [1, 2, 3, 4, 5, 6, 7, 8, 9, 10, 0] (by decide) rfl
          refine lv_iload hx hb dL_users_56 (lv_at hl 6 rfl) ?_
          refine lv_iconst (v := (-1)) hx hb dL_users_58 (by decide) ?_
          refine lv_ixor hx hb dL_users_59 ?_
          refine lv_iand hx hb dL_users_60 ?_
          refine lv_if_ne (tgt := 68) hx hb dL_users_61 (by decide) (fun c_13 => ?_) (fun c_13 => ?_)
          · replace h := (if_neg c_13).symm.trans h
            refine lv_iconst (v := 0) hx hb dL_users_68 (by decide) ?_
            refine lv_istore (lv' := [(12, .int 0), (0, .ref x0), (1, .ref p1), (3, .int a3), (4, .int v4), (5, .int v5), (6, .int v6), (7, .int v7), (8, .int v8), (9, .int v9), (10, .int v10), (11, .int v11)]) hx hb dL_users_69 hl (by decide) rfl (fun ls hl => ?_)
            refine lv_iload hx hb dL_users_71 (lv_at hl 8 rfl) ?_
            refine lv_iload hx hb dL_users_73 (lv_at hl 0 rfl) ?_
            refine lv_if_eq (tgt := 87) hx hb dL_users_75 (by decide) (fun c_14 => ?_) (fun c_14 => ?_)
            · refine lv_iconst (v := 0) hx hb dL_users_87 (by decide) ?_
              refine lv_ior hx hb dL_users_88 ?_
              refine lv_istore (lv' := [(8, .int (v8 ||| 0)), (12, .int 0), (0, .ref x0), (1, .ref p1), (3, .int a3), (4, .int v4), (5, .int v5), (6, .int v6), (7, .int v7), (9, .int v9), (10, .int v10), (11, .int v11)]) hx hb dL_users_89 hl (by decide) rfl (fun ls hl => ?_)
              refine lv_iload hx hb dL_users_91 (lv_at hl 9 rfl) ?_
              refine lv_iload hx hb dL_users_93 (lv_at hl 1 rfl) ?_
              refine lv_if_eq (tgt := 102) hx hb dL_users_95 (by decide) (fun c_15 => ?_) (fun c_15 => ?_)
              · refine lv_iconst (v := 0) hx hb dL_users_102 (by decide) ?_
                refine lv_iadd hx hb dL_users_103 ?_
                refine lv_istore (lv' := [(9, .int (v9 + 0)), (8, .int (v8 ||| 0)), (12, .int 0), (0, .ref x0), (1, .ref p1), (3, .int a3), (4, .int v4), (5, .int v5), (6, .int v6), (7, .int v7), (10, .int v10), (11, .int v11)]) hx hb dL_users_104 hl (by decide) rfl (fun ls hl => ?_)
                refine lv_iinc (v := (v11 + 1)) (lv' := [(11, .int (v11 + 1)), (9, .int (v9 + 0)), (8, .int (v8 ||| 0)), (12, .int 0), (0, .ref x0), (1, .ref p1), (3, .int a3), (4, .int v4), (5, .int v5), (6, .int v6), (7, .int v7), (10, .int v10)]) hx hb dL_users_106 hl (k := 11) rfl rfl (by decide) rfl (fun ls hl => ?_)
                refine lv_goto (tgt := 41) hx hb dL_users_109 (by decide) ?_
                exact ih.2.1 v4 v5 v6 v7 (v8 ||| 0) (v9 + 0) v10 (v11 + 1) _ _ _ h hP hD hS (lv_sub hl [4, 5, 6, 7, 8, 9, 10, 2, 1, 11, 0] rfl)
              · exact absurd (by decide) c_15
            · exact absurd (by decide) c_14
          · replace h := (if_pos c_13).symm.trans h
            refine lv_iconst (v := 1) hx hb dL_users_64 (by decide) ?_
            refine lv_goto (tgt := 69) hx hb dL_users_65 (by decide) ?_
            refine lv_istore (lv' := [(12, .int 1), (0, .ref x0), (1, .ref p1), (3, .int a3), (4, .int v4), (5, .int v5), (6, .int v6), (7, .int v7), (8, .int v8), (9, .int v9), (10, .int v10), (11, .int v11)]) hx hb dL_users_69 hl (by decide) rfl (fun ls hl => ?_)
            refine lv_iload hx hb dL_users_71 (lv_at hl 8 rfl) ?_
            refine lv_iload hx hb dL_users_73 (lv_at hl 0 rfl) ?_
            refine lv_if_eq (tgt := 87) hx hb dL_users_75 (by decide) (fun c_16 => ?_) (fun c_16 => ?_)
            · exact absurd c_16 (by decide)
            · refine lv_aload_n hx hb dL_users_78 rfl (lv_at hl 1 rfl) ?_
              refine lv_iload hx hb dL_users_79 (lv_at hl 11 rfl) ?_
              obtain ⟨r_17, e_18, h⟩ := br0_some h
              refine gl_W0 (As := [.ref x0, .int v11]) (rest := [.int v8]) (wc := wX cI cJ x0 x1 x2 x3 x4 x5 x6 x7 x8 x9 g rm op rc ec su pe qt rs rn cs cn lc hc lg hg) (w1 := wX cI cJ x0 x1 x2 x3 x4 x5 x6 x7 x8 x9 g rm op rc ec su pe qt rs rn cs cn lc hc lg hg) (wr := [(p1, .inl (cI, 12, .inl b1))]) ⟨hx, hb, hml, hown, hts⟩ (c0_L_role l D cI cJ x0 x1 x2 x3 x4 x5 x6 x7 x8 x9 _ g rm op rc ec su pe qt rs rn cs cn lc hc lg hg v11 r_17 e_18) (vx_cwSW 2 hts gL_users_L_role rfl rfl rfl (by decide +kernel) ⟨Nat.le_of_ble_eq_true rfl, Nat.le_of_ble_eq_true rfl⟩) hK hP hD hS hA [0, 1, 2, 3, 4, 5, 6, 7, 8, 9] [10] rfl rfl (by decide) (by decide) rfl rfl rfl hl.1 rfl (lv_room (Nat.le_of_ble_eq_true rfl)) dL_users_81 ⟨Nat.le_of_ble_eq_true rfl, Nat.le_of_ble_eq_true rfl⟩ (fun H locs hP hD hS => ?_)
              replace hP := hP.sub (ws' := wX cI cJ x0 x1 x2 x3 x4 x5 x6 x7 x8 x9 g rm op rc ec su pe qt rs rn cs cn lc hc lg hg ++ [(p1, .inl (cI, 12, .inl b1))]) [1, 2, 3, 4, 5, 6, 7, 8, 9, 10, 0] rfl
              replace hD := hD.sub (ws' := wX cI cJ x0 x1 x2 x3 x4 x5 x6 x7 x8 x9 g rm op rc ec su pe qt rs rn cs cn lc hc lg hg ++ [(p1, .inl (cI, 12, .inl b1))]) [1, 2, 3, 4, 5, 6, 7, 8, 9, 10, 0] (by decide) rfl
              refine lv_goto (tgt := 88) hx hb dL_users_84 (by decide) ?_
              refine lv_ior hx hb dL_users_88 ?_
              refine lv_istore (lv' := [(8, .int (v8 ||| r_17)), (12, .int 1), (0, .ref x0), (1, .ref p1), (3, .int a3), (4, .int v4), (5, .int v5), (6, .int v6), (7, .int v7), (9, .int v9), (10, .int v10), (11, .int v11)]) hx hb dL_users_89 hl (by decide) rfl (fun ls hl => ?_)
              refine lv_iload hx hb dL_users_91 (lv_at hl 9 rfl) ?_
              refine lv_iload hx hb dL_users_93 (lv_at hl 1 rfl) ?_
              refine lv_if_eq (tgt := 102) hx hb dL_users_95 (by decide) (fun c_19 => ?_) (fun c_19 => ?_)
              · exact absurd c_19 (by decide)
              · refine lv_iconst (v := 1) hx hb dL_users_98 (by decide) ?_
                refine lv_goto (tgt := 103) hx hb dL_users_99 (by decide) ?_
                refine lv_iadd hx hb dL_users_103 ?_
                refine lv_istore (lv' := [(9, .int (v9 + 1)), (8, .int (v8 ||| r_17)), (12, .int 1), (0, .ref x0), (1, .ref p1), (3, .int a3), (4, .int v4), (5, .int v5), (6, .int v6), (7, .int v7), (10, .int v10), (11, .int v11)]) hx hb dL_users_104 hl (by decide) rfl (fun ls hl => ?_)
                refine lv_iinc (v := (v11 + 1)) (lv' := [(11, .int (v11 + 1)), (9, .int (v9 + 1)), (8, .int (v8 ||| r_17)), (12, .int 1), (0, .ref x0), (1, .ref p1), (3, .int a3), (4, .int v4), (5, .int v5), (6, .int v6), (7, .int v7), (10, .int v10)]) hx hb dL_users_106 hl (k := 11) rfl rfl (by decide) rfl (fun ls hl => ?_)
                refine lv_goto (tgt := 41) hx hb dL_users_109 (by decide) ?_
                exact ih.2.1 v4 v5 v6 v7 (v8 ||| r_17) (v9 + 1) v10 (v11 + 1) _ _ _ h hP hD hS (lv_sub hl [4, 5, 6, 7, 8, 9, 10, 2, 1, 11, 0] rfl)
      · intro v4 v5 v6 v7 v8 v9 v10 v11 H locs ls h hP hD hS hl
        rw [m_L_users_14] at h
        replace h := (if_neg (by decide)).symm.trans h
        replace h := (if_neg (by decide)).symm.trans h
        refine lv_iload hx hb dL_users_115 (lv_at hl 10 rfl) ?_
        refine lv_bipush (v := 12) hx hb dL_users_117 (by decide) ?_
        refine lv_icmp_ge (tgt := 158) hx hb dL_users_119 (by decide) (fun c_20 => ?_) (fun c_20 => ?_)
        · replace h := (if_pos c_20).symm.trans h
          refine lv_aload_n hx hb dL_users_158 rfl (lv_at hl 0 rfl) ?_
          refine lv_iload hx hb dL_users_159 (lv_at hl 5 rfl) ?_
          obtain ⟨r_21, e_22, h⟩ := br0_some h
          refine gl_Vi (As := [.int v6]) (rest := []) (wc := wX cI cJ x0 x1 x2 x3 x4 x5 x6 x7 x8 x9 g rm op rc ec su pe qt rs rn cs cn lc hc lg hg) (w1 := wX cI cJ x0 x1 x2 x3 x4 x5 x6 x7 x8 x9 g rm op rc ec su pe qt rs rn cs cn lc hc lg hg) (wr := [(p1, .inl (cI, 12, .inl b1))]) ⟨hx, hb, hml, hown, hts⟩ (c0_X0_byRoles l D cI cJ x0 x1 x2 x3 x4 x5 x6 x7 x8 x9 _ g rm op rc ec su pe qt rs rn cs cn lc hc lg hg fu v6 r_21 e_22) (cwV 1 hts gL_users_X0_byRoles rfl rfl rfl (by decide +kernel) ⟨Nat.le_of_ble_eq_true rfl, Nat.le_of_ble_eq_true rfl⟩) hK hP hD hS hA [0, 1, 2, 3, 4, 5, 6, 7, 8, 9] [10] rfl rfl (by decide) (by decide) rfl rfl rfl rfl rfl hl.1 rfl (lv_room (Nat.le_of_ble_eq_true rfl)) dL_users_161 ⟨Nat.le_of_ble_eq_true rfl, Nat.le_of_ble_eq_true rfl⟩ (fun H locs hP hD hS => ?_)
          replace hP := hP.sub (ws' := wX cI cJ x0 x1 x2 x3 x4 x5 x6 x7 x8 x9 g rm op rc ec su pe qt rs rn cs cn lc hc lg hg ++ [(p1, .inl (cI, 12, .inl b1))]) [1, 2, 3, 4, 5, 6, 7, 8, 9, 10, 0] rfl
          replace hD := hD.sub (ws' := wX cI cJ x0 x1 x2 x3 x4 x5 x6 x7 x8 x9 g rm op rc ec su pe qt rs rn cs cn lc hc lg hg ++ [(p1, .inl (cI, 12, .inl b1))]) [1, 2, 3, 4, 5, 6, 7, 8, 9, 10, 0] (by decide) rfl
          refine lv_iload hx hb dL_users_164 (lv_at hl 7 rfl) ?_
          refine lv_icmp_ne (tgt := 223) hx hb dL_users_166 (by decide) (fun c_23 => ?_) (fun c_23 => ?_)
          · replace h := (if_neg c_23).symm.trans h
            refine lv_iconst (v := 0) hx hb dL_users_223 (by decide) ?_
            cases h
            exact W.zret hx hb hr rfl (fun t ht hW => ⟨⟨_, (), rfl, rfl, by rw [ht]; exact hP, va_K.moved hW.alike hK, hD⟩, hS.F ht⟩) hS.2.2 dL_users_224
          · replace h := (if_pos c_23).symm.trans h
            refine lv_aload_n hx hb dL_users_169 rfl (lv_at hl 0 rfl) ?_
            refine lv_iload hx hb dL_users_170 (lv_at hl 5 rfl) ?_
            obtain ⟨r_24, e_25, h⟩ := br0_some h
            refine gl_Vi (As := [.int v6]) (rest := []) (wc := wX cI cJ x0 x1 x2 x3 x4 x5 x6 x7 x8 x9 g rm op rc ec su pe qt rs rn cs cn lc hc lg hg) (w1 := wX cI cJ x0 x1 x2 x3 x4 x5 x6 x7 x8 x9 g rm op rc ec su pe qt rs rn cs cn lc hc lg hg) (wr := [(p1, .inl (cI, 12, .inl b1))]) ⟨hx, hb, hml, hown, hts⟩ (c0_X0_rolesOf l D cI cJ x0 x1 x2 x3 x4 x5 x6 x7 x8 x9 _ g rm op rc ec su pe qt rs rn cs cn lc hc lg hg fu v6 r_24 e_25) (cwV 1 hts gL_users_X0_rolesOf rfl rfl rfl (by decide +kernel) ⟨Nat.le_of_ble_eq_true rfl, Nat.le_of_ble_eq_true rfl⟩) hK hP hD hS hA [0, 1, 2, 3, 4, 5, 6, 7, 8, 9] [10] rfl rfl (by decide) (by decide) rfl rfl rfl rfl rfl hl.1 rfl (lv_room (Nat.le_of_ble_eq_true rfl)) dL_users_172 ⟨Nat.le_of_ble_eq_true rfl, Nat.le_of_ble_eq_true rfl⟩ (fun H locs hP hD hS => ?_)
            replace hP := hP.sub (ws' := wX cI cJ x0 x1 x2 x3 x4 x5 x6 x7 x8 x9 g rm op rc ec su pe qt rs rn cs cn lc hc lg hg ++ [(p1, .inl (cI, 12, .inl b1))]) [1, 2, 3, 4, 5, 6, 7, 8, 9, 10, 0] rfl
            replace hD := hD.sub (ws' := wX cI cJ x0 x1 x2 x3 x4 x5 x6 x7 x8 x9 g rm op rc ec su pe qt rs rn cs cn lc hc lg hg ++ [(p1, .inl (cI, 12, .inl b1))]) [1, 2, 3, 4, 5, 6, 7, 8, 9, 10, 0] (by decide) rfl
            refine lv_iload hx hb dL_users_175 (lv_at hl 8 rfl) ?_
            refine lv_icmp_ne (tgt := 223) hx hb dL_users_177 (by decide) (fun c_26 => ?_) (fun c_26 => ?_)
            · replace h := (if_neg c_26).symm.trans h
              refine lv_iconst (v := 0) hx hb dL_users_223 (by decide) ?_
              cases h
              exact W.zret hx hb hr rfl (fun t ht hW => ⟨⟨_, (), rfl, rfl, by rw [ht]; exact hP, va_K.moved hW.alike hK, hD⟩, hS.F ht⟩) hS.2.2 dL_users_224
            · replace h := (if_pos c_26).symm.trans h
              refine lv_aload_n hx hb dL_users_180 rfl (lv_at hl 0 rfl) ?_
              refine lv_iload hx hb dL_users_181 (lv_at hl 5 rfl) ?_
              obtain ⟨r_27, e_28, h⟩ := br0_some h
              refine gl_Vi (As := [.int v6]) (rest := []) (wc := wX cI cJ x0 x1 x2 x3 x4 x5 x6 x7 x8 x9 g rm op rc ec su pe qt rs rn cs cn lc hc lg hg) (w1 := wX cI cJ x0 x1 x2 x3 x4 x5 x6 x7 x8 x9 g rm op rc ec su pe qt rs rn cs cn lc hc lg hg) (wr := [(p1, .inl (cI, 12, .inl b1))]) ⟨hx, hb, hml, hown, hts⟩ (c0_X0_exceptions l D cI cJ x0 x1 x2 x3 x4 x5 x6 x7 x8 x9 _ g rm op rc ec su pe qt rs rn cs cn lc hc lg hg fu v6 r_27 e_28) (cwV 1 hts gL_users_X0_exceptions rfl rfl rfl (by decide +kernel) ⟨Nat.le_of_ble_eq_true rfl, Nat.le_of_ble_eq_true rfl⟩) hK hP hD hS hA [0, 1, 2, 3, 4, 5, 6, 7, 8, 9] [10] rfl rfl (by decide) (by decide) rfl rfl rfl rfl rfl hl.1 rfl (lv_room (Nat.le_of_ble_eq_true rfl)) dL_users_183 ⟨Nat.le_of_ble_eq_true rfl, Nat.le_of_ble_eq_true rfl⟩ (fun H locs hP hD hS => ?_)
              replace hP := hP.sub (ws' := wX cI cJ x0 x1 x2 x3 x4 x5 x6 x7 x8 x9 g rm op rc ec su pe qt rs rn cs cn lc hc lg hg ++ [(p1, .inl (cI, 12, .inl b1))]) [1, 2, 3, 4, 5, 6, 7, 8, 9, 10, 0] rfl
              replace hD := hD.sub (ws' := wX cI cJ x0 x1 x2 x3 x4 x5 x6 x7 x8 x9 g rm op rc ec su pe qt rs rn cs cn lc hc lg hg ++ [(p1, .inl (cI, 12, .inl b1))]) [1, 2, 3, 4, 5, 6, 7, 8, 9, 10, 0] (by decide) rfl
              refine lv_iload hx hb dL_users_186 (lv_at hl 6 rfl) ?_
              refine lv_iload hx hb dL_users_188 (lv_at hl 7 rfl) ?_
              refine lv_iconst (v := (-1)) hx hb dL_users_190 (by decide) ?_
              refine lv_ixor hx hb dL_users_191 ?_
              refine lv_iand hx hb dL_users_192 ?_
              refine lv_icmp_ne (tgt := 223) hx hb dL_users_193 (by decide) (fun c_29 => ?_) (fun c_29 => ?_)
              · replace h := (if_neg c_29).symm.trans h
                refine lv_iconst (v := 0) hx hb dL_users_223 (by decide) ?_
                cases h
                exact W.zret hx hb hr rfl (fun t ht hW => ⟨⟨_, (), rfl, rfl, by rw [ht]; exact hP, va_K.moved hW.alike hK, hD⟩, hS.F ht⟩) hS.2.2 dL_users_224
              · replace h := (if_pos c_29).symm.trans h
                refine lv_aload_n hx hb dL_users_196 rfl (lv_at hl 0 rfl) ?_
                refine lv_iload hx hb dL_users_197 (lv_at hl 5 rfl) ?_
                obtain ⟨r_30, e_31, h⟩ := br0_some h
                refine gl_Vi (As := [.int v6]) (rest := []) (wc := wX cI cJ x0 x1 x2 x3 x4 x5 x6 x7 x8 x9 g rm op rc ec su pe qt rs rn cs cn lc hc lg hg) (w1 := wX cI cJ x0 x1 x2 x3 x4 x5 x6 x7 x8 x9 g rm op rc ec su pe qt rs rn cs cn lc hc lg hg) (wr := [(p1, .inl (cI, 12, .inl b1))]) ⟨hx, hb, hml, hown, hts⟩ (c0_X0_due l D cI cJ x0 x1 x2 x3 x4 x5 x6 x7 x8 x9 _ g rm op rc ec su pe qt rs rn cs cn lc hc lg hg fu v6 r_30 e_31) (cwV 1 hts gL_users_X0_due rfl rfl rfl (by decide +kernel) ⟨Nat.le_of_ble_eq_true rfl, Nat.le_of_ble_eq_true rfl⟩) hK hP hD hS hA [0, 1, 2, 3, 4, 5, 6, 7, 8, 9] [10] rfl rfl (by decide) (by decide) rfl rfl rfl rfl rfl hl.1 rfl (lv_room (Nat.le_of_ble_eq_true rfl)) dL_users_199 ⟨Nat.le_of_ble_eq_true rfl, Nat.le_of_ble_eq_true rfl⟩ (fun H locs hP hD hS => ?_)
                replace hP := hP.sub (ws' := wX cI cJ x0 x1 x2 x3 x4 x5 x6 x7 x8 x9 g rm op rc ec su pe qt rs rn cs cn lc hc lg hg ++ [(p1, .inl (cI, 12, .inl b1))]) [1, 2, 3, 4, 5, 6, 7, 8, 9, 10, 0] rfl
                replace hD := hD.sub (ws' := wX cI cJ x0 x1 x2 x3 x4 x5 x6 x7 x8 x9 g rm op rc ec su pe qt rs rn cs cn lc hc lg hg ++ [(p1, .inl (cI, 12, .inl b1))]) [1, 2, 3, 4, 5, 6, 7, 8, 9, 10, 0] (by decide) rfl
                refine lv_iload hx hb dL_users_202 (lv_at hl 6 rfl) ?_
                refine lv_iconst (v := (-1)) hx hb dL_users_204 (by decide) ?_
                refine lv_ixor hx hb dL_users_205 ?_
                refine lv_iand hx hb dL_users_206 ?_
                refine lv_if_ne (tgt := 223) hx hb dL_users_207 (by decide) (fun c_32 => ?_) (fun c_32 => ?_)
                · replace h := (if_neg c_32).symm.trans h
                  refine lv_iconst (v := 0) hx hb dL_users_223 (by decide) ?_
                  cases h
                  exact W.zret hx hb hr rfl (fun t ht hW => ⟨⟨_, (), rfl, rfl, by rw [ht]; exact hP, va_K.moved hW.alike hK, hD⟩, hS.F ht⟩) hS.2.2 dL_users_224
                · replace h := (if_pos c_32).symm.trans h
                  refine lv_iconst (v := 2) hx hb dL_users_210 (by decide) ?_
                  refine lv_aload_n hx hb dL_users_211 rfl (lv_at hl 0 rfl) ?_
                  refine lv_iload hx hb dL_users_212 (lv_at hl 5 rfl) ?_
                  obtain ⟨r_33, e_34, h⟩ := br0_some h
                  refine gl_Vi (As := [.int v6]) (rest := [.int 2]) (wc := wX cI cJ x0 x1 x2 x3 x4 x5 x6 x7 x8 x9 g rm op rc ec su pe qt rs rn cs cn lc hc lg hg) (w1 := wX cI cJ x0 x1 x2 x3 x4 x5 x6 x7 x8 x9 g rm op rc ec su pe qt rs rn cs cn lc hc lg hg) (wr := [(p1, .inl (cI, 12, .inl b1))]) ⟨hx, hb, hml, hown, hts⟩ (c0_X0_violations l D cI cJ x0 x1 x2 x3 x4 x5 x6 x7 x8 x9 _ g rm op rc ec su pe qt rs rn cs cn lc hc lg hg fu v6 r_33 e_34) (cwV 1 hts gL_users_X0_violations rfl rfl rfl (by decide +kernel) ⟨Nat.le_of_ble_eq_true rfl, Nat.le_of_ble_eq_true rfl⟩) hK hP hD hS hA [0, 1, 2, 3, 4, 5, 6, 7, 8, 9] [10] rfl rfl (by decide) (by decide) rfl rfl rfl rfl rfl hl.1 rfl (lv_room (Nat.le_of_ble_eq_true rfl)) dL_users_214 ⟨Nat.le_of_ble_eq_true rfl, Nat.le_of_ble_eq_true rfl⟩ (fun H locs hP hD hS => ?_)
                  replace hP := hP.sub (ws' := wX cI cJ x0 x1 x2 x3 x4 x5 x6 x7 x8 x9 g rm op rc ec su pe qt rs rn cs cn lc hc lg hg ++ [(p1, .inl (cI, 12, .inl b1))]) [1, 2, 3, 4, 5, 6, 7, 8, 9, 10, 0] rfl
                  replace hD := hD.sub (ws' := wX cI cJ x0 x1 x2 x3 x4 x5 x6 x7 x8 x9 g rm op rc ec su pe qt rs rn cs cn lc hc lg hg ++ [(p1, .inl (cI, 12, .inl b1))]) [1, 2, 3, 4, 5, 6, 7, 8, 9, 10, 0] (by decide) rfl
                  refine lv_imul hx hb dL_users_217 ?_
                  refine lv_iload hx hb dL_users_218 (lv_at hl 9 rfl) ?_
                  refine lv_icmp_eq (tgt := 225) hx hb dL_users_220 (by decide) (fun c_35 => ?_) (fun c_35 => ?_)
                  · replace h := (if_pos c_35).symm.trans h
                    refine lv_iload hx hb dL_users_225 (lv_at hl 3 rfl) ?_
                    refine lv_iload_n hx hb dL_users_227 rfl (lv_at hl 2 rfl) ?_
                    refine lv_iload hx hb dL_users_228 (lv_at hl 6 rfl) ?_
                    refine lv_iload hx hb dL_users_230 (lv_at hl 7 rfl) ?_
                    refine lv_iconst (v := (-1)) hx hb dL_users_232 (by decide) ?_
                    refine lv_ixor hx hb dL_users_233 ?_
                    refine lv_iand hx hb dL_users_234 ?_
                    obtain ⟨r_36, e_37, h⟩ := bnd1_some h
                    refine gl_Si0 (As := [.int (v7 &&& (v8 ^^^ (-1)))]) (rest := [.int a3, .int v4]) ⟨hx, hb, hml, hown, hts⟩ (c_L_size l D _ fu (v7 &&& (v8 ^^^ (-1))) r_36 e_37) (va_cwS 1 hts gL_users_L_size rfl rfl rfl (by decide +kernel) ⟨Nat.le_of_ble_eq_true rfl, Nat.le_of_ble_eq_true rfl⟩) hK hP hD hS hA rfl rfl hl.1 rfl (lv_room (Nat.le_of_ble_eq_true rfl)) dL_users_235 ⟨Nat.le_of_ble_eq_true rfl, Nat.le_of_ble_eq_true rfl⟩ (fun H locs hP hD hS => ?_)
                    refine lv_imul hx hb dL_users_238 ?_
                    refine lv_iadd hx hb dL_users_239 ?_
                    refine lv_istore (lv' := [(4, .int (v4 + (a3 * r_36))), (0, .ref x0), (1, .ref p1), (3, .int a3), (5, .int v5), (6, .int v6), (7, .int v7), (8, .int v8), (9, .int v9), (10, .int v10), (11, .int v11)]) hx hb dL_users_240 hl (by decide) rfl (fun ls hl => ?_)
                    refine lv_iload hx hb dL_users_242 (lv_at hl 4 rfl) ?_
                    refine lv_iload hx hb dL_users_244 (lv_at hl 6 rfl) ?_
                    obtain ⟨r_38, e_39, h⟩ := bnd1_some h
                    refine gl_Si0 (As := [.int v7]) (rest := [.int v5]) ⟨hx, hb, hml, hown, hts⟩ (c_L_size l D _ fu v7 r_38 e_39) (va_cwS 1 hts gL_users_L_size rfl rfl rfl (by decide +kernel) ⟨Nat.le_of_ble_eq_true rfl, Nat.le_of_ble_eq_true rfl⟩) hK hP hD hS hA rfl rfl hl.1 rfl (lv_room (Nat.le_of_ble_eq_true rfl)) dL_users_246 ⟨Nat.le_of_ble_eq_true rfl, Nat.le_of_ble_eq_true rfl⟩ (fun H locs hP hD hS => ?_)
                    refine lv_iadd hx hb dL_users_249 ?_
                    refine lv_istore (lv' := [(5, .int (v5 + r_38)), (4, .int (v4 + (a3 * r_36))), (0, .ref x0), (1, .ref p1), (3, .int a3), (6, .int v6), (7, .int v7), (8, .int v8), (9, .int v9), (10, .int v10), (11, .int v11)]) hx hb dL_users_250 hl (by decide) rfl (fun ls hl => ?_)
                    refine lv_iinc (v := (v6 + 1)) (lv' := [(6, .int (v6 + 1)), (5, .int (v5 + r_38)), (4, .int (v4 + (a3 * r_36))), (0, .ref x0), (1, .ref p1), (3, .int a3), (7, .int v7), (8, .int v8), (9, .int v9), (10, .int v10), (11, .int v11)]) hx hb dL_users_252 hl (k := 5) rfl rfl (by decide) rfl (fun ls hl => ?_)
                    refine lv_goto (tgt := 14) hx hb dL_users_255 (by decide) ?_
                    exact ih.1 (v4 + (a3 * r_36)) (v5 + r_38) (v6 + 1) _ _ _ h hP hD hS (lv_sub hl [3, 4, 5, 2, 1, 0] rfl)
                  · replace h := (if_neg c_35).symm.trans h
                    refine lv_iconst (v := 0) hx hb dL_users_223 (by decide) ?_
                    cases h
                    exact W.zret hx hb hr rfl (fun t ht hW => ⟨⟨_, (), rfl, rfl, by rw [ht]; exact hP, va_K.moved hW.alike hK, hD⟩, hS.F ht⟩) hS.2.2 dL_users_224
        · replace h := (if_neg c_20).symm.trans h
          refine lv_iload hx hb dL_users_122 (lv_at hl 9 rfl) ?_
          refine lv_iload hx hb dL_users_124 (lv_at hl 6 rfl) ?_
          refine lv_iload hx hb dL_users_126 (lv_at hl 10 rfl) ?_
          refine lv_ishr hx hb dL_users_128 ?_
          refine lv_iconst (v := 1) hx hb dL_users_129 (by decide) ?_
          refine lv_iand hx hb dL_users_130 ?_
          refine lv_iconst (v := 1) hx hb dL_users_131 (by decide) ?_
          refine lv_icmp_ne (tgt := 148) hx hb dL_users_132 (by decide) (fun c_40 => ?_) (fun c_40 => ?_)
          · replace h := (if_neg c_40).symm.trans h
            refine lv_iconst (v := 0) hx hb dL_users_148 (by decide) ?_
            refine lv_iadd hx hb dL_users_149 ?_
            refine lv_istore (lv' := [(10, .int (v10 + 0)), (0, .ref x0), (1, .ref p1), (3, .int a3), (4, .int v4), (5, .int v5), (6, .int v6), (7, .int v7), (8, .int v8), (9, .int v9), (11, .int v11)]) hx hb dL_users_150 hl (by decide) rfl (fun ls hl => ?_)
            refine lv_iinc (v := (v11 + 1)) (lv' := [(11, .int (v11 + 1)), (10, .int (v10 + 0)), (0, .ref x0), (1, .ref p1), (3, .int a3), (4, .int v4), (5, .int v5), (6, .int v6), (7, .int v7), (8, .int v8), (9, .int v9)]) hx hb dL_users_152 hl (k := 10) rfl rfl (by decide) rfl (fun ls hl => ?_)
            refine lv_goto (tgt := 115) hx hb dL_users_155 (by decide) ?_
            exact ih.2.2 v4 v5 v6 v7 v8 v9 (v10 + 0) (v11 + 1) _ _ _ h hP hD hS (lv_sub hl [2, 3, 4, 5, 6, 7, 8, 9, 10, 1, 0] rfl)
          · replace h := (if_pos c_40).symm.trans h
            refine lv_aload_n hx hb dL_users_135 rfl (lv_at hl 1 rfl) ?_
            refine lv_iload hx hb dL_users_136 (lv_at hl 10 rfl) ?_
            obtain ⟨h_41, h⟩ := ix_some h
            refine va_iald hx hb hK hP 10 0 rfl rfl h_41 dL_users_138 ?_
            refine lv_iload hx hb dL_users_139 (lv_at hl 6 rfl) ?_
            refine lv_iand hx hb dL_users_141 ?_
            obtain ⟨r_42, e_43, h⟩ := bnd1_some h
            refine gl_Si0 (As := [.int ((b1 (Int32.toNatClampNeg v11)) &&& v7)]) (rest := [.int v10]) ⟨hx, hb, hml, hown, hts⟩ (c_L_size l D _ fu ((b1 (Int32.toNatClampNeg v11)) &&& v7) r_42 e_43) (va_cwS 1 hts gL_users_L_size rfl rfl rfl (by decide +kernel) ⟨Nat.le_of_ble_eq_true rfl, Nat.le_of_ble_eq_true rfl⟩) hK hP hD hS hA rfl rfl hl.1 rfl (lv_room (Nat.le_of_ble_eq_true rfl)) dL_users_142 ⟨Nat.le_of_ble_eq_true rfl, Nat.le_of_ble_eq_true rfl⟩ (fun H locs hP hD hS => ?_)
            refine lv_goto (tgt := 149) hx hb dL_users_145 (by decide) ?_
            refine lv_iadd hx hb dL_users_149 ?_
            refine lv_istore (lv' := [(10, .int (v10 + r_42)), (0, .ref x0), (1, .ref p1), (3, .int a3), (4, .int v4), (5, .int v5), (6, .int v6), (7, .int v7), (8, .int v8), (9, .int v9), (11, .int v11)]) hx hb dL_users_150 hl (by decide) rfl (fun ls hl => ?_)
            refine lv_iinc (v := (v11 + 1)) (lv' := [(11, .int (v11 + 1)), (10, .int (v10 + r_42)), (0, .ref x0), (1, .ref p1), (3, .int a3), (4, .int v4), (5, .int v5), (6, .int v6), (7, .int v7), (8, .int v8), (9, .int v9)]) hx hb dL_users_152 hl (k := 10) rfl rfl (by decide) rfl (fun ls hl => ?_)
            refine lv_goto (tgt := 115) hx hb dL_users_155 (by decide) ?_
            exact ih.2.2 v4 v5 v6 v7 v8 v9 (v10 + r_42) (v11 + 1) _ _ _ h hP hD hS (lv_sub hl [2, 3, 4, 5, 6, 7, 8, 9, 10, 1, 0] rfl)
  rw [m_L_users] at h
  refine lv_iload_n hx hb dL_users_0 rfl (lv_at hl 2 rfl) ?_
  refine lv_aload_n hx hb dL_users_1 rfl (lv_at hl 0 rfl) ?_
  refine gl_Vi (As := []) (rest := [.int a2]) (wc := wX cI cJ x0 x1 x2 x3 x4 x5 x6 x7 x8 x9 g rm op rc ec su pe qt rs rn cs cn lc hc lg hg) (w1 := wX cI cJ x0 x1 x2 x3 x4 x5 x6 x7 x8 x9 g rm op rc ec su pe qt rs rn cs cn lc hc lg hg) (wr := [(p1, .inl (cI, 12, .inl b1))]) ⟨hx, hb, hml, hown, hts⟩ (c_X0_roles l D cI cJ x0 x1 x2 x3 x4 x5 x6 x7 x8 x9 _ g rm op rc ec su pe qt rs rn cs cn lc hc lg hg ) (cwV 0 hts gL_users_X0_roles rfl rfl rfl (by decide +kernel) ⟨Nat.le_of_ble_eq_true rfl, Nat.le_of_ble_eq_true rfl⟩) hK hP hD hS hA [0, 1, 2, 3, 4, 5, 6, 7, 8, 9] [10] rfl rfl (by decide) (by decide) rfl rfl rfl rfl rfl hl.1 rfl (lv_room (Nat.le_of_ble_eq_true rfl)) dL_users_2 ⟨Nat.le_of_ble_eq_true rfl, Nat.le_of_ble_eq_true rfl⟩ (fun H locs hP hD hS => ?_)
  replace hP := hP.sub (ws' := wX cI cJ x0 x1 x2 x3 x4 x5 x6 x7 x8 x9 g rm op rc ec su pe qt rs rn cs cn lc hc lg hg ++ [(p1, .inl (cI, 12, .inl b1))]) [1, 2, 3, 4, 5, 6, 7, 8, 9, 10, 0] rfl
  replace hD := hD.sub (ws' := wX cI cJ x0 x1 x2 x3 x4 x5 x6 x7 x8 x9 g rm op rc ec su pe qt rs rn cs cn lc hc lg hg ++ [(p1, .inl (cI, 12, .inl b1))]) [1, 2, 3, 4, 5, 6, 7, 8, 9, 10, 0] (by decide) rfl
  refine lv_imul hx hb dL_users_5 ?_
  refine lv_istore (lv' := [(4, .int (a2 * (m_X0_roles rn))), (0, .ref x0), (1, .ref p1), (2, .int a2), (3, .int a3)]) hx hb dL_users_6 hl (by decide) rfl (fun ls hl => ?_)
  refine lv_iconst (v := 0) hx hb dL_users_8 (by decide) ?_
  refine lv_istore (lv' := [(5, .int 0), (4, .int (a2 * (m_X0_roles rn))), (0, .ref x0), (1, .ref p1), (2, .int a2), (3, .int a3)]) hx hb dL_users_9 hl (by decide) rfl (fun ls hl => ?_)
  refine lv_iconst (v := 0) hx hb dL_users_11 (by decide) ?_
  refine lv_istore (lv' := [(6, .int 0), (5, .int 0), (4, .int (a2 * (m_X0_roles rn))), (0, .ref x0), (1, .ref p1), (2, .int a2), (3, .int a3)]) hx hb dL_users_12 hl (by decide) rfl (fun ls hl => ?_)
  exact (L14 fu).1 (a2 * (m_X0_roles rn)) 0 0 _ _ _ h hP hD hS (lv_sub hl [3, 4, 6, 2, 1, 0] rfl)
