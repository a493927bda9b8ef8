-- X1_thrown
def m_X1_thrown (th : Int32) : (Int32) := th
set_option maxHeartbeats 4000000 in
set_option maxRecDepth 100000 in
theorem c_X1_thrown (l : Launch) (D : va_G) (cI cJ : ClassId) (y0 y1 y2 y3 y4 y5 y6 y7 y8 : Nat) (sz : Nat) (hs : Nat → Int32) (si : Nat → Int32) (ag : Nat → Int32) (la : Nat → Int32) (fo : Nat → Int32) (co : Nat → Int32) (cv : Nat → Int32) (ta : Nat → Int32) (rc : Int32) (ec : Int32) (su : Int32) (pe : Int32) (ti : Int32) (mn : Int32) (nu : Int32) (th : Int32) : Met l yX1_thrown wsX1_thrown ({ frames := 0, cells := 0, slots := 0, locals := 0 }) (va_Pc [.ref y0] (bx_Pre D [(cI, .int), (cJ, .long)] (wY cI cJ y0 y1 y2 y3 y4 y5 y6 y7 y8 hs si ag la fo co cv ta rc ec su pe ti mn nu th) sz)) (va_Qi (fun (r : Int32) (_ : Unit) => r = m_X1_thrown th) (fun (_ : Unit) t => bx_Post D [(cI, .int), (cJ, .long)] (wY cI cJ y0 y1 y2 y3 y4 y5 y6 y7 y8 hs si ag la fo co cv ta rc ec su pe ti mn nu th) (va_A (wY cI cJ y0 y1 y2 y3 y4 y5 y6 y7 y8 hs si ag la fo co cv ta rc ec su pe ti mn nu th) sz) t) (va_A (wY cI cJ y0 y1 y2 y3 y4 y5 y6 y7 y8 hs si ag la fo co cv ta rc ec su pe ti mn nu th) sz)) 0 0 (va_A (wY cI cJ y0 y1 y2 y3 y4 y5 y6 y7 y8 hs si ag la fo co cv ta rc ec su pe ti mn nu th) sz) := by
  refine Met.ofW (cc := cX1_thrown) (maxL := 1) (ret := (some .int)) (by decide) rfl ?_
  intro p e s m args below meth c s₁ B hml hv
  obtain ⟨rfl, hsz, hP, hK, hD0⟩ := hv
  have hx := B.exec
  have hb := B.bytes
  have hr := B.returns
  have hts := atoms_spec (ws := wsX1_thrown) B.pre
  have hown : s.vm.findClass RX1 = some m.cls := findClass_of_methodNamed B.named
  have hlocks := B.notSynchronized
  subst hsz
  have hD := hD0.self (sz := s.heap.size)
  generalize hAe : va_A (wY cI cJ y0 y1 y2 y3 y4 y5 y6 y7 y8 hs si ag la fo co cv ta rc ec su pe ti mn nu th) s.heap.size = A at hD ⊢
  have hA : ∀ q : Nat, s.heap.size ≤ q → A q := fun q h9 => by rw [← hAe]; exact Or.inr h9
  have hS : va_S A s.heap s.heap [] := va_S.rf
  have hin : ∀ w ∈ wsX10, w ∈ wsX1_thrown := fun _ h9 => List.mem_cons_of_mem _ (List.mem_append_right _ h9)
  have hw_0 := hts (.fieldLink RX1 47 "RoleMinerModel" "thrown" "I") (by decide +kernel)
  have hl := lv_entry ([.ref y0]) (n := 1) (Nat.le_of_ble_eq_true rfl)
  rw [lg_entry_eq]
  generalize (lg_sl ([.ref y0]) ++ List.replicate (1 - (lg_sl ([.ref y0])).length) Slot.unset).toArray = ls at hl ⊢
  have hl : lv_has ls 1 [(0, .ref y0)] := hl
  refine lv_aload_n hx hb dX1_thrown_0 rfl (lv_at hl 0 rfl) ?_
  refine va_get (D := D) (ci := 1) (v := .int th) (C := RX1) (T := TX1) (N := 16) hx hb hts hin hown hK hP 0 rfl rfl 15 (by decide) hw_0 (fun _ h9 => h9) rfl dX1_thrown_1 ?_
  exact W.iret hx hb hr (fun t ht hW => ⟨⟨_, (), rfl, (by rw [m_X1_thrown]), by rw [ht]; exact hP, va_K.moved hW.alike hK, hD⟩, hS.F ht⟩) hS.2.2 dX1_thrown_4
-- X1_holds
def m_X1_holds (th : Int32) (a1 : Int32) : Option ((Int32) × ((Int32))) := (if a1 ≤ 0 then some (0, a1) else some (1, a1))
set_option maxHeartbeats 4000000 in
set_option maxRecDepth 100000 in
theorem c_X1_holds (l : Launch) (D : va_G) (cI cJ : ClassId) (y0 y1 y2 y3 y4 y5 y6 y7 y8 : Nat) (sz : Nat) (hs : Nat → Int32) (si : Nat → Int32) (ag : Nat → Int32) (la : Nat → Int32) (fo : Nat → Int32) (co : Nat → Int32) (cv : Nat → Int32) (ta : Nat → Int32) (rc : Int32) (ec : Int32) (su : Int32) (pe : Int32) (ti : Int32) (mn : Int32) (nu : Int32) (th : Int32) (a1 : Int32) (r0 : Int32) (th' : Int32) (h : m_X1_holds th a1 = some (r0, th')) : Met l yX1_holds wsX1_holds ({ frames := 0, cells := 0, slots := 0, locals := 0 }) (va_Pc [.ref y0, .int a1] (bx_Pre D [(cI, .int), (cJ, .long)] (wY cI cJ y0 y1 y2 y3 y4 y5 y6 y7 y8 hs si ag la fo co cv ta rc ec su pe ti mn nu th) sz)) (va_Qi (fun (r : Int32) (_ : Unit) => r = r0) (fun (_ : Unit) t => bx_Post D [(cI, .int), (cJ, .long)] (wY cI cJ y0 y1 y2 y3 y4 y5 y6 y7 y8 hs si ag la fo co cv ta rc ec su pe ti mn nu th') (va_A (wY cI cJ y0 y1 y2 y3 y4 y5 y6 y7 y8 hs si ag la fo co cv ta rc ec su pe ti mn nu th) sz) t) (va_A (wY cI cJ y0 y1 y2 y3 y4 y5 y6 y7 y8 hs si ag la fo co cv ta rc ec su pe ti mn nu th) sz)) 0 0 (va_A (wY cI cJ y0 y1 y2 y3 y4 y5 y6 y7 y8 hs si ag la fo co cv ta rc ec su pe ti mn nu th) sz) := by
  refine Met.ofW (cc := cX1_holds) (maxL := 2) (ret := (some .boolean)) (by decide) rfl ?_
  intro p e s m args below meth c s₁ B hml hv
  obtain ⟨rfl, hsz, hP, hK, hD0⟩ := hv
  have hx := B.exec
  have hb := B.bytes
  have hr := B.returns
  have hts := atoms_spec (ws := wsX1_holds) B.pre
  have hown : s.vm.findClass RX1 = some m.cls := findClass_of_methodNamed B.named
  have hlocks := B.notSynchronized
  subst hsz
  have hD := hD0.self (sz := s.heap.size)
  generalize hAe : va_A (wY cI cJ y0 y1 y2 y3 y4 y5 y6 y7 y8 hs si ag la fo co cv ta rc ec su pe ti mn nu th) s.heap.size = A at hD ⊢
  have hA : ∀ q : Nat, s.heap.size ≤ q → A q := fun q h9 => by rw [← hAe]; exact Or.inr h9
  have hS : va_S A s.heap s.heap [] := va_S.rf
  have hin : ∀ w ∈ wsX10, w ∈ wsX1_holds := fun _ h9 => List.mem_cons_of_mem _ (List.mem_append_right _ h9)
  have hw_0 := hts (.fieldLink RX1 47 "RoleMinerModel" "thrown" "I") (by decide +kernel)
  have hl := lv_entry ([.ref y0, .int a1]) (n := 2) (Nat.le_of_ble_eq_true rfl)
  rw [lg_entry_eq]
  generalize (lg_sl ([.ref y0, .int a1]) ++ List.replicate (2 - (lg_sl ([.ref y0, .int a1])).length) Slot.unset).toArray = ls at hl ⊢
  have hl : lv_has ls 2 [(0, .ref y0), (1, .int a1)] := hl
  rw [m_X1_holds] at h
  refine lv_aload_n hx hb dX1_holds_0 rfl (lv_at hl 0 rfl) ?_
  refine lv_iload_n hx hb dX1_holds_1 rfl (lv_at hl 1 rfl) ?_
  refine va_put (D := D) (ci := 1) (v := .int a1) (ty := .int) (C := RX1) (T := TX1) (N := 16) hx hb hts hin tyX1 tyX1_ok nmX1 hown hK hP hD hS 0 rfl rfl 15 (by decide) hw_0 (fun _ h9 => h9) rfl (by decide +kernel) rfl rfl (Nat.le_of_ble_eq_true rfl) dX1_holds_2 (fun H locs hP hD hS => ?_)
  have hP : va_P D vwCl (wY cI cJ y0 y1 y2 y3 y4 y5 y6 y7 y8 hs si ag la fo co cv ta rc ec su pe ti mn nu a1) H := hP
  have hD : va_D A (wY cI cJ y0 y1 y2 y3 y4 y5 y6 y7 y8 hs si ag la fo co cv ta rc ec su pe ti mn nu a1) := hD
  refine lv_iload_n hx hb dX1_holds_5 rfl (lv_at hl 1 rfl) ?_
  refine lv_if_le (tgt := 13) hx hb dX1_holds_6 (by decide) (fun c_1 => ?_) (fun c_1 => ?_)
  · replace h := (if_pos c_1).symm.trans h
    refine lv_iconst (v := 0) hx hb dX1_holds_13 (by decide) ?_
    cases h
    exact W.zret hx hb hr rfl (fun t ht hW => ⟨⟨_, (), rfl, rfl, by rw [ht]; exact hP, va_K.moved hW.alike hK, hD⟩, hS.F ht⟩) hS.2.2 dX1_holds_14
  · replace h := (if_neg c_1).symm.trans h
    refine lv_iconst (v := 1) hx hb dX1_holds_9 (by decide) ?_
    refine lv_goto (tgt := 14) hx hb dX1_holds_10 (by decide) ?_
    cases h
    exact W.zret hx hb hr rfl (fun t ht hW => ⟨⟨_, (), rfl, rfl, by rw [ht]; exact hP, va_K.moved hW.alike hK, hD⟩, hS.F ht⟩) hS.2.2 dX1_holds_14
-- X1_plain
def m_X1_plain (th : Int32) (a1 : Int32) : Option ((Int32) × ((Int32))) := some (a1, 0)
set_option maxHeartbeats 4000000 in
set_option maxRecDepth 100000 in
theorem c_X1_plain (l : Launch) (D : va_G) (cI cJ : ClassId) (y0 y1 y2 y3 y4 y5 y6 y7 y8 : Nat) (sz : Nat) (hs : Nat → Int32) (si : Nat → Int32) (ag : Nat → Int32) (la : Nat → Int32) (fo : Nat → Int32) (co : Nat → Int32) (cv : Nat → Int32) (ta : Nat → Int32) (rc : Int32) (ec : Int32) (su : Int32) (pe : Int32) (ti : Int32) (mn : Int32) (nu : Int32) (th : Int32) (a1 : Int32) (r0 : Int32) (th' : Int32) (h : m_X1_plain th a1 = some (r0, th')) : Met l yX1_plain wsX1_plain ({ frames := 0, cells := 0, slots := 0, locals := 0 }) (va_Pc [.ref y0, .int a1] (bx_Pre D [(cI, .int), (cJ, .long)] (wY cI cJ y0 y1 y2 y3 y4 y5 y6 y7 y8 hs si ag la fo co cv ta rc ec su pe ti mn nu th) sz)) (va_Qi (fun (r : Int32) (_ : Unit) => r = r0) (fun (_ : Unit) t => bx_Post D [(cI, .int), (cJ, .long)] (wY cI cJ y0 y1 y2 y3 y4 y5 y6 y7 y8 hs si ag la fo co cv ta rc ec su pe ti mn nu th') (va_A (wY cI cJ y0 y1 y2 y3 y4 y5 y6 y7 y8 hs si ag la fo co cv ta rc ec su pe ti mn nu th) sz) t) (va_A (wY cI cJ y0 y1 y2 y3 y4 y5 y6 y7 y8 hs si ag la fo co cv ta rc ec su pe ti mn nu th) sz)) 0 0 (va_A (wY cI cJ y0 y1 y2 y3 y4 y5 y6 y7 y8 hs si ag la fo co cv ta rc ec su pe ti mn nu th) sz) := by
  refine Met.ofW (cc := cX1_plain) (maxL := 2) (ret := (some .int)) (by decide) rfl ?_
  intro p e s m args below meth c s₁ B hml hv
  obtain ⟨rfl, hsz, hP, hK, hD0⟩ := hv
  have hx := B.exec
  have hb := B.bytes
  have hr := B.returns
  have hts := atoms_spec (ws := wsX1_plain) B.pre
  have hown : s.vm.findClass RX1 = some m.cls := findClass_of_methodNamed B.named
  have hlocks := B.notSynchronized
  subst hsz
  have hD := hD0.self (sz := s.heap.size)
  generalize hAe : va_A (wY cI cJ y0 y1 y2 y3 y4 y5 y6 y7 y8 hs si ag la fo co cv ta rc ec su pe ti mn nu th) s.heap.size = A at hD ⊢
  have hA : ∀ q : Nat, s.heap.size ≤ q → A q := fun q h9 => by rw [← hAe]; exact Or.inr h9
  have hS : va_S A s.heap s.heap [] := va_S.rf
  have hin : ∀ w ∈ wsX10, w ∈ wsX1_plain := fun _ h9 => List.mem_cons_of_mem _ (List.mem_append_right _ h9)
  have hw_0 := hts (.fieldLink RX1 47 "RoleMinerModel" "thrown" "I") (by decide +kernel)
  have hl := lv_entry ([.ref y0, .int a1]) (n := 2) (Nat.le_of_ble_eq_true rfl)
  rw [lg_entry_eq]
  generalize (lg_sl ([.ref y0, .int a1]) ++ List.replicate (2 - (lg_sl ([.ref y0, .int a1])).length) Slot.unset).toArray = ls at hl ⊢
  have hl : lv_has ls 2 [(0, .ref y0), (1, .int a1)] := hl
  rw [m_X1_plain] at h
  refine lv_aload_n hx hb dX1_plain_0 rfl (lv_at hl 0 rfl) ?_
  refine lv_iconst (v := 0) hx hb dX1_plain_1 (by decide) ?_
  refine va_put (D := D) (ci := 1) (v := .int 0) (ty := .int) (C := RX1) (T := TX1) (N := 16) hx hb hts hin tyX1 tyX1_ok nmX1 hown hK hP hD hS 0 rfl rfl 15 (by decide) hw_0 (fun _ h9 => h9) rfl (by decide +kernel) rfl rfl (Nat.le_of_ble_eq_true rfl) dX1_plain_2 (fun H locs hP hD hS => ?_)
  have hP : va_P D vwCl (wY cI cJ y0 y1 y2 y3 y4 y5 y6 y7 y8 hs si ag la fo co cv ta rc ec su pe ti mn nu 0) H := hP
  have hD : va_D A (wY cI cJ y0 y1 y2 y3 y4 y5 y6 y7 y8 hs si ag la fo co cv ta rc ec su pe ti mn nu 0) := hD
  refine lv_iload_n hx hb dX1_plain_5 rfl (lv_at hl 1 rfl) ?_
  cases h
  exact W.iret hx hb hr (fun t ht hW => ⟨⟨_, (), rfl, rfl, by rw [ht]; exact hP, va_K.moved hW.alike hK, hD⟩, hS.F ht⟩) hS.2.2 dX1_plain_6
-- X1_between
def m_X1_between (a1 : Int32) (a2 : Int32) (a3 : Int32) : (Int32) := (if a1 < a2 then 0 else (if a3 < a1 then 0 else 1))
theorem nb_X1_between (a1 : Int32) (a2 : Int32) (a3 : Int32) : narrow .boolean (.int (m_X1_between a1 a2 a3)) = .int (m_X1_between a1 a2 a3) := by
  unfold m_X1_between; repeat' split
  all_goals rfl
set_option maxHeartbeats 4000000 in
set_option maxRecDepth 100000 in
theorem c_X1_between (l : Launch) (D : va_G) (cI cJ : ClassId) (y0 y1 y2 y3 y4 y5 y6 y7 y8 : Nat) (sz : Nat) (hs : Nat → Int32) (si : Nat → Int32) (ag : Nat → Int32) (la : Nat → Int32) (fo : Nat → Int32) (co : Nat → Int32) (cv : Nat → Int32) (ta : Nat → Int32) (rc : Int32) (ec : Int32) (su : Int32) (pe : Int32) (ti : Int32) (mn : Int32) (nu : Int32) (th : Int32) (a1 : Int32) (a2 : Int32) (a3 : Int32) : Met l yX1_between wsX1_between ({ frames := 0, cells := 0, slots := 0, locals := 0 }) (va_Pc [.ref y0, .int a1, .int a2, .int a3] (bx_Pre D [(cI, .int), (cJ, .long)] (wY cI cJ y0 y1 y2 y3 y4 y5 y6 y7 y8 hs si ag la fo co cv ta rc ec su pe ti mn nu th) sz)) (va_Qi (fun (r : Int32) (_ : Unit) => r = m_X1_between a1 a2 a3) (fun (_ : Unit) t => bx_Post D [(cI, .int), (cJ, .long)] (wY cI cJ y0 y1 y2 y3 y4 y5 y6 y7 y8 hs si ag la fo co cv ta rc ec su pe ti mn nu th) (va_A (wY cI cJ y0 y1 y2 y3 y4 y5 y6 y7 y8 hs si ag la fo co cv ta rc ec su pe ti mn nu th) sz) t) (va_A (wY cI cJ y0 y1 y2 y3 y4 y5 y6 y7 y8 hs si ag la fo co cv ta rc ec su pe ti mn nu th) sz)) 0 0 (va_A (wY cI cJ y0 y1 y2 y3 y4 y5 y6 y7 y8 hs si ag la fo co cv ta rc ec su pe ti mn nu th) sz) := by
  refine Met.ofW (cc := cX1_between) (maxL := 4) (ret := (some .boolean)) (by decide) rfl ?_
  intro p e s m args below meth c s₁ B hml hv
  obtain ⟨rfl, hsz, hP, hK, hD0⟩ := hv
  have hx := B.exec
  have hb := B.bytes
  have hr := B.returns
  have hts := atoms_spec (ws := wsX1_between) B.pre
  have hown : s.vm.findClass RX1 = some m.cls := findClass_of_methodNamed B.named
  have hlocks := B.notSynchronized
  subst hsz
  have hD := hD0.self (sz := s.heap.size)
  generalize hAe : va_A (wY cI cJ y0 y1 y2 y3 y4 y5 y6 y7 y8 hs si ag la fo co cv ta rc ec su pe ti mn nu th) s.heap.size = A at hD ⊢
  have hA : ∀ q : Nat, s.heap.size ≤ q → A q := fun q h9 => by rw [← hAe]; exact Or.inr h9
  have hS : va_S A s.heap s.heap [] := va_S.rf
  have hl := lv_entry ([.ref y0, .int a1, .int a2, .int a3]) (n := 4) (Nat.le_of_ble_eq_true rfl)
  rw [lg_entry_eq]
  generalize (lg_sl ([.ref y0, .int a1, .int a2, .int a3]) ++ List.replicate (4 - (lg_sl ([.ref y0, .int a1, .int a2, .int a3])).length) Slot.unset).toArray = ls at hl ⊢
  have hl : lv_has ls 4 [(0, .ref y0), (1, .int a1), (2, .int a2), (3, .int a3)] := hl
  refine lv_iload_n hx hb dX1_between_0 rfl (lv_at hl 1 rfl) ?_
  refine lv_iload_n hx hb dX1_between_1 rfl (lv_at hl 2 rfl) ?_
  refine lv_icmp_lt (tgt := 14) hx hb dX1_between_2 (by decide) (fun c_1 => ?_) (fun c_1 => ?_)
  · refine lv_iconst (v := 0) hx hb dX1_between_14 (by decide) ?_
    exact W.zret hx hb hr rfl (fun t ht hW => ⟨⟨_, (), rfl, (by rw [m_X1_between, if_pos c_1]), by rw [ht]; exact hP, va_K.moved hW.alike hK, hD⟩, hS.F ht⟩) hS.2.2 dX1_between_15
  · refine lv_iload_n hx hb dX1_between_5 rfl (lv_at hl 1 rfl) ?_
    refine lv_iload_n hx hb dX1_between_6 rfl (lv_at hl 3 rfl) ?_
    refine lv_icmp_gt (tgt := 14) hx hb dX1_between_7 (by decide) (fun c_2 => ?_) (fun c_2 => ?_)
    · refine lv_iconst (v := 0) hx hb dX1_between_14 (by decide) ?_
      exact W.zret hx hb hr rfl (fun t ht hW => ⟨⟨_, (), rfl, (by rw [m_X1_between, if_neg c_1, if_pos c_2]), by rw [ht]; exact hP, va_K.moved hW.alike hK, hD⟩, hS.F ht⟩) hS.2.2 dX1_between_15
    · refine lv_iconst (v := 1) hx hb dX1_between_10 (by decide) ?_
      refine lv_goto (tgt := 15) hx hb dX1_between_11 (by decide) ?_
      exact W.zret hx hb hr rfl (fun t ht hW => ⟨⟨_, (), rfl, (by rw [m_X1_between, if_neg c_1, if_neg c_2]), by rw [ht]; exact hP, va_K.moved hW.alike hK, hD⟩, hS.F ht⟩) hS.2.2 dX1_between_15
-- X1_isUser
def m_X1_isUser (a1 : Int32) : (Int32) := (m_X1_between a1 0 7)
theorem nb_X1_isUser (a1 : Int32) : narrow .boolean (.int (m_X1_isUser a1)) = .int (m_X1_isUser a1) := by
  rw [m_X1_isUser]; exact nb_X1_between ..
set_option maxHeartbeats 4000000 in
set_option maxRecDepth 100000 in
theorem c_X1_isUser (l : Launch) (D : va_G) (cI cJ : ClassId) (y0 y1 y2 y3 y4 y5 y6 y7 y8 : Nat) (sz : Nat) (hs : Nat → Int32) (si : Nat → Int32) (ag : Nat → Int32) (la : Nat → Int32) (fo : Nat → Int32) (co : Nat → Int32) (cv : Nat → Int32) (ta : Nat → Int32) (rc : Int32) (ec : Int32) (su : Int32) (pe : Int32) (ti : Int32) (mn : Int32) (nu : Int32) (th : Int32) (a1 : Int32) : Met l yX1_isUser wsX1_isUser ({ frames := 1, cells := 0, slots := 0, locals := 23 }) (va_Pc [.ref y0, .int a1] (bx_Pre D [(cI, .int), (cJ, .long)] (wY cI cJ y0 y1 y2 y3 y4 y5 y6 y7 y8 hs si ag la fo co cv ta rc ec su pe ti mn nu th) sz)) (va_Qi (fun (r : Int32) (_ : Unit) => r = m_X1_isUser a1) (fun (_ : Unit) t => bx_Post D [(cI, .int), (cJ, .long)] (wY cI cJ y0 y1 y2 y3 y4 y5 y6 y7 y8 hs si ag la fo co cv ta rc ec su pe ti mn nu th) (va_A (wY cI cJ y0 y1 y2 y3 y4 y5 y6 y7 y8 hs si ag la fo co cv ta rc ec su pe ti mn nu th) sz) t) (va_A (wY cI cJ y0 y1 y2 y3 y4 y5 y6 y7 y8 hs si ag la fo co cv ta rc ec su pe ti mn nu th) sz)) 0 0 (va_A (wY cI cJ y0 y1 y2 y3 y4 y5 y6 y7 y8 hs si ag la fo co cv ta rc ec su pe ti mn nu th) sz) := by
  refine Met.ofW (cc := cX1_isUser) (maxL := 2) (ret := (some .boolean)) (by decide) rfl ?_
  intro p e s m args below meth c s₁ B hml hv
  obtain ⟨rfl, hsz, hP, hK, hD0⟩ := hv
  have hx := B.exec
  have hb := B.bytes
  have hr := B.returns
  have hts := atoms_spec (ws := wsX1_isUser) B.pre
  have hown : s.vm.findClass RX1 = some m.cls := findClass_of_methodNamed B.named
  have hlocks := B.notSynchronized
  subst hsz
  have hD := hD0.self (sz := s.heap.size)
  generalize hAe : va_A (wY cI cJ y0 y1 y2 y3 y4 y5 y6 y7 y8 hs si ag la fo co cv ta rc ec su pe ti mn nu th) s.heap.size = A at hD ⊢
  have hA : ∀ q : Nat, s.heap.size ≤ q → A q := fun q h9 => by rw [← hAe]; exact Or.inr h9
  have hS : va_S A s.heap s.heap [] := va_S.rf
  have hl := lv_entry ([.ref y0, .int a1]) (n := 2) (Nat.le_of_ble_eq_true rfl)
  rw [lg_entry_eq]
  generalize (lg_sl ([.ref y0, .int a1]) ++ List.replicate (2 - (lg_sl ([.ref y0, .int a1])).length) Slot.unset).toArray = ls at hl ⊢
  have hl : lv_has ls 2 [(0, .ref y0), (1, .int a1)] := hl
  refine lv_aload_n hx hb dX1_isUser_0 rfl (lv_at hl 0 rfl) ?_
  refine lv_iload_n hx hb dX1_isUser_1 rfl (lv_at hl 1 rfl) ?_
  refine lv_iconst (v := 0) hx hb dX1_isUser_2 (by decide) ?_
  refine lv_bipush (v := 7) hx hb dX1_isUser_3 (by decide) ?_
  refine cl_Vi (As := [.int a1, .int 0, .int 7]) (rest := []) (wc := wY cI cJ y0 y1 y2 y3 y4 y5 y6 y7 y8 hs si ag la fo co cv ta rc ec su pe ti mn nu th) (w1 := wY cI cJ y0 y1 y2 y3 y4 y5 y6 y7 y8 hs si ag la fo co cv ta rc ec su pe ti mn nu th) (wr := []) ⟨hx, hb, hml, hown, hts⟩ (c_X1_between l D cI cJ y0 y1 y2 y3 y4 y5 y6 y7 y8 _ hs si ag la fo co cv ta rc ec su pe ti mn nu th a1 0 7) (cwV 3 hts gX1_isUser_X1_between rfl rfl rfl (by decide +kernel) ⟨Nat.le_of_ble_eq_true rfl, Nat.le_of_ble_eq_true rfl⟩) hK hP hD hS hA [0, 1, 2, 3, 4, 5, 6, 7, 8] [] rfl rfl (by decide) (by decide) rfl rfl rfl rfl rfl hl.1 rfl (lv_room (Nat.le_of_ble_eq_true rfl)) dX1_isUser_5 (fun H locs hP hD hS => ?_)
  have hP : va_P D vwCl (wY cI cJ y0 y1 y2 y3 y4 y5 y6 y7 y8 hs si ag la fo co cv ta rc ec su pe ti mn nu th) H := hP
  have hD : va_D A (wY cI cJ y0 y1 y2 y3 y4 y5 y6 y7 y8 hs si ag la fo co cv ta rc ec su pe ti mn nu th) := hD
  exact W.zret hx hb hr (nb_X1_between ..) (fun t ht hW => ⟨⟨_, (), rfl, (by rw [m_X1_isUser]), by rw [ht]; exact hP, va_K.moved hW.alike hK, hD⟩, hS.F ht⟩) hS.2.2 dX1_isUser_8
-- X1_isPermission
def m_X1_isPermission (a1 : Int32) : (Int32) := (m_X1_between a1 0 11)
theorem nb_X1_isPermission (a1 : Int32) : narrow .boolean (.int (m_X1_isPermission a1)) = .int (m_X1_isPermission a1) := by
  rw [m_X1_isPermission]; exact nb_X1_between ..
set_option maxHeartbeats 4000000 in
set_option maxRecDepth 100000 in
theorem c_X1_isPermission (l : Launch) (D : va_G) (cI cJ : ClassId) (y0 y1 y2 y3 y4 y5 y6 y7 y8 : Nat) (sz : Nat) (hs : Nat → Int32) (si : Nat → Int32) (ag : Nat → Int32) (la : Nat → Int32) (fo : Nat → Int32) (co : Nat → Int32) (cv : Nat → Int32) (ta : Nat → Int32) (rc : Int32) (ec : Int32) (su : Int32) (pe : Int32) (ti : Int32) (mn : Int32) (nu : Int32) (th : Int32) (a1 : Int32) : Met l yX1_isPermission wsX1_isPermission ({ frames := 1, cells := 0, slots := 0, locals := 23 }) (va_Pc [.ref y0, .int a1] (bx_Pre D [(cI, .int), (cJ, .long)] (wY cI cJ y0 y1 y2 y3 y4 y5 y6 y7 y8 hs si ag la fo co cv ta rc ec su pe ti mn nu th) sz)) (va_Qi (fun (r : Int32) (_ : Unit) => r = m_X1_isPermission a1) (fun (_ : Unit) t => bx_Post D [(cI, .int), (cJ, .long)] (wY cI cJ y0 y1 y2 y3 y4 y5 y6 y7 y8 hs si ag la fo co cv ta rc ec su pe ti mn nu th) (va_A (wY cI cJ y0 y1 y2 y3 y4 y5 y6 y7 y8 hs si ag la fo co cv ta rc ec su pe ti mn nu th) sz) t) (va_A (wY cI cJ y0 y1 y2 y3 y4 y5 y6 y7 y8 hs si ag la fo co cv ta rc ec su pe ti mn nu th) sz)) 0 0 (va_A (wY cI cJ y0 y1 y2 y3 y4 y5 y6 y7 y8 hs si ag la fo co cv ta rc ec su pe ti mn nu th) sz) := by
  refine Met.ofW (cc := cX1_isPermission) (maxL := 2) (ret := (some .boolean)) (by decide) rfl ?_
  intro p e s m args below meth c s₁ B hml hv
  obtain ⟨rfl, hsz, hP, hK, hD0⟩ := hv
  have hx := B.exec
  have hb := B.bytes
  have hr := B.returns
  have hts := atoms_spec (ws := wsX1_isPermission) B.pre
  have hown : s.vm.findClass RX1 = some m.cls := findClass_of_methodNamed B.named
  have hlocks := B.notSynchronized
  subst hsz
  have hD := hD0.self (sz := s.heap.size)
  generalize hAe : va_A (wY cI cJ y0 y1 y2 y3 y4 y5 y6 y7 y8 hs si ag la fo co cv ta rc ec su pe ti mn nu th) s.heap.size = A at hD ⊢
  have hA : ∀ q : Nat, s.heap.size ≤ q → A q := fun q h9 => by rw [← hAe]; exact Or.inr h9
  have hS : va_S A s.heap s.heap [] := va_S.rf
  have hl := lv_entry ([.ref y0, .int a1]) (n := 2) (Nat.le_of_ble_eq_true rfl)
  rw [lg_entry_eq]
  generalize (lg_sl ([.ref y0, .int a1]) ++ List.replicate (2 - (lg_sl ([.ref y0, .int a1])).length) Slot.unset).toArray = ls at hl ⊢
  have hl : lv_has ls 2 [(0, .ref y0), (1, .int a1)] := hl
  refine lv_aload_n hx hb dX1_isPermission_0 rfl (lv_at hl 0 rfl) ?_
  refine lv_iload_n hx hb dX1_isPermission_1 rfl (lv_at hl 1 rfl) ?_
  refine lv_iconst (v := 0) hx hb dX1_isPermission_2 (by decide) ?_
  refine lv_bipush (v := 11) hx hb dX1_isPermission_3 (by decide) ?_
  refine cl_Vi (As := [.int a1, .int 0, .int 11]) (rest := []) (wc := wY cI cJ y0 y1 y2 y3 y4 y5 y6 y7 y8 hs si ag la fo co cv ta rc ec su pe ti mn nu th) (w1 := wY cI cJ y0 y1 y2 y3 y4 y5 y6 y7 y8 hs si ag la fo co cv ta rc ec su pe ti mn nu th) (wr := []) ⟨hx, hb, hml, hown, hts⟩ (c_X1_between l D cI cJ y0 y1 y2 y3 y4 y5 y6 y7 y8 _ hs si ag la fo co cv ta rc ec su pe ti mn nu th a1 0 11) (cwV 3 hts gX1_isPermission_X1_between rfl rfl rfl (by decide +kernel) ⟨Nat.le_of_ble_eq_true rfl, Nat.le_of_ble_eq_true rfl⟩) hK hP hD hS hA [0, 1, 2, 3, 4, 5, 6, 7, 8] [] rfl rfl (by decide) (by decide) rfl rfl rfl rfl rfl hl.1 rfl (lv_room (Nat.le_of_ble_eq_true rfl)) dX1_isPermission_5 (fun H locs hP hD hS => ?_)
  have hP : va_P D vwCl (wY cI cJ y0 y1 y2 y3 y4 y5 y6 y7 y8 hs si ag la fo co cv ta rc ec su pe ti mn nu th) H := hP
  have hD : va_D A (wY cI cJ y0 y1 y2 y3 y4 y5 y6 y7 y8 hs si ag la fo co cv ta rc ec su pe ti mn nu th) := hD
  exact W.zret hx hb hr (nb_X1_between ..) (fun t ht hW => ⟨⟨_, (), rfl, (by rw [m_X1_isPermission]), by rw [ht]; exact hP, va_K.moved hW.alike hK, hD⟩, hS.F ht⟩) hS.2.2 dX1_isPermission_8
-- X1_size
def m_X1_size_4 (fu : Nat) (a1 : Int32) : Nat → Int32 → Int32 → Option ((Int32))
  | 0, _, _ => none
  | n + 1, v2, v3 => (if v3 = 0 then some v2 else (m_X1_size_4 fu a1 n (v2 + 1) (v3 &&& (v3 - 1))))
def m_X1_size (fu : Nat) (a1 : Int32) : Option ((Int32)) := (m_X1_size_4 fu a1 fu 0 a1)
set_option maxHeartbeats 4000000 in
set_option maxRecDepth 100000 in
theorem c_X1_size (l : Launch) (D : va_G) (cI cJ : ClassId) (y0 y1 y2 y3 y4 y5 y6 y7 y8 : Nat) (sz : Nat) (hs : Nat → Int32) (si : Nat → Int32) (ag : Nat → Int32) (la : Nat → Int32) (fo : Nat → Int32) (co : Nat → Int32) (cv : Nat → Int32) (ta : Nat → Int32) (rc : Int32) (ec : Int32) (su : Int32) (pe : Int32) (ti : Int32) (mn : Int32) (nu : Int32) (th : Int32) (fu : Nat) (a1 : Int32) (r0 : Int32) (h : m_X1_size fu a1 = some r0) : Met l yX1_size wsX1_size ({ frames := 0, cells := 0, slots := 0, locals := 0 }) (va_Pc [.ref y0, .int a1] (bx_Pre D [(cI, .int), (cJ, .long)] (wY cI cJ y0 y1 y2 y3 y4 y5 y6 y7 y8 hs si ag la fo co cv ta rc ec su pe ti mn nu th) sz)) (va_Qi (fun (r : Int32) (_ : Unit) => r = r0) (fun (_ : Unit) t => bx_Post D [(cI, .int), (cJ, .long)] (wY cI cJ y0 y1 y2 y3 y4 y5 y6 y7 y8 hs si ag la fo co cv ta rc ec su pe ti mn nu th) (va_A (wY cI cJ y0 y1 y2 y3 y4 y5 y6 y7 y8 hs si ag la fo co cv ta rc ec su pe ti mn nu th) sz) t) (va_A (wY cI cJ y0 y1 y2 y3 y4 y5 y6 y7 y8 hs si ag la fo co cv ta rc ec su pe ti mn nu th) sz)) 0 0 (va_A (wY cI cJ y0 y1 y2 y3 y4 y5 y6 y7 y8 hs si ag la fo co cv ta rc ec su pe ti mn nu th) sz) := by
  refine Met.ofW (cc := cX1_size) (maxL := 4) (ret := (some .int)) (by decide) rfl ?_
  intro p e s m args below meth c s₁ B hml hv
  obtain ⟨rfl, hsz, hP, hK, hD0⟩ := hv
  have hx := B.exec
  have hb := B.bytes
  have hr := B.returns
  have hts := atoms_spec (ws := wsX1_size) B.pre
  have hown : s.vm.findClass RX1 = some m.cls := findClass_of_methodNamed B.named
  have hlocks := B.notSynchronized
  subst hsz
  have hD := hD0.self (sz := s.heap.size)
  generalize hAe : va_A (wY cI cJ y0 y1 y2 y3 y4 y5 y6 y7 y8 hs si ag la fo co cv ta rc ec su pe ti mn nu th) s.heap.size = A at hD ⊢
  have hA : ∀ q : Nat, s.heap.size ≤ q → A q := fun q h9 => by rw [← hAe]; exact Or.inr h9
  have hS : va_S A s.heap s.heap [] := va_S.rf
  have hl := lv_entry ([.ref y0, .int a1]) (n := 4) (Nat.le_of_ble_eq_true rfl)
  rw [lg_entry_eq]
  generalize (lg_sl ([.ref y0, .int a1]) ++ List.replicate (4 - (lg_sl ([.ref y0, .int a1])).length) Slot.unset).toArray = ls at hl ⊢
  have hl : lv_has ls 4 [(0, .ref y0), (1, .int a1)] := hl
  have L4 : ∀ (n : Nat) (v2 : Int32) (v3 : Int32) (H : Heap) (locs : List Loc) (ls : Array Slot), m_X1_size_4 fu a1 n v2 v3 = some r0 → va_P D vwCl (wY cI cJ y0 y1 y2 y3 y4 y5 y6 y7 y8 hs si ag la fo co cv ta rc ec su pe ti mn nu th) H → va_D A (wY cI cJ y0 y1 y2 y3 y4 y5 y6 y7 y8 hs si ag la fo co cv ta rc ec su pe ti mn nu th) → va_S A s.heap H locs → lv_has ls 4 [(2, .int v2), (3, .int v3)] → W p l e (headSpec wsX1_size ({ frames := 0, cells := 0, slots := 0, locals := 0 })).room s m ([.ref y0, .int a1] : List Value).toArray below meth c H locs 0 0 (MQ below (va_Qi (fun (r : Int32) (_ : Unit) => r = r0) (fun (_ : Unit) t => bx_Post D [(cI, .int), (cJ, .long)] (wY cI cJ y0 y1 y2 y3 y4 y5 y6 y7 y8 hs si ag la fo co cv ta rc ec su pe ti mn nu th) A t) A) ([.ref y0, .int a1] : List Value).toArray s 0 0 A) (F0 m 4 ls []) := by
    intro n
    induction n with
    | zero =>
      intro v2 v3 H locs ls h
      rw [m_X1_size_4] at h
      cases h
    | succ n ih =>
      intro v2 v3 H locs ls h hP hD hS hl
      rw [m_X1_size_4] at h
      refine lv_iload_n hx hb dX1_size_4 rfl (lv_at hl 1 rfl) ?_
      refine lv_if_eq (tgt := 20) hx hb dX1_size_5 (by decide) (fun c_1 => ?_) (fun c_1 => ?_)
      · replace h := (if_pos c_1).symm.trans h
        refine lv_iload_n hx hb dX1_size_20 rfl (lv_at hl 0 rfl) ?_
        cases h
        exact W.iret hx hb hr (fun t ht hW => ⟨⟨_, (), rfl, rfl, by rw [ht]; exact hP, va_K.moved hW.alike hK, hD⟩, hS.F ht⟩) hS.2.2 dX1_size_21
      · replace h := (if_neg c_1).symm.trans h
        refine lv_iinc (v := (v2 + 1)) (lv' := [(2, .int (v2 + 1)), (3, .int v3)]) hx hb dX1_size_8 hl (k := 0) rfl rfl (by decide) rfl (fun ls hl => ?_)
        refine lv_iload_n hx hb dX1_size_11 rfl (lv_at hl 1 rfl) ?_
        refine lv_iload_n hx hb dX1_size_12 rfl (lv_at hl 1 rfl) ?_
        refine lv_iconst (v := 1) hx hb dX1_size_13 (by decide) ?_
        refine lv_isub hx hb dX1_size_14 ?_
        refine lv_iand hx hb dX1_size_15 ?_
        refine lv_istore_n (lv' := [(3, .int (v3 &&& (v3 - 1))), (2, .int (v2 + 1))]) hx hb dX1_size_16 rfl hl (by decide) rfl (fun ls hl => ?_)
        refine lv_goto (tgt := 4) hx hb dX1_size_17 (by decide) ?_
        exact ih (v2 + 1) (v3 &&& (v3 - 1)) _ _ _ h hP hD hS (lv_sub hl [1, 0] rfl)
  rw [m_X1_size] at h
  refine lv_iconst (v := 0) hx hb dX1_size_0 (by decide) ?_
  refine lv_istore_n (lv' := [(2, .int 0), (0, .ref y0), (1, .int a1)]) hx hb dX1_size_1 rfl hl (by decide) rfl (fun ls hl => ?_)
  refine lv_iload_n hx hb dX1_size_2 rfl (lv_at hl 2 rfl) ?_
  refine lv_istore_n (lv' := [(3, .int a1), (2, .int 0), (0, .ref y0), (1, .int a1)]) hx hb dX1_size_3 rfl hl (by decide) rfl (fun ls hl => ?_)
  exact L4 fu 0 a1 _ _ _ h hP hD hS (lv_sub hl [1, 0] rfl)
-- X1_isIn
def m_X1_isIn (a1 : Int32) (a2 : Int32) : (Int32) := (if ((a1 >>> (a2 &&& 31)) &&& 1) = 1 then 1 else 0)
theorem nb_X1_isIn (a1 : Int32) (a2 : Int32) : narrow .boolean (.int (m_X1_isIn a1 a2)) = .int (m_X1_isIn a1 a2) := by
  unfold m_X1_isIn; repeat' split
  all_goals rfl
set_option maxHeartbeats 4000000 in
set_option maxRecDepth 100000 in
theorem c_X1_isIn (l : Launch) (D : va_G) (cI cJ : ClassId) (y0 y1 y2 y3 y4 y5 y6 y7 y8 : Nat) (sz : Nat) (hs : Nat → Int32) (si : Nat → Int32) (ag : Nat → Int32) (la : Nat → Int32) (fo : Nat → Int32) (co : Nat → Int32) (cv : Nat → Int32) (ta : Nat → Int32) (rc : Int32) (ec : Int32) (su : Int32) (pe : Int32) (ti : Int32) (mn : Int32) (nu : Int32) (th : Int32) (a1 : Int32) (a2 : Int32) : Met l yX1_isIn wsX1_isIn ({ frames := 0, cells := 0, slots := 0, locals := 0 }) (va_Pc [.ref y0, .int a1, .int a2] (bx_Pre D [(cI, .int), (cJ, .long)] (wY cI cJ y0 y1 y2 y3 y4 y5 y6 y7 y8 hs si ag la fo co cv ta rc ec su pe ti mn nu th) sz)) (va_Qi (fun (r : Int32) (_ : Unit) => r = m_X1_isIn a1 a2) (fun (_ : Unit) t => bx_Post D [(cI, .int), (cJ, .long)] (wY cI cJ y0 y1 y2 y3 y4 y5 y6 y7 y8 hs si ag la fo co cv ta rc ec su pe ti mn nu th) (va_A (wY cI cJ y0 y1 y2 y3 y4 y5 y6 y7 y8 hs si ag la fo co cv ta rc ec su pe ti mn nu th) sz) t) (va_A (wY cI cJ y0 y1 y2 y3 y4 y5 y6 y7 y8 hs si ag la fo co cv ta rc ec su pe ti mn nu th) sz)) 0 0 (va_A (wY cI cJ y0 y1 y2 y3 y4 y5 y6 y7 y8 hs si ag la fo co cv ta rc ec su pe ti mn nu th) sz) := by
  refine Met.ofW (cc := cX1_isIn) (maxL := 3) (ret := (some .boolean)) (by decide) rfl ?_
  intro p e s m args below meth c s₁ B hml hv
  obtain ⟨rfl, hsz, hP, hK, hD0⟩ := hv
  have hx := B.exec
  have hb := B.bytes
  have hr := B.returns
  have hts := atoms_spec (ws := wsX1_isIn) B.pre
  have hown : s.vm.findClass RX1 = some m.cls := findClass_of_methodNamed B.named
  have hlocks := B.notSynchronized
  subst hsz
  have hD := hD0.self (sz := s.heap.size)
  generalize hAe : va_A (wY cI cJ y0 y1 y2 y3 y4 y5 y6 y7 y8 hs si ag la fo co cv ta rc ec su pe ti mn nu th) s.heap.size = A at hD ⊢
  have hA : ∀ q : Nat, s.heap.size ≤ q → A q := fun q h9 => by rw [← hAe]; exact Or.inr h9
  have hS : va_S A s.heap s.heap [] := va_S.rf
  have hl := lv_entry ([.ref y0, .int a1, .int a2]) (n := 3) (Nat.le_of_ble_eq_true rfl)
  rw [lg_entry_eq]
  generalize (lg_sl ([.ref y0, .int a1, .int a2]) ++ List.replicate (3 - (lg_sl ([.ref y0, .int a1, .int a2])).length) Slot.unset).toArray = ls at hl ⊢
  have hl : lv_has ls 3 [(0, .ref y0), (1, .int a1), (2, .int a2)] := hl
  refine lv_iload_n hx hb dX1_isIn_0 rfl (lv_at hl 1 rfl) ?_
  refine lv_iload_n hx hb dX1_isIn_1 rfl (lv_at hl 2 rfl) ?_
  refine lv_ishr hx hb dX1_isIn_2 ?_
  refine lv_iconst (v := 1) hx hb dX1_isIn_3 (by decide) ?_
  refine lv_iand hx hb dX1_isIn_4 ?_
  refine lv_iconst (v := 1) hx hb dX1_isIn_5 (by decide) ?_
  refine lv_icmp_ne (tgt := 13) hx hb dX1_isIn_6 (by decide) (fun c_1 => ?_) (fun c_1 => ?_)
  · refine lv_iconst (v := 0) hx hb dX1_isIn_13 (by decide) ?_
    exact W.zret hx hb hr rfl (fun t ht hW => ⟨⟨_, (), rfl, (by rw [m_X1_isIn, if_neg c_1]), by rw [ht]; exact hP, va_K.moved hW.alike hK, hD⟩, hS.F ht⟩) hS.2.2 dX1_isIn_14
  · refine lv_iconst (v := 1) hx hb dX1_isIn_9 (by decide) ?_
    refine lv_goto (tgt := 14) hx hb dX1_isIn_10 (by decide) ?_
    exact W.zret hx hb hr rfl (fun t ht hW => ⟨⟨_, (), rfl, (by rw [m_X1_isIn, if_pos c_1]), by rw [ht]; exact hP, va_K.moved hW.alike hK, hD⟩, hS.F ht⟩) hS.2.2 dX1_isIn_14
-- X1_isWithin
def m_X1_isWithin (hs : Nat → Int32) (a1 : Int32) (a2 : Int32) : Option ((Int32)) := (ix a2 8 (if (a1 &&& ((hs (Int32.toNatClampNeg a2)) ^^^ (-1))) = 0 then some 1 else some 0))
set_option maxHeartbeats 4000000 in
set_option maxRecDepth 100000 in
theorem c_X1_isWithin (l : Launch) (D : va_G) (cI cJ : ClassId) (y0 y1 y2 y3 y4 y5 y6 y7 y8 : Nat) (sz : Nat) (hs : Nat → Int32) (si : Nat → Int32) (ag : Nat → Int32) (la : Nat → Int32) (fo : Nat → Int32) (co : Nat → Int32) (cv : Nat → Int32) (ta : Nat → Int32) (rc : Int32) (ec : Int32) (su : Int32) (pe : Int32) (ti : Int32) (mn : Int32) (nu : Int32) (th : Int32) (a1 : Int32) (a2 : Int32) (r0 : Int32) (h : m_X1_isWithin hs a1 a2 = some r0) : Met l yX1_isWithin wsX1_isWithin ({ frames := 0, cells := 0, slots := 0, locals := 0 }) (va_Pc [.ref y0, .int a1, .int a2] (bx_Pre D [(cI, .int), (cJ, .long)] (wY cI cJ y0 y1 y2 y3 y4 y5 y6 y7 y8 hs si ag la fo co cv ta rc ec su pe ti mn nu th) sz)) (va_Qi (fun (r : Int32) (_ : Unit) => r = r0) (fun (_ : Unit) t => bx_Post D [(cI, .int), (cJ, .long)] (wY cI cJ y0 y1 y2 y3 y4 y5 y6 y7 y8 hs si ag la fo co cv ta rc ec su pe ti mn nu th) (va_A (wY cI cJ y0 y1 y2 y3 y4 y5 y6 y7 y8 hs si ag la fo co cv ta rc ec su pe ti mn nu th) sz) t) (va_A (wY cI cJ y0 y1 y2 y3 y4 y5 y6 y7 y8 hs si ag la fo co cv ta rc ec su pe ti mn nu th) sz)) 0 0 (va_A (wY cI cJ y0 y1 y2 y3 y4 y5 y6 y7 y8 hs si ag la fo co cv ta rc ec su pe ti mn nu th) sz) := by
  refine Met.ofW (cc := cX1_isWithin) (maxL := 3) (ret := (some .boolean)) (by decide) rfl ?_
  intro p e s m args below meth c s₁ B hml hv
  obtain ⟨rfl, hsz, hP, hK, hD0⟩ := hv
  have hx := B.exec
  have hb := B.bytes
  have hr := B.returns
  have hts := atoms_spec (ws := wsX1_isWithin) B.pre
  have hown : s.vm.findClass RX1 = some m.cls := findClass_of_methodNamed B.named
  have hlocks := B.notSynchronized
  subst hsz
  have hD := hD0.self (sz := s.heap.size)
  generalize hAe : va_A (wY cI cJ y0 y1 y2 y3 y4 y5 y6 y7 y8 hs si ag la fo co cv ta rc ec su pe ti mn nu th) s.heap.size = A at hD ⊢
  have hA : ∀ q : Nat, s.heap.size ≤ q → A q := fun q h9 => by rw [← hAe]; exact Or.inr h9
  have hS : va_S A s.heap s.heap [] := va_S.rf
  have hin : ∀ w ∈ wsX10, w ∈ wsX1_isWithin := fun _ h9 => List.mem_cons_of_mem _ (List.mem_append_right _ h9)
  have hw_0 := hts (.fieldLink RX1 7 "RoleMinerModel" "has" "[I") (by decide +kernel)
  have hl := lv_entry ([.ref y0, .int a1, .int a2]) (n := 3) (Nat.le_of_ble_eq_true rfl)
  rw [lg_entry_eq]
  generalize (lg_sl ([.ref y0, .int a1, .int a2]) ++ List.replicate (3 - (lg_sl ([.ref y0, .int a1, .int a2])).length) Slot.unset).toArray = ls at hl ⊢
  have hl : lv_has ls 3 [(0, .ref y0), (1, .int a1), (2, .int a2)] := hl
  rw [m_X1_isWithin] at h
  refine lv_iload_n hx hb dX1_isWithin_0 rfl (lv_at hl 1 rfl) ?_
  refine lv_aload_n hx hb dX1_isWithin_1 rfl (lv_at hl 0 rfl) ?_
  refine va_get (D := D) (ci := 1) (v := .ref y1) (C := RX1) (T := TX1) (N := 16) hx hb hts hin hown hK hP 0 rfl rfl 0 (by decide) hw_0 (fun _ h9 => h9) rfl dX1_isWithin_2 ?_
  refine lv_iload_n hx hb dX1_isWithin_5 rfl (lv_at hl 2 rfl) ?_
  obtain ⟨h_1, h⟩ := ix_some h
  refine va_iald hx hb hK hP 1 0 rfl rfl h_1 dX1_isWithin_6 ?_
  refine lv_iconst (v := (-1)) hx hb dX1_isWithin_7 (by decide) ?_
  refine lv_ixor hx hb dX1_isWithin_8 ?_
  refine lv_iand hx hb dX1_isWithin_9 ?_
  refine lv_if_ne (tgt := 17) hx hb dX1_isWithin_10 (by decide) (fun c_2 => ?_) (fun c_2 => ?_)
  · replace h := (if_neg c_2).symm.trans h
    refine lv_iconst (v := 0) hx hb dX1_isWithin_17 (by decide) ?_
    cases h
    exact W.zret hx hb hr rfl (fun t ht hW => ⟨⟨_, (), rfl, rfl, by rw [ht]; exact hP, va_K.moved hW.alike hK, hD⟩, hS.F ht⟩) hS.2.2 dX1_isWithin_18
  · replace h := (if_pos c_2).symm.trans h
    refine lv_iconst (v := 1) hx hb dX1_isWithin_13 (by decide) ?_
    refine lv_goto (tgt := 18) hx hb dX1_isWithin_14 (by decide) ?_
    cases h
    exact W.zret hx hb hr rfl (fun t ht hW => ⟨⟨_, (), rfl, rfl, by rw [ht]; exact hP, va_K.moved hW.alike hK, hD⟩, hS.F ht⟩) hS.2.2 dX1_isWithin_18
-- X1_isProper
def m_X1_isProper_2 (fu : Nat) (ag : Nat → Int32) (a1 : Int32) : Nat → Int32 → Option ((Int32))
  | 0, _ => none
  | n + 1, v2 => (if 12 ≤ v2 then some 1 else (if (m_X1_isIn a1 v2) = 0 then (m_X1_isProper_2 fu ag a1 n (v2 + 1)) else (ix v2 12 (if ((ag (Int32.toNatClampNeg v2)) &&& a1) = 0 then (m_X1_isProper_2 fu ag a1 n (v2 + 1)) else some 0))))
def m_X1_isProper (fu : Nat) (ag : Nat → Int32) (a1 : Int32) : Option ((Int32)) := (m_X1_isProper_2 fu ag a1 fu 0)
set_option maxHeartbeats 4000000 in
set_option maxRecDepth 100000 in
theorem c_X1_isProper (l : Launch) (D : va_G) (cI cJ : ClassId) (y0 y1 y2 y3 y4 y5 y6 y7 y8 : Nat) (sz : Nat) (hs : Nat → Int32) (si : Nat → Int32) (ag : Nat → Int32) (la : Nat → Int32) (fo : Nat → Int32) (co : Nat → Int32) (cv : Nat → Int32) (ta : Nat → Int32) (rc : Int32) (ec : Int32) (su : Int32) (pe : Int32) (ti : Int32) (mn : Int32) (nu : Int32) (th : Int32) (fu : Nat) (a1 : Int32) (r0 : Int32) (h : m_X1_isProper fu ag a1 = some r0) : Met l yX1_isProper wsX1_isProper ({ frames := 1, cells := 0, slots := 0, locals := 22 }) (va_Pc [.ref y0, .int a1] (bx_Pre D [(cI, .int), (cJ, .long)] (wY cI cJ y0 y1 y2 y3 y4 y5 y6 y7 y8 hs si ag la fo co cv ta rc ec su pe ti mn nu th) sz)) (va_Qi (fun (r : Int32) (_ : Unit) => r = r0) (fun (_ : Unit) t => bx_Post D [(cI, .int), (cJ, .long)] (wY cI cJ y0 y1 y2 y3 y4 y5 y6 y7 y8 hs si ag la fo co cv ta rc ec su pe ti mn nu th) (va_A (wY cI cJ y0 y1 y2 y3 y4 y5 y6 y7 y8 hs si ag la fo co cv ta rc ec su pe ti mn nu th) sz) t) (va_A (wY cI cJ y0 y1 y2 y3 y4 y5 y6 y7 y8 hs si ag la fo co cv ta rc ec su pe ti mn nu th) sz)) 0 0 (va_A (wY cI cJ y0 y1 y2 y3 y4 y5 y6 y7 y8 hs si ag la fo co cv ta rc ec su pe ti mn nu th) sz) := by
  refine Met.ofW (cc := cX1_isProper) (maxL := 3) (ret := (some .boolean)) (by decide) rfl ?_
  intro p e s m args below meth c s₁ B hml hv
  obtain ⟨rfl, hsz, hP, hK, hD0⟩ := hv
  have hx := B.exec
  have hb := B.bytes
  have hr := B.returns
  have hts := atoms_spec (ws := wsX1_isProper) B.pre
  have hown : s.vm.findClass RX1 = some m.cls := findClass_of_methodNamed B.named
  have hlocks := B.notSynchronized
  subst hsz
  have hD := hD0.self (sz := s.heap.size)
  generalize hAe : va_A (wY cI cJ y0 y1 y2 y3 y4 y5 y6 y7 y8 hs si ag la fo co cv ta rc ec su pe ti mn nu th) s.heap.size = A at hD ⊢
  have hA : ∀ q : Nat, s.heap.size ≤ q → A q := fun q h9 => by rw [← hAe]; exact Or.inr h9
  have hS : va_S A s.heap s.heap [] := va_S.rf
  have hin : ∀ w ∈ wsX10, w ∈ wsX1_isProper := fun _ h9 => List.mem_cons_of_mem _ (List.mem_append_right _ h9)
  have hw_0 := hts (.fieldLink RX1 16 "RoleMinerModel" "against" "[I") (by decide +kernel)
  have hl := lv_entry ([.ref y0, .int a1]) (n := 3) (Nat.le_of_ble_eq_true rfl)
  rw [lg_entry_eq]
  generalize (lg_sl ([.ref y0, .int a1]) ++ List.replicate (3 - (lg_sl ([.ref y0, .int a1])).length) Slot.unset).toArray = ls at hl ⊢
  have hl : lv_has ls 3 [(0, .ref y0), (1, .int a1)] := hl
  have L2 : ∀ (n : Nat) (v2 : Int32) (H : Heap) (locs : List Loc) (ls : Array Slot), m_X1_isProper_2 fu ag a1 n v2 = some r0 → va_P D vwCl (wY cI cJ y0 y1 y2 y3 y4 y5 y6 y7 y8 hs si ag la fo co cv ta rc ec su pe ti mn nu th) H → va_D A (wY cI cJ y0 y1 y2 y3 y4 y5 y6 y7 y8 hs si ag la fo co cv ta rc ec su pe ti mn nu th) → va_S A s.heap H locs → lv_has ls 3 [(0, .ref y0), (1, .int a1), (2, .int v2)] → W p l e (headSpec wsX1_isProper ({ frames := 1, cells := 0, slots := 0, locals := 22 })).room s m ([.ref y0, .int a1] : List Value).toArray below meth c H locs 0 0 (MQ below (va_Qi (fun (r : Int32) (_ : Unit) => r = r0) (fun (_ : Unit) t => bx_Post D [(cI, .int), (cJ, .long)] (wY cI cJ y0 y1 y2 y3 y4 y5 y6 y7 y8 hs si ag la fo co cv ta rc ec su pe ti mn nu th) A t) A) ([.ref y0, .int a1] : List Value).toArray s 0 0 A) (F0 m 2 ls []) := by
    intro n
    induction n with
    | zero =>
      intro v2 H locs ls h
      rw [m_X1_isProper_2] at h
      cases h
    | succ n ih =>
      intro v2 H locs ls h hP hD hS hl
      rw [m_X1_isProper_2] at h
      refine lv_iload_n hx hb dX1_isProper_2 rfl (lv_at hl 2 rfl) ?_
      refine lv_bipush (v := 12) hx hb dX1_isProper_3 (by decide) ?_
      refine lv_icmp_ge (tgt := 36) hx hb dX1_isProper_5 (by decide) (fun c_1 => ?_) (fun c_1 => ?_)
      · replace h := (if_pos c_1).symm.trans h
        refine lv_iconst (v := 1) hx hb dX1_isProper_36 (by decide) ?_
        cases h
        exact W.zret hx hb hr rfl (fun t ht hW => ⟨⟨_, (), rfl, rfl, by rw [ht]; exact hP, va_K.moved hW.alike hK, hD⟩, hS.F ht⟩) hS.2.2 dX1_isProper_37
      · replace h := (if_neg c_1).symm.trans h
        refine lv_aload_n hx hb dX1_isProper_8 rfl (lv_at hl 0 rfl) ?_
        refine lv_iload_n hx hb dX1_isProper_9 rfl (lv_at hl 1 rfl) ?_
        refine lv_iload_n hx hb dX1_isProper_10 rfl (lv_at hl 2 rfl) ?_
        refine cl_Vi (As := [.int a1, .int v2]) (rest := []) (wc := wY cI cJ y0 y1 y2 y3 y4 y5 y6 y7 y8 hs si ag la fo co cv ta rc ec su pe ti mn nu th) (w1 := wY cI cJ y0 y1 y2 y3 y4 y5 y6 y7 y8 hs si ag la fo co cv ta rc ec su pe ti mn nu th) (wr := []) ⟨hx, hb, hml, hown, hts⟩ (c_X1_isIn l D cI cJ y0 y1 y2 y3 y4 y5 y6 y7 y8 _ hs si ag la fo co cv ta rc ec su pe ti mn nu th a1 v2) (cwV 2 hts gX1_isProper_X1_isIn rfl rfl rfl (by decide +kernel) ⟨Nat.le_of_ble_eq_true rfl, Nat.le_of_ble_eq_true rfl⟩) hK hP hD hS hA [0, 1, 2, 3, 4, 5, 6, 7, 8] [] rfl rfl (by decide) (by decide) rfl rfl rfl rfl rfl hl.1 rfl (lv_room (Nat.le_of_ble_eq_true rfl)) dX1_isProper_11 (fun H locs hP hD hS => ?_)
        have hP : va_P D vwCl (wY cI cJ y0 y1 y2 y3 y4 y5 y6 y7 y8 hs si ag la fo co cv ta rc ec su pe ti mn nu th) H := hP
        have hD : va_D A (wY cI cJ y0 y1 y2 y3 y4 y5 y6 y7 y8 hs si ag la fo co cv ta rc ec su pe ti mn nu th) := hD
        refine lv_if_eq (tgt := 30) hx hb dX1_isProper_14 (by decide) (fun c_2 => ?_) (fun c_2 => ?_)
        · replace h := (if_pos c_2).symm.trans h
          refine lv_iinc (v := (v2 + 1)) (lv' := [(2, .int (v2 + 1)), (0, .ref y0), (1, .int a1)]) hx hb dX1_isProper_30 hl (k := 2) rfl rfl (by decide) rfl (fun ls hl => ?_)
          refine lv_goto (tgt := 2) hx hb dX1_isProper_33 (by decide) ?_
          exact ih (v2 + 1) _ _ _ h hP hD hS (lv_sub hl [1, 2, 0] rfl)
        · replace h := (if_neg c_2).symm.trans h
          refine lv_aload_n hx hb dX1_isProper_17 rfl (lv_at hl 0 rfl) ?_
          refine va_get (D := D) (ci := 1) (v := .ref y3) (C := RX1) (T := TX1) (N := 16) hx hb hts hin hown hK hP 0 rfl rfl 2 (by decide) hw_0 (fun _ h9 => h9) rfl dX1_isProper_18 ?_
          refine lv_iload_n hx hb dX1_isProper_21 rfl (lv_at hl 2 rfl) ?_
          obtain ⟨h_3, h⟩ := ix_some h
          refine va_iald hx hb hK hP 3 0 rfl rfl h_3 dX1_isProper_22 ?_
          refine lv_iload_n hx hb dX1_isProper_23 rfl (lv_at hl 1 rfl) ?_
          refine lv_iand hx hb dX1_isProper_24 ?_
          refine lv_if_eq (tgt := 30) hx hb dX1_isProper_25 (by decide) (fun c_4 => ?_) (fun c_4 => ?_)
          · replace h := (if_pos c_4).symm.trans h
            refine lv_iinc (v := (v2 + 1)) (lv' := [(2, .int (v2 + 1)), (0, .ref y0), (1, .int a1)]) hx hb dX1_isProper_30 hl (k := 2) rfl rfl (by decide) rfl (fun ls hl => ?_)
            refine lv_goto (tgt := 2) hx hb dX1_isProper_33 (by decide) ?_
            exact ih (v2 + 1) _ _ _ h hP hD hS (lv_sub hl [1, 2, 0] rfl)
          · replace h := (if_neg c_4).symm.trans h
            refine lv_iconst (v := 0) hx hb dX1_isProper_28 (by decide) ?_
            cases h
            exact W.zret hx hb hr rfl (fun t ht hW => ⟨⟨_, (), rfl, rfl, by rw [ht]; exact hP, va_K.moved hW.alike hK, hD⟩, hS.F ht⟩) hS.2.2 dX1_isProper_29
  rw [m_X1_isProper] at h
  refine lv_iconst (v := 0) hx hb dX1_isProper_0 (by decide) ?_
  refine lv_istore_n (lv' := [(2, .int 0), (0, .ref y0), (1, .int a1)]) hx hb dX1_isProper_1 rfl hl (by decide) rfl (fun ls hl => ?_)
  exact L2 fu 0 _ _ _ h hP hD hS (lv_sub hl [1, 2, 0] rfl)
-- X1_whoHas
def m_X1_whoHas_5 (fu : Nat) (hs : Nat → Int32) (a1 : Int32) : Nat → Int32 → Int32 → Option ((Int32))
  | 0, _, _ => none
  | n + 1, v2, v3 => (if v3 < 0 then some v2 else (bnd1 (m_X1_isWithin hs a1 v3) (fun r_2 => (if r_2 = 0 then (m_X1_whoHas_5 fu hs a1 n ((2 * v2) + 0) (v3 + (-1))) else (m_X1_whoHas_5 fu hs a1 n ((2 * v2) + 1) (v3 + (-1)))))))
def m_X1_whoHas (fu : Nat) (hs : Nat → Int32) (a1 : Int32) : Option ((Int32)) := (m_X1_whoHas_5 fu hs a1 fu 0 7)
set_option maxHeartbeats 4000000 in
set_option maxRecDepth 100000 in
theorem c_X1_whoHas (l : Launch) (D : va_G) (cI cJ : ClassId) (y0 y1 y2 y3 y4 y5 y6 y7 y8 : Nat) (sz : Nat) (hs : Nat → Int32) (si : Nat → Int32) (ag : Nat → Int32) (la : Nat → Int32) (fo : Nat → Int32) (co : Nat → Int32) (cv : Nat → Int32) (ta : Nat → Int32) (rc : Int32) (ec : Int32) (su : Int32) (pe : Int32) (ti : Int32) (mn : Int32) (nu : Int32) (th : Int32) (fu : Nat) (a1 : Int32) (r0 : Int32) (h : m_X1_whoHas fu hs a1 = some r0) : Met l yX1_whoHas wsX1_whoHas ({ frames := 1, cells := 0, slots := 0, locals := 22 }) (va_Pc [.ref y0, .int a1] (bx_Pre D [(cI, .int), (cJ, .long)] (wY cI cJ y0 y1 y2 y3 y4 y5 y6 y7 y8 hs si ag la fo co cv ta rc ec su pe ti mn nu th) sz)) (va_Qi (fun (r : Int32) (_ : Unit) => r = r0) (fun (_ : Unit) t => bx_Post D [(cI, .int), (cJ, .long)] (wY cI cJ y0 y1 y2 y3 y4 y5 y6 y7 y8 hs si ag la fo co cv ta rc ec su pe ti mn nu th) (va_A (wY cI cJ y0 y1 y2 y3 y4 y5 y6 y7 y8 hs si ag la fo co cv ta rc ec su pe ti mn nu th) sz) t) (va_A (wY cI cJ y0 y1 y2 y3 y4 y5 y6 y7 y8 hs si ag la fo co cv ta rc ec su pe ti mn nu th) sz)) 0 0 (va_A (wY cI cJ y0 y1 y2 y3 y4 y5 y6 y7 y8 hs si ag la fo co cv ta rc ec su pe ti mn nu th) sz) := by
  refine Met.ofW (cc := cX1_whoHas) (maxL := 4) (ret := (some .int)) (by decide) rfl ?_
  intro p e s m args below meth c s₁ B hml hv
  obtain ⟨rfl, hsz, hP, hK, hD0⟩ := hv
  have hx := B.exec
  have hb := B.bytes
  have hr := B.returns
  have hts := atoms_spec (ws := wsX1_whoHas) B.pre
  have hown : s.vm.findClass RX1 = some m.cls := findClass_of_methodNamed B.named
  have hlocks := B.notSynchronized
  subst hsz
  have hD := hD0.self (sz := s.heap.size)
  generalize hAe : va_A (wY cI cJ y0 y1 y2 y3 y4 y5 y6 y7 y8 hs si ag la fo co cv ta rc ec su pe ti mn nu th) s.heap.size = A at hD ⊢
  have hA : ∀ q : Nat, s.heap.size ≤ q → A q := fun q h9 => by rw [← hAe]; exact Or.inr h9
  have hS : va_S A s.heap s.heap [] := va_S.rf
  have hin : ∀ w ∈ wsX10, w ∈ wsX1_whoHas := fun _ h9 => List.mem_cons_of_mem _ (List.mem_append_right _ h9)
  have hl := lv_entry ([.ref y0, .int a1]) (n := 4) (Nat.le_of_ble_eq_true rfl)
  rw [lg_entry_eq]
  generalize (lg_sl ([.ref y0, .int a1]) ++ List.replicate (4 - (lg_sl ([.ref y0, .int a1])).length) Slot.unset).toArray = ls at hl ⊢
  have hl : lv_has ls 4 [(0, .ref y0), (1, .int a1)] := hl
  have L5 : ∀ (n : Nat) (v2 : Int32) (v3 : Int32) (H : Heap) (locs : List Loc) (ls : Array Slot), m_X1_whoHas_5 fu hs a1 n v2 v3 = some r0 → va_P D vwCl (wY cI cJ y0 y1 y2 y3 y4 y5 y6 y7 y8 hs si ag la fo co cv ta rc ec su pe ti mn nu th) H → va_D A (wY cI cJ y0 y1 y2 y3 y4 y5 y6 y7 y8 hs si ag la fo co cv ta rc ec su pe ti mn nu th) → va_S A s.heap H locs → lv_has ls 4 [(0, .ref y0), (1, .int a1), (2, .int v2), (3, .int v3)] → W p l e (headSpec wsX1_whoHas ({ frames := 1, cells := 0, slots := 0, locals := 22 })).room s m ([.ref y0, .int a1] : List Value).toArray below meth c H locs 0 0 (MQ below (va_Qi (fun (r : Int32) (_ : Unit) => r = r0) (fun (_ : Unit) t => bx_Post D [(cI, .int), (cJ, .long)] (wY cI cJ y0 y1 y2 y3 y4 y5 y6 y7 y8 hs si ag la fo co cv ta rc ec su pe ti mn nu th) A t) A) ([.ref y0, .int a1] : List Value).toArray s 0 0 A) (F0 m 5 ls []) := by
    intro n
    induction n with
    | zero =>
      intro v2 v3 H locs ls h
      rw [m_X1_whoHas_5] at h
      cases h
    | succ n ih =>
      intro v2 v3 H locs ls h hP hD hS hl
      rw [m_X1_whoHas_5] at h
      refine lv_iload_n hx hb dX1_whoHas_5 rfl (lv_at hl 3 rfl) ?_
      refine lv_if_lt (tgt := 34) hx hb dX1_whoHas_6 (by decide) (fun c_1 => ?_) (fun c_1 => ?_)
      · replace h := (if_pos c_1).symm.trans h
        refine lv_iload_n hx hb dX1_whoHas_34 rfl (lv_at hl 2 rfl) ?_
        cases h
        exact W.iret hx hb hr (fun t ht hW => ⟨⟨_, (), rfl, rfl, by rw [ht]; exact hP, va_K.moved hW.alike hK, hD⟩, hS.F ht⟩) hS.2.2 dX1_whoHas_35
      · replace h := (if_neg c_1).symm.trans h
        refine lv_iconst (v := 2) hx hb dX1_whoHas_9 (by decide) ?_
        refine lv_iload_n hx hb dX1_whoHas_10 rfl (lv_at hl 2 rfl) ?_
        refine lv_imul hx hb dX1_whoHas_11 ?_
        refine lv_aload_n hx hb dX1_whoHas_12 rfl (lv_at hl 0 rfl) ?_
        refine lv_iload_n hx hb dX1_whoHas_13 rfl (lv_at hl 1 rfl) ?_
        refine lv_iload_n hx hb dX1_whoHas_14 rfl (lv_at hl 3 rfl) ?_
        obtain ⟨r_2, e_3, h⟩ := bnd1_some h
        refine cl_Vi (As := [.int a1, .int v3]) (rest := [.int (2 * v2)]) (wc := wY cI cJ y0 y1 y2 y3 y4 y5 y6 y7 y8 hs si ag la fo co cv ta rc ec su pe ti mn nu th) (w1 := wY cI cJ y0 y1 y2 y3 y4 y5 y6 y7 y8 hs si ag la fo co cv ta rc ec su pe ti mn nu th) (wr := []) ⟨hx, hb, hml, hown, hts⟩ (c_X1_isWithin l D cI cJ y0 y1 y2 y3 y4 y5 y6 y7 y8 _ hs si ag la fo co cv ta rc ec su pe ti mn nu th a1 v3 r_2 e_3) (cwV 2 hts gX1_whoHas_X1_isWithin rfl rfl rfl (by decide +kernel) ⟨Nat.le_of_ble_eq_true rfl, Nat.le_of_ble_eq_true rfl⟩) hK hP hD hS hA [0, 1, 2, 3, 4, 5, 6, 7, 8] [] rfl rfl (by decide) (by decide) rfl rfl rfl rfl rfl hl.1 rfl (lv_room (Nat.le_of_ble_eq_true rfl)) dX1_whoHas_15 (fun H locs hP hD hS => ?_)
        have hP : va_P D vwCl (wY cI cJ y0 y1 y2 y3 y4 y5 y6 y7 y8 hs si ag la fo co cv ta rc ec su pe ti mn nu th) H := hP
        have hD : va_D A (wY cI cJ y0 y1 y2 y3 y4 y5 y6 y7 y8 hs si ag la fo co cv ta rc ec su pe ti mn nu th) := hD
        refine lv_if_eq (tgt := 25) hx hb dX1_whoHas_18 (by decide) (fun c_4 => ?_) (fun c_4 => ?_)
        · replace h := (if_pos c_4).symm.trans h
          refine lv_iconst (v := 0) hx hb dX1_whoHas_25 (by decide) ?_
          refine lv_iadd hx hb dX1_whoHas_26 ?_
          refine lv_istore_n (lv' := [(2, .int ((2 * v2) + 0)), (0, .ref y0), (1, .int a1), (3, .int v3)]) hx hb dX1_whoHas_27 rfl hl (by decide) rfl (fun ls hl => ?_)
          refine lv_iinc (v := (v3 + (-1))) (lv' := [(3, .int (v3 + (-1))), (2, .int ((2 * v2) + 0)), (0, .ref y0), (1, .int a1)]) hx hb dX1_whoHas_28 hl (k := 3) rfl rfl (by decide) rfl (fun ls hl => ?_)
          refine lv_goto (tgt := 5) hx hb dX1_whoHas_31 (by decide) ?_
          exact ih ((2 * v2) + 0) (v3 + (-1)) _ _ _ h hP hD hS (lv_sub hl [2, 3, 1, 0] rfl)
        · replace h := (if_neg c_4).symm.trans h
          refine lv_iconst (v := 1) hx hb dX1_whoHas_21 (by decide) ?_
          refine lv_goto (tgt := 26) hx hb dX1_whoHas_22 (by decide) ?_
          refine lv_iadd hx hb dX1_whoHas_26 ?_
          refine lv_istore_n (lv' := [(2, .int ((2 * v2) + 1)), (0, .ref y0), (1, .int a1), (3, .int v3)]) hx hb dX1_whoHas_27 rfl hl (by decide) rfl (fun ls hl => ?_)
          refine lv_iinc (v := (v3 + (-1))) (lv' := [(3, .int (v3 + (-1))), (2, .int ((2 * v2) + 1)), (0, .ref y0), (1, .int a1)]) hx hb dX1_whoHas_28 hl (k := 3) rfl rfl (by decide) rfl (fun ls hl => ?_)
          refine lv_goto (tgt := 5) hx hb dX1_whoHas_31 (by decide) ?_
          exact ih ((2 * v2) + 1) (v3 + (-1)) _ _ _ h hP hD hS (lv_sub hl [2, 3, 1, 0] rfl)
  rw [m_X1_whoHas] at h
  refine lv_iconst (v := 0) hx hb dX1_whoHas_0 (by decide) ?_
  refine lv_istore_n (lv' := [(2, .int 0), (0, .ref y0), (1, .int a1)]) hx hb dX1_whoHas_1 rfl hl (by decide) rfl (fun ls hl => ?_)
  refine lv_bipush (v := 7) hx hb dX1_whoHas_2 (by decide) ?_
  refine lv_istore_n (lv' := [(3, .int 7), (2, .int 0), (0, .ref y0), (1, .int a1)]) hx hb dX1_whoHas_4 rfl hl (by decide) rfl (fun ls hl => ?_)
  exact L5 fu 0 7 _ _ _ h hP hD hS (lv_sub hl [2, 3, 1, 0] rfl)
-- X1_give
def m_X1_give (hs : Nat → Int32) (si : Nat → Int32) (ti : Int32) (a1 : Int32) (a2 : Int32) : Option (((Nat → Int32)) × ((Nat → Int32))) := (ix a1 8 (ix ((12 * a1) + a2) 96 (some ((upd hs (Int32.toNatClampNeg a1) ((hs (Int32.toNatClampNeg a1)) ||| (1 <<< (a2 &&& 31)))), (upd si (Int32.toNatClampNeg ((12 * a1) + a2)) ti)))))
set_option maxHeartbeats 4000000 in
set_option maxRecDepth 100000 in
theorem c_X1_give (l : Launch) (D : va_G) (cI cJ : ClassId) (y0 y1 y2 y3 y4 y5 y6 y7 y8 : Nat) (sz : Nat) (hs : Nat → Int32) (si : Nat → Int32) (ag : Nat → Int32) (la : Nat → Int32) (fo : Nat → Int32) (co : Nat → Int32) (cv : Nat → Int32) (ta : Nat → Int32) (rc : Int32) (ec : Int32) (su : Int32) (pe : Int32) (ti : Int32) (mn : Int32) (nu : Int32) (th : Int32) (a1 : Int32) (a2 : Int32) (hs' : Nat → Int32) (si' : Nat → Int32) (h : m_X1_give hs si ti a1 a2 = some (hs', si')) : Met l yX1_give wsX1_give ({ frames := 0, cells := 0, slots := 0, locals := 0 }) (va_Pc [.ref y0, .int a1, .int a2] (bx_Pre D [(cI, .int), (cJ, .long)] (wY cI cJ y0 y1 y2 y3 y4 y5 y6 y7 y8 hs si ag la fo co cv ta rc ec su pe ti mn nu th) sz)) (va_Qv (fun (_ : Unit) => True) (fun (_ : Unit) t => bx_Post D [(cI, .int), (cJ, .long)] (wY cI cJ y0 y1 y2 y3 y4 y5 y6 y7 y8 hs' si' ag la fo co cv ta rc ec su pe ti mn nu th) (va_A (wY cI cJ y0 y1 y2 y3 y4 y5 y6 y7 y8 hs si ag la fo co cv ta rc ec su pe ti mn nu th) sz) t) (va_A (wY cI cJ y0 y1 y2 y3 y4 y5 y6 y7 y8 hs si ag la fo co cv ta rc ec su pe ti mn nu th) sz)) 0 0 (va_A (wY cI cJ y0 y1 y2 y3 y4 y5 y6 y7 y8 hs si ag la fo co cv ta rc ec su pe ti mn nu th) sz) := by
  refine Met.ofW (cc := cX1_give) (maxL := 3) (ret := none) (by decide) rfl ?_
  intro p e s m args below meth c s₁ B hml hv
  obtain ⟨rfl, hsz, hP, hK, hD0⟩ := hv
  have hx := B.exec
  have hb := B.bytes
  have hr := B.returns
  have hts := atoms_spec (ws := wsX1_give) B.pre
  have hown : s.vm.findClass RX1 = some m.cls := findClass_of_methodNamed B.named
  have hlocks := B.notSynchronized
  subst hsz
  have hD := hD0.self (sz := s.heap.size)
  generalize hAe : va_A (wY cI cJ y0 y1 y2 y3 y4 y5 y6 y7 y8 hs si ag la fo co cv ta rc ec su pe ti mn nu th) s.heap.size = A at hD ⊢
  have hA : ∀ q : Nat, s.heap.size ≤ q → A q := fun q h9 => by rw [← hAe]; exact Or.inr h9
  have hS : va_S A s.heap s.heap [] := va_S.rf
  have hin : ∀ w ∈ wsX10, w ∈ wsX1_give := fun _ h9 => List.mem_cons_of_mem _ (List.mem_append_right _ h9)
  have hw_0 := hts (.fieldLink RX1 7 "RoleMinerModel" "has" "[I") (by decide +kernel)
  have hw_1 := hts (.fieldLink RX1 13 "RoleMinerModel" "since" "[I") (by decide +kernel)
  have hw_2 := hts (.fieldLink RX1 61 "RoleMinerModel" "time" "I") (by decide +kernel)
  have hl := lv_entry ([.ref y0, .int a1, .int a2]) (n := 3) (Nat.le_of_ble_eq_true rfl)
  rw [lg_entry_eq]
  generalize (lg_sl ([.ref y0, .int a1, .int a2]) ++ List.replicate (3 - (lg_sl ([.ref y0, .int a1, .int a2])).length) Slot.unset).toArray = ls at hl ⊢
  have hl : lv_has ls 3 [(0, .ref y0), (1, .int a1), (2, .int a2)] := hl
  rw [m_X1_give] at h
  refine lv_aload_n hx hb dX1_give_0 rfl (lv_at hl 0 rfl) ?_
  refine va_get (D := D) (ci := 1) (v := .ref y1) (C := RX1) (T := TX1) (N := 16) hx hb hts hin hown hK hP 0 rfl rfl 0 (by decide) hw_0 (fun _ h9 => h9) rfl dX1_give_1 ?_
  refine lv_iload_n hx hb dX1_give_4 rfl (lv_at hl 1 rfl) ?_
  refine lv_dup2_11 hx hb dX1_give_5 rfl rfl ?_
  obtain ⟨h_1, h⟩ := ix_some h
  refine va_iald hx hb hK hP 1 0 rfl rfl h_1 dX1_give_6 ?_
  refine lv_iconst (v := 1) hx hb dX1_give_7 (by decide) ?_
  refine lv_iload_n hx hb dX1_give_8 rfl (lv_at hl 2 rfl) ?_
  refine lv_ishl hx hb dX1_give_9 ?_
  refine lv_ior hx hb dX1_give_10 ?_
  refine va_iast hx hb hK hP hD hS 1 0 rfl rfl h_1 dX1_give_11 (fun H locs hP hD hS => ?_)
  have hP : va_P D vwCl (wY cI cJ y0 y1 y2 y3 y4 y5 y6 y7 y8 (upd hs (Int32.toNatClampNeg a1) ((hs (Int32.toNatClampNeg a1)) ||| (1 <<< (a2 &&& 31)))) si ag la fo co cv ta rc ec su pe ti mn nu th) H := hP
  have hD : va_D A (wY cI cJ y0 y1 y2 y3 y4 y5 y6 y7 y8 (upd hs (Int32.toNatClampNeg a1) ((hs (Int32.toNatClampNeg a1)) ||| (1 <<< (a2 &&& 31)))) si ag la fo co cv ta rc ec su pe ti mn nu th) := hD
  refine lv_aload_n hx hb dX1_give_12 rfl (lv_at hl 0 rfl) ?_
  refine va_get (D := D) (ci := 1) (v := .ref y2) (C := RX1) (T := TX1) (N := 16) hx hb hts hin hown hK hP 0 rfl rfl 1 (by decide) hw_1 (fun _ h9 => h9) rfl dX1_give_13 ?_
  refine lv_bipush (v := 12) hx hb dX1_give_16 (by decide) ?_
  refine lv_iload_n hx hb dX1_give_18 rfl (lv_at hl 1 rfl) ?_
  refine lv_imul hx hb dX1_give_19 ?_
  refine lv_iload_n hx hb dX1_give_20 rfl (lv_at hl 2 rfl) ?_
  refine lv_iadd hx hb dX1_give_21 ?_
  refine lv_aload_n hx hb dX1_give_22 rfl (lv_at hl 0 rfl) ?_
  refine va_get (D := D) (ci := 1) (v := .int ti) (C := RX1) (T := TX1) (N := 16) hx hb hts hin hown hK hP 0 rfl rfl 12 (by decide) hw_2 (fun _ h9 => h9) rfl dX1_give_23 ?_
  obtain ⟨h_2, h⟩ := ix_some h
  refine va_iast hx hb hK hP hD hS 2 0 rfl rfl h_2 dX1_give_26 (fun H locs hP hD hS => ?_)
  have hP : va_P D vwCl (wY cI cJ y0 y1 y2 y3 y4 y5 y6 y7 y8 (upd hs (Int32.toNatClampNeg a1) ((hs (Int32.toNatClampNeg a1)) ||| (1 <<< (a2 &&& 31)))) (upd si (Int32.toNatClampNeg ((12 * a1) + a2)) ti) ag la fo co cv ta rc ec su pe ti mn nu th) H := hP
  have hD : va_D A (wY cI cJ y0 y1 y2 y3 y4 y5 y6 y7 y8 (upd hs (Int32.toNatClampNeg a1) ((hs (Int32.toNatClampNeg a1)) ||| (1 <<< (a2 &&& 31)))) (upd si (Int32.toNatClampNeg ((12 * a1) + a2)) ti) ag la fo co cv ta rc ec su pe ti mn nu th) := hD
  cases h
  exact W.vret hx hb hr (fun t ht hW => ⟨⟨(), rfl, trivial, by rw [ht]; exact hP, va_K.moved hW.alike hK, hD⟩, hS.F ht⟩) hS.2.2 dX1_give_27
-- X1_grant
def m_X1_grant (hs : Nat → Int32) (si : Nat → Int32) (ti : Int32) (th : Int32) (a1 : Int32) (a2 : Int32) : Option ((Int32) × ((Nat → Int32)) × ((Nat → Int32)) × ((Int32))) := (if (m_X1_isUser a1) = 0 then (bnd2 (m_X1_holds th 1) (fun r_2 th_3 => (if r_2 = 0 then (ix a1 8 (if (m_X1_isIn (hs (Int32.toNatClampNeg a1)) a2) = 0 then (bnd2 (m_X1_give hs si ti a1 a2) (fun hs_8 si_9 => some (1, hs_8, si_9, th_3))) else some (0, hs, si, th_3))) else some (0, hs, si, th_3)))) else (if (m_X1_isPermission a2) = 0 then (bnd2 (m_X1_holds th 1) (fun r_12 th_13 => (if r_12 = 0 then (ix a1 8 (if (m_X1_isIn (hs (Int32.toNatClampNeg a1)) a2) = 0 then (bnd2 (m_X1_give hs si ti a1 a2) (fun hs_18 si_19 => some (1, hs_18, si_19, th_13))) else some (0, hs, si, th_13))) else some (0, hs, si, th_13)))) else (bnd2 (m_X1_holds th 0) (fun r_21 th_22 => (if r_21 = 0 then (ix a1 8 (if (m_X1_isIn (hs (Int32.toNatClampNeg a1)) a2) = 0 then (bnd2 (m_X1_give hs si ti a1 a2) (fun hs_27 si_28 => some (1, hs_27, si_28, th_22))) else some (0, hs, si, th_22))) else some (0, hs, si, th_22))))))
set_option maxHeartbeats 4000000 in
set_option maxRecDepth 100000 in
theorem c_X1_grant (l : Launch) (D : va_G) (cI cJ : ClassId) (y0 y1 y2 y3 y4 y5 y6 y7 y8 : Nat) (sz : Nat) (hs : Nat → Int32) (si : Nat → Int32) (ag : Nat → Int32) (la : Nat → Int32) (fo : Nat → Int32) (co : Nat → Int32) (cv : Nat → Int32) (ta : Nat → Int32) (rc : Int32) (ec : Int32) (su : Int32) (pe : Int32) (ti : Int32) (mn : Int32) (nu : Int32) (th : Int32) (a1 : Int32) (a2 : Int32) (r0 : Int32) (hs' : Nat → Int32) (si' : Nat → Int32) (th' : Int32) (h : m_X1_grant hs si ti th a1 a2 = some (r0, hs', si', th')) : Met l yX1_grant wsX1_grant ({ frames := 2, cells := 0, slots := 0, locals := 44 }) (va_Pc [.ref y0, .int a1, .int a2] (bx_Pre D [(cI, .int), (cJ, .long)] (wY cI cJ y0 y1 y2 y3 y4 y5 y6 y7 y8 hs si ag la fo co cv ta rc ec su pe ti mn nu th) sz)) (va_Qi (fun (r : Int32) (_ : Unit) => r = r0) (fun (_ : Unit) t => bx_Post D [(cI, .int), (cJ, .long)] (wY cI cJ y0 y1 y2 y3 y4 y5 y6 y7 y8 hs' si' ag la fo co cv ta rc ec su pe ti mn nu th') (va_A (wY cI cJ y0 y1 y2 y3 y4 y5 y6 y7 y8 hs si ag la fo co cv ta rc ec su pe ti mn nu th) sz) t) (va_A (wY cI cJ y0 y1 y2 y3 y4 y5 y6 y7 y8 hs si ag la fo co cv ta rc ec su pe ti mn nu th) sz)) 0 0 (va_A (wY cI cJ y0 y1 y2 y3 y4 y5 y6 y7 y8 hs si ag la fo co cv ta rc ec su pe ti mn nu th) sz) := by
  refine Met.ofW (cc := cX1_grant) (maxL := 3) (ret := (some .boolean)) (by decide) rfl ?_
  intro p e s m args below meth c s₁ B hml hv
  obtain ⟨rfl, hsz, hP, hK, hD0⟩ := hv
  have hx := B.exec
  have hb := B.bytes
  have hr := B.returns
  have hts := atoms_spec (ws := wsX1_grant) B.pre
  have hown : s.vm.findClass RX1 = some m.cls := findClass_of_methodNamed B.named
  have hlocks := B.notSynchronized
  subst hsz
  have hD := hD0.self (sz := s.heap.size)
  generalize hAe : va_A (wY cI cJ y0 y1 y2 y3 y4 y5 y6 y7 y8 hs si ag la fo co cv ta rc ec su pe ti mn nu th) s.heap.size = A at hD ⊢
  have hA : ∀ q : Nat, s.heap.size ≤ q → A q := fun q h9 => by rw [← hAe]; exact Or.inr h9
  have hS : va_S A s.heap s.heap [] := va_S.rf
  have hin : ∀ w ∈ wsX10, w ∈ wsX1_grant := fun _ h9 => List.mem_cons_of_mem _ (List.mem_append_right _ h9)
  have hw_0 := hts (.fieldLink RX1 7 "RoleMinerModel" "has" "[I") (by decide +kernel)
  have hl := lv_entry ([.ref y0, .int a1, .int a2]) (n := 3) (Nat.le_of_ble_eq_true rfl)
  rw [lg_entry_eq]
  generalize (lg_sl ([.ref y0, .int a1, .int a2]) ++ List.replicate (3 - (lg_sl ([.ref y0, .int a1, .int a2])).length) Slot.unset).toArray = ls at hl ⊢
  have hl : lv_has ls 3 [(0, .ref y0), (1, .int a1), (2, .int a2)] := hl
  rw [m_X1_grant] at h
  refine lv_aload_n hx hb dX1_grant_0 rfl (lv_at hl 0 rfl) ?_
  refine lv_aload_n hx hb dX1_grant_1 rfl (lv_at hl 0 rfl) ?_
  refine lv_iload_n hx hb dX1_grant_2 rfl (lv_at hl 1 rfl) ?_
  refine cl_Vi (As := [.int a1]) (rest := [.ref y0]) (wc := wY cI cJ y0 y1 y2 y3 y4 y5 y6 y7 y8 hs si ag la fo co cv ta rc ec su pe ti mn nu th) (w1 := wY cI cJ y0 y1 y2 y3 y4 y5 y6 y7 y8 hs si ag la fo co cv ta rc ec su pe ti mn nu th) (wr := []) ⟨hx, hb, hml, hown, hts⟩ (c_X1_isUser l D cI cJ y0 y1 y2 y3 y4 y5 y6 y7 y8 _ hs si ag la fo co cv ta rc ec su pe ti mn nu th a1) (cwV 1 hts gX1_grant_X1_isUser rfl rfl rfl (by decide +kernel) ⟨Nat.le_of_ble_eq_true rfl, Nat.le_of_ble_eq_true rfl⟩) hK hP hD hS hA [0, 1, 2, 3, 4, 5, 6, 7, 8] [] rfl rfl (by decide) (by decide) rfl rfl rfl rfl rfl hl.1 rfl (lv_room (Nat.le_of_ble_eq_true rfl)) dX1_grant_3 (fun H locs hP hD hS => ?_)
  have hP : va_P D vwCl (wY cI cJ y0 y1 y2 y3 y4 y5 y6 y7 y8 hs si ag la fo co cv ta rc ec su pe ti mn nu th) H := hP
  have hD : va_D A (wY cI cJ y0 y1 y2 y3 y4 y5 y6 y7 y8 hs si ag la fo co cv ta rc ec su pe ti mn nu th) := hD
  refine lv_if_eq (tgt := 21) hx hb dX1_grant_6 (by decide) (fun c_1 => ?_) (fun c_1 => ?_)
  · replace h := (if_pos c_1).symm.trans h
    refine lv_iconst (v := 1) hx hb dX1_grant_21 (by decide) ?_
    obtain ⟨r_2, th_3, e_4, h⟩ := bnd2_some h
    refine cl_Vi (As := [.int 1]) (rest := []) (wc := wY cI cJ y0 y1 y2 y3 y4 y5 y6 y7 y8 hs si ag la fo co cv ta rc ec su pe ti mn nu th) (w1 := wY cI cJ y0 y1 y2 y3 y4 y5 y6 y7 y8 hs si ag la fo co cv ta rc ec su pe ti mn nu th_3) (wr := []) ⟨hx, hb, hml, hown, hts⟩ (c_X1_holds l D cI cJ y0 y1 y2 y3 y4 y5 y6 y7 y8 _ hs si ag la fo co cv ta rc ec su pe ti mn nu th 1 r_2 th_3 e_4) (cwV 1 hts gX1_grant_X1_holds rfl rfl rfl (by decide +kernel) ⟨Nat.le_of_ble_eq_true rfl, Nat.le_of_ble_eq_true rfl⟩) hK hP hD hS hA [0, 1, 2, 3, 4, 5, 6, 7, 8] [] rfl rfl (by decide) (by decide) rfl rfl rfl rfl rfl hl.1 rfl (lv_room (Nat.le_of_ble_eq_true rfl)) dX1_grant_22 (fun H locs hP hD hS => ?_)
    have hP : va_P D vwCl (wY cI cJ y0 y1 y2 y3 y4 y5 y6 y7 y8 hs si ag la fo co cv ta rc ec su pe ti mn nu th_3) H := hP
    have hD : va_D A (wY cI cJ y0 y1 y2 y3 y4 y5 y6 y7 y8 hs si ag la fo co cv ta rc ec su pe ti mn nu th_3) := hD
    refine lv_if_ne (tgt := 42) hx hb dX1_grant_25 (by decide) (fun c_5 => ?_) (fun c_5 => ?_)
    · replace h := (if_neg c_5).symm.trans h
      refine lv_iconst (v := 0) hx hb dX1_grant_42 (by decide) ?_
      cases h
      exact W.zret hx hb hr rfl (fun t ht hW => ⟨⟨_, (), rfl, rfl, by rw [ht]; exact hP, va_K.moved hW.alike hK, hD⟩, hS.F ht⟩) hS.2.2 dX1_grant_43
    · replace h := (if_pos c_5).symm.trans h
      refine lv_aload_n hx hb dX1_grant_28 rfl (lv_at hl 0 rfl) ?_
      refine lv_aload_n hx hb dX1_grant_29 rfl (lv_at hl 0 rfl) ?_
      refine va_get (D := D) (ci := 1) (v := .ref y1) (C := RX1) (T := TX1) (N := 16) hx hb hts hin hown hK hP 0 rfl rfl 0 (by decide) hw_0 (fun _ h9 => h9) rfl dX1_grant_30 ?_
      refine lv_iload_n hx hb dX1_grant_33 rfl (lv_at hl 1 rfl) ?_
      obtain ⟨h_6, h⟩ := ix_some h
      refine va_iald hx hb hK hP 1 0 rfl rfl h_6 dX1_grant_34 ?_
      refine lv_iload_n hx hb dX1_grant_35 rfl (lv_at hl 2 rfl) ?_
      refine cl_Vi (As := [.int (hs (Int32.toNatClampNeg a1)), .int a2]) (rest := []) (wc := wY cI cJ y0 y1 y2 y3 y4 y5 y6 y7 y8 hs si ag la fo co cv ta rc ec su pe ti mn nu th_3) (w1 := wY cI cJ y0 y1 y2 y3 y4 y5 y6 y7 y8 hs si ag la fo co cv ta rc ec su pe ti mn nu th_3) (wr := []) ⟨hx, hb, hml, hown, hts⟩ (c_X1_isIn l D cI cJ y0 y1 y2 y3 y4 y5 y6 y7 y8 _ hs si ag la fo co cv ta rc ec su pe ti mn nu th_3 (hs (Int32.toNatClampNeg a1)) a2) (cwV 2 hts gX1_grant_X1_isIn rfl rfl rfl (by decide +kernel) ⟨Nat.le_of_ble_eq_true rfl, Nat.le_of_ble_eq_true rfl⟩) hK hP hD hS hA [0, 1, 2, 3, 4, 5, 6, 7, 8] [] rfl rfl (by decide) (by decide) rfl rfl rfl rfl rfl hl.1 rfl (lv_room (Nat.le_of_ble_eq_true rfl)) dX1_grant_36 (fun H locs hP hD hS => ?_)
      have hP : va_P D vwCl (wY cI cJ y0 y1 y2 y3 y4 y5 y6 y7 y8 hs si ag la fo co cv ta rc ec su pe ti mn nu th_3) H := hP
      have hD : va_D A (wY cI cJ y0 y1 y2 y3 y4 y5 y6 y7 y8 hs si ag la fo co cv ta rc ec su pe ti mn nu th_3) := hD
      refine lv_if_eq (tgt := 44) hx hb dX1_grant_39 (by decide) (fun c_7 => ?_) (fun c_7 => ?_)
      · replace h := (if_pos c_7).symm.trans h
        refine lv_aload_n hx hb dX1_grant_44 rfl (lv_at hl 0 rfl) ?_
        refine lv_iload_n hx hb dX1_grant_45 rfl (lv_at hl 1 rfl) ?_
        refine lv_iload_n hx hb dX1_grant_46 rfl (lv_at hl 2 rfl) ?_
        obtain ⟨hs_8, si_9, e_10, h⟩ := bnd2_some h
        refine cl_Vv (As := [.int a1, .int a2]) (rest := []) (wc := wY cI cJ y0 y1 y2 y3 y4 y5 y6 y7 y8 hs si ag la fo co cv ta rc ec su pe ti mn nu th_3) (w1 := wY cI cJ y0 y1 y2 y3 y4 y5 y6 y7 y8 hs_8 si_9 ag la fo co cv ta rc ec su pe ti mn nu th_3) (wr := []) ⟨hx, hb, hml, hown, hts⟩ (c_X1_give l D cI cJ y0 y1 y2 y3 y4 y5 y6 y7 y8 _ hs si ag la fo co cv ta rc ec su pe ti mn nu th_3 a1 a2 hs_8 si_9 e_10) (cwV 2 hts gX1_grant_X1_give rfl rfl rfl (by decide +kernel) ⟨Nat.le_of_ble_eq_true rfl, Nat.le_of_ble_eq_true rfl⟩) hK hP hD hS hA [0, 1, 2, 3, 4, 5, 6, 7, 8] [] rfl rfl (by decide) (by decide) rfl rfl rfl rfl rfl hl.1 rfl (lv_room (Nat.le_of_ble_eq_true rfl)) dX1_grant_47 (fun H locs hP hD hS => ?_)
        have hP : va_P D vwCl (wY cI cJ y0 y1 y2 y3 y4 y5 y6 y7 y8 hs_8 si_9 ag la fo co cv ta rc ec su pe ti mn nu th_3) H := hP
        have hD : va_D A (wY cI cJ y0 y1 y2 y3 y4 y5 y6 y7 y8 hs_8 si_9 ag la fo co cv ta rc ec su pe ti mn nu th_3) := hD
        refine lv_iconst (v := 1) hx hb dX1_grant_50 (by decide) ?_
        cases h
        exact W.zret hx hb hr rfl (fun t ht hW => ⟨⟨_, (), rfl, rfl, by rw [ht]; exact hP, va_K.moved hW.alike hK, hD⟩, hS.F ht⟩) hS.2.2 dX1_grant_51
      · replace h := (if_neg c_7).symm.trans h
        refine lv_iconst (v := 0) hx hb dX1_grant_42 (by decide) ?_
        cases h
        exact W.zret hx hb hr rfl (fun t ht hW => ⟨⟨_, (), rfl, rfl, by rw [ht]; exact hP, va_K.moved hW.alike hK, hD⟩, hS.F ht⟩) hS.2.2 dX1_grant_43
  · replace h := (if_neg c_1).symm.trans h
    refine lv_aload_n hx hb dX1_grant_9 rfl (lv_at hl 0 rfl) ?_
    refine lv_iload_n hx hb dX1_grant_10 rfl (lv_at hl 2 rfl) ?_
    refine cl_Vi (As := [.int a2]) (rest := [.ref y0]) (wc := wY cI cJ y0 y1 y2 y3 y4 y5 y6 y7 y8 hs si ag la fo co cv ta rc ec su pe ti mn nu th) (w1 := wY cI cJ y0 y1 y2 y3 y4 y5 y6 y7 y8 hs si ag la fo co cv ta rc ec su pe ti mn nu th) (wr := []) ⟨hx, hb, hml, hown, hts⟩ (c_X1_isPermission l D cI cJ y0 y1 y2 y3 y4 y5 y6 y7 y8 _ hs si ag la fo co cv ta rc ec su pe ti mn nu th a2) (cwV 1 hts gX1_grant_X1_isPermission rfl rfl rfl (by decide +kernel) ⟨Nat.le_of_ble_eq_true rfl, Nat.le_of_ble_eq_true rfl⟩) hK hP hD hS hA [0, 1, 2, 3, 4, 5, 6, 7, 8] [] rfl rfl (by decide) (by decide) rfl rfl rfl rfl rfl hl.1 rfl (lv_room (Nat.le_of_ble_eq_true rfl)) dX1_grant_11 (fun H locs hP hD hS => ?_)
    have hP : va_P D vwCl (wY cI cJ y0 y1 y2 y3 y4 y5 y6 y7 y8 hs si ag la fo co cv ta rc ec su pe ti mn nu th) H := hP
    have hD : va_D A (wY cI cJ y0 y1 y2 y3 y4 y5 y6 y7 y8 hs si ag la fo co cv ta rc ec su pe ti mn nu th) := hD
    refine lv_if_eq (tgt := 21) hx hb dX1_grant_14 (by decide) (fun c_11 => ?_) (fun c_11 => ?_)
    · replace h := (if_pos c_11).symm.trans h
      refine lv_iconst (v := 1) hx hb dX1_grant_21 (by decide) ?_
      obtain ⟨r_12, th_13, e_14, h⟩ := bnd2_some h
      refine cl_Vi (As := [.int 1]) (rest := []) (wc := wY cI cJ y0 y1 y2 y3 y4 y5 y6 y7 y8 hs si ag la fo co cv ta rc ec su pe ti mn nu th) (w1 := wY cI cJ y0 y1 y2 y3 y4 y5 y6 y7 y8 hs si ag la fo co cv ta rc ec su pe ti mn nu th_13) (wr := []) ⟨hx, hb, hml, hown, hts⟩ (c_X1_holds l D cI cJ y0 y1 y2 y3 y4 y5 y6 y7 y8 _ hs si ag la fo co cv ta rc ec su pe ti mn nu th 1 r_12 th_13 e_14) (cwV 1 hts gX1_grant_X1_holds rfl rfl rfl (by decide +kernel) ⟨Nat.le_of_ble_eq_true rfl, Nat.le_of_ble_eq_true rfl⟩) hK hP hD hS hA [0, 1, 2, 3, 4, 5, 6, 7, 8] [] rfl rfl (by decide) (by decide) rfl rfl rfl rfl rfl hl.1 rfl (lv_room (Nat.le_of_ble_eq_true rfl)) dX1_grant_22 (fun H locs hP hD hS => ?_)
      have hP : va_P D vwCl (wY cI cJ y0 y1 y2 y3 y4 y5 y6 y7 y8 hs si ag la fo co cv ta rc ec su pe ti mn nu th_13) H := hP
      have hD : va_D A (wY cI cJ y0 y1 y2 y3 y4 y5 y6 y7 y8 hs si ag la fo co cv ta rc ec su pe ti mn nu th_13) := hD
      refine lv_if_ne (tgt := 42) hx hb dX1_grant_25 (by decide) (fun c_15 => ?_) (fun c_15 => ?_)
      · replace h := (if_neg c_15).symm.trans h
        refine lv_iconst (v := 0) hx hb dX1_grant_42 (by decide) ?_
        cases h
        exact W.zret hx hb hr rfl (fun t ht hW => ⟨⟨_, (), rfl, rfl, by rw [ht]; exact hP, va_K.moved hW.alike hK, hD⟩, hS.F ht⟩) hS.2.2 dX1_grant_43
      · replace h := (if_pos c_15).symm.trans h
        refine lv_aload_n hx hb dX1_grant_28 rfl (lv_at hl 0 rfl) ?_
        refine lv_aload_n hx hb dX1_grant_29 rfl (lv_at hl 0 rfl) ?_
        refine va_get (D := D) (ci := 1) (v := .ref y1) (C := RX1) (T := TX1) (N := 16) hx hb hts hin hown hK hP 0 rfl rfl 0 (by decide) hw_0 (fun _ h9 => h9) rfl dX1_grant_30 ?_
        refine lv_iload_n hx hb dX1_grant_33 rfl (lv_at hl 1 rfl) ?_
        obtain ⟨h_16, h⟩ := ix_some h
        refine va_iald hx hb hK hP 1 0 rfl rfl h_16 dX1_grant_34 ?_
        refine lv_iload_n hx hb dX1_grant_35 rfl (lv_at hl 2 rfl) ?_
        refine cl_Vi (As := [.int (hs (Int32.toNatClampNeg a1)), .int a2]) (rest := []) (wc := wY cI cJ y0 y1 y2 y3 y4 y5 y6 y7 y8 hs si ag la fo co cv ta rc ec su pe ti mn nu th_13) (w1 := wY cI cJ y0 y1 y2 y3 y4 y5 y6 y7 y8 hs si ag la fo co cv ta rc ec su pe ti mn nu th_13) (wr := []) ⟨hx, hb, hml, hown, hts⟩ (c_X1_isIn l D cI cJ y0 y1 y2 y3 y4 y5 y6 y7 y8 _ hs si ag la fo co cv ta rc ec su pe ti mn nu th_13 (hs (Int32.toNatClampNeg a1)) a2) (cwV 2 hts gX1_grant_X1_isIn rfl rfl rfl (by decide +kernel) ⟨Nat.le_of_ble_eq_true rfl, Nat.le_of_ble_eq_true rfl⟩) hK hP hD hS hA [0, 1, 2, 3, 4, 5, 6, 7, 8] [] rfl rfl (by decide) (by decide) rfl rfl rfl rfl rfl hl.1 rfl (lv_room (Nat.le_of_ble_eq_true rfl)) dX1_grant_36 (fun H locs hP hD hS => ?_)
        have hP : va_P D vwCl (wY cI cJ y0 y1 y2 y3 y4 y5 y6 y7 y8 hs si ag la fo co cv ta rc ec su pe ti mn nu th_13) H := hP
        have hD : va_D A (wY cI cJ y0 y1 y2 y3 y4 y5 y6 y7 y8 hs si ag la fo co cv ta rc ec su pe ti mn nu th_13) := hD
        refine lv_if_eq (tgt := 44) hx hb dX1_grant_39 (by decide) (fun c_17 => ?_) (fun c_17 => ?_)
        · replace h := (if_pos c_17).symm.trans h
          refine lv_aload_n hx hb dX1_grant_44 rfl (lv_at hl 0 rfl) ?_
          refine lv_iload_n hx hb dX1_grant_45 rfl (lv_at hl 1 rfl) ?_
          refine lv_iload_n hx hb dX1_grant_46 rfl (lv_at hl 2 rfl) ?_
          obtain ⟨hs_18, si_19, e_20, h⟩ := bnd2_some h
          refine cl_Vv (As := [.int a1, .int a2]) (rest := []) (wc := wY cI cJ y0 y1 y2 y3 y4 y5 y6 y7 y8 hs si ag la fo co cv ta rc ec su pe ti mn nu th_13) (w1 := wY cI cJ y0 y1 y2 y3 y4 y5 y6 y7 y8 hs_18 si_19 ag la fo co cv ta rc ec su pe ti mn nu th_13) (wr := []) ⟨hx, hb, hml, hown, hts⟩ (c_X1_give l D cI cJ y0 y1 y2 y3 y4 y5 y6 y7 y8 _ hs si ag la fo co cv ta rc ec su pe ti mn nu th_13 a1 a2 hs_18 si_19 e_20) (cwV 2 hts gX1_grant_X1_give rfl rfl rfl (by decide +kernel) ⟨Nat.le_of_ble_eq_true rfl, Nat.le_of_ble_eq_true rfl⟩) hK hP hD hS hA [0, 1, 2, 3, 4, 5, 6, 7, 8] [] rfl rfl (by decide) (by decide) rfl rfl rfl rfl rfl hl.1 rfl (lv_room (Nat.le_of_ble_eq_true rfl)) dX1_grant_47 (fun H locs hP hD hS => ?_)
          have hP : va_P D vwCl (wY cI cJ y0 y1 y2 y3 y4 y5 y6 y7 y8 hs_18 si_19 ag la fo co cv ta rc ec su pe ti mn nu th_13) H := hP
          have hD : va_D A (wY cI cJ y0 y1 y2 y3 y4 y5 y6 y7 y8 hs_18 si_19 ag la fo co cv ta rc ec su pe ti mn nu th_13) := hD
          refine lv_iconst (v := 1) hx hb dX1_grant_50 (by decide) ?_
          cases h
          exact W.zret hx hb hr rfl (fun t ht hW => ⟨⟨_, (), rfl, rfl, by rw [ht]; exact hP, va_K.moved hW.alike hK, hD⟩, hS.F ht⟩) hS.2.2 dX1_grant_51
        · replace h := (if_neg c_17).symm.trans h
          refine lv_iconst (v := 0) hx hb dX1_grant_42 (by decide) ?_
          cases h
          exact W.zret hx hb hr rfl (fun t ht hW => ⟨⟨_, (), rfl, rfl, by rw [ht]; exact hP, va_K.moved hW.alike hK, hD⟩, hS.F ht⟩) hS.2.2 dX1_grant_43
    · replace h := (if_neg c_11).symm.trans h
      refine lv_iconst (v := 0) hx hb dX1_grant_17 (by decide) ?_
      refine lv_goto (tgt := 22) hx hb dX1_grant_18 (by decide) ?_
      obtain ⟨r_21, th_22, e_23, h⟩ := bnd2_some h
      refine cl_Vi (As := [.int 0]) (rest := []) (wc := wY cI cJ y0 y1 y2 y3 y4 y5 y6 y7 y8 hs si ag la fo co cv ta rc ec su pe ti mn nu th) (w1 := wY cI cJ y0 y1 y2 y3 y4 y5 y6 y7 y8 hs si ag la fo co cv ta rc ec su pe ti mn nu th_22) (wr := []) ⟨hx, hb, hml, hown, hts⟩ (c_X1_holds l D cI cJ y0 y1 y2 y3 y4 y5 y6 y7 y8 _ hs si ag la fo co cv ta rc ec su pe ti mn nu th 0 r_21 th_22 e_23) (cwV 1 hts gX1_grant_X1_holds rfl rfl rfl (by decide +kernel) ⟨Nat.le_of_ble_eq_true rfl, Nat.le_of_ble_eq_true rfl⟩) hK hP hD hS hA [0, 1, 2, 3, 4, 5, 6, 7, 8] [] rfl rfl (by decide) (by decide) rfl rfl rfl rfl rfl hl.1 rfl (lv_room (Nat.le_of_ble_eq_true rfl)) dX1_grant_22 (fun H locs hP hD hS => ?_)
      have hP : va_P D vwCl (wY cI cJ y0 y1 y2 y3 y4 y5 y6 y7 y8 hs si ag la fo co cv ta rc ec su pe ti mn nu th_22) H := hP
      have hD : va_D A (wY cI cJ y0 y1 y2 y3 y4 y5 y6 y7 y8 hs si ag la fo co cv ta rc ec su pe ti mn nu th_22) := hD
      refine lv_if_ne (tgt := 42) hx hb dX1_grant_25 (by decide) (fun c_24 => ?_) (fun c_24 => ?_)
      · replace h := (if_neg c_24).symm.trans h
        refine lv_iconst (v := 0) hx hb dX1_grant_42 (by decide) ?_
        cases h
        exact W.zret hx hb hr rfl (fun t ht hW => ⟨⟨_, (), rfl, rfl, by rw [ht]; exact hP, va_K.moved hW.alike hK, hD⟩, hS.F ht⟩) hS.2.2 dX1_grant_43
      · replace h := (if_pos c_24).symm.trans h
        refine lv_aload_n hx hb dX1_grant_28 rfl (lv_at hl 0 rfl) ?_
        refine lv_aload_n hx hb dX1_grant_29 rfl (lv_at hl 0 rfl) ?_
        refine va_get (D := D) (ci := 1) (v := .ref y1) (C := RX1) (T := TX1) (N := 16) hx hb hts hin hown hK hP 0 rfl rfl 0 (by decide) hw_0 (fun _ h9 => h9) rfl dX1_grant_30 ?_
        refine lv_iload_n hx hb dX1_grant_33 rfl (lv_at hl 1 rfl) ?_
        obtain ⟨h_25, h⟩ := ix_some h
        refine va_iald hx hb hK hP 1 0 rfl rfl h_25 dX1_grant_34 ?_
        refine lv_iload_n hx hb dX1_grant_35 rfl (lv_at hl 2 rfl) ?_
        refine cl_Vi (As := [.int (hs (Int32.toNatClampNeg a1)), .int a2]) (rest := []) (wc := wY cI cJ y0 y1 y2 y3 y4 y5 y6 y7 y8 hs si ag la fo co cv ta rc ec su pe ti mn nu th_22) (w1 := wY cI cJ y0 y1 y2 y3 y4 y5 y6 y7 y8 hs si ag la fo co cv ta rc ec su pe ti mn nu th_22) (wr := []) ⟨hx, hb, hml, hown, hts⟩ (c_X1_isIn l D cI cJ y0 y1 y2 y3 y4 y5 y6 y7 y8 _ hs si ag la fo co cv ta rc ec su pe ti mn nu th_22 (hs (Int32.toNatClampNeg a1)) a2) (cwV 2 hts gX1_grant_X1_isIn rfl rfl rfl (by decide +kernel) ⟨Nat.le_of_ble_eq_true rfl, Nat.le_of_ble_eq_true rfl⟩) hK hP hD hS hA [0, 1, 2, 3, 4, 5, 6, 7, 8] [] rfl rfl (by decide) (by decide) rfl rfl rfl rfl rfl hl.1 rfl (lv_room (Nat.le_of_ble_eq_true rfl)) dX1_grant_36 (fun H locs hP hD hS => ?_)
        have hP : va_P D vwCl (wY cI cJ y0 y1 y2 y3 y4 y5 y6 y7 y8 hs si ag la fo co cv ta rc ec su pe ti mn nu th_22) H := hP
        have hD : va_D A (wY cI cJ y0 y1 y2 y3 y4 y5 y6 y7 y8 hs si ag la fo co cv ta rc ec su pe ti mn nu th_22) := hD
        refine lv_if_eq (tgt := 44) hx hb dX1_grant_39 (by decide) (fun c_26 => ?_) (fun c_26 => ?_)
        · replace h := (if_pos c_26).symm.trans h
          refine lv_aload_n hx hb dX1_grant_44 rfl (lv_at hl 0 rfl) ?_
          refine lv_iload_n hx hb dX1_grant_45 rfl (lv_at hl 1 rfl) ?_
          refine lv_iload_n hx hb dX1_grant_46 rfl (lv_at hl 2 rfl) ?_
          obtain ⟨hs_27, si_28, e_29, h⟩ := bnd2_some h
          refine cl_Vv (As := [.int a1, .int a2]) (rest := []) (wc := wY cI cJ y0 y1 y2 y3 y4 y5 y6 y7 y8 hs si ag la fo co cv ta rc ec su pe ti mn nu th_22) (w1 := wY cI cJ y0 y1 y2 y3 y4 y5 y6 y7 y8 hs_27 si_28 ag la fo co cv ta rc ec su pe ti mn nu th_22) (wr := []) ⟨hx, hb, hml, hown, hts⟩ (c_X1_give l D cI cJ y0 y1 y2 y3 y4 y5 y6 y7 y8 _ hs si ag la fo co cv ta rc ec su pe ti mn nu th_22 a1 a2 hs_27 si_28 e_29) (cwV 2 hts gX1_grant_X1_give rfl rfl rfl (by decide +kernel) ⟨Nat.le_of_ble_eq_true rfl, Nat.le_of_ble_eq_true rfl⟩) hK hP hD hS hA [0, 1, 2, 3, 4, 5, 6, 7, 8] [] rfl rfl (by decide) (by decide) rfl rfl rfl rfl rfl hl.1 rfl (lv_room (Nat.le_of_ble_eq_true rfl)) dX1_grant_47 (fun H locs hP hD hS => ?_)
          have hP : va_P D vwCl (wY cI cJ y0 y1 y2 y3 y4 y5 y6 y7 y8 hs_27 si_28 ag la fo co cv ta rc ec su pe ti mn nu th_22) H := hP
          have hD : va_D A (wY cI cJ y0 y1 y2 y3 y4 y5 y6 y7 y8 hs_27 si_28 ag la fo co cv ta rc ec su pe ti mn nu th_22) := hD
          refine lv_iconst (v := 1) hx hb dX1_grant_50 (by decide) ?_
          cases h
          exact W.zret hx hb hr rfl (fun t ht hW => ⟨⟨_, (), rfl, rfl, by rw [ht]; exact hP, va_K.moved hW.alike hK, hD⟩, hS.F ht⟩) hS.2.2 dX1_grant_51
        · replace h := (if_neg c_26).symm.trans h
          refine lv_iconst (v := 0) hx hb dX1_grant_42 (by decide) ?_
          cases h
          exact W.zret hx hb hr rfl (fun t ht hW => ⟨⟨_, (), rfl, rfl, by rw [ht]; exact hP, va_K.moved hW.alike hK, hD⟩, hS.F ht⟩) hS.2.2 dX1_grant_43
-- X1_revoke
def m_X1_revoke (hs : Nat → Int32) (th : Int32) (a1 : Int32) (a2 : Int32) : Option ((Int32) × ((Nat → Int32)) × ((Int32))) := (if (m_X1_isUser a1) = 0 then (bnd2 (m_X1_holds th 1) (fun r_2 th_3 => (if r_2 = 0 then (ix a1 8 (some ((m_X1_isIn (hs (Int32.toNatClampNeg a1)) a2), (upd hs (Int32.toNatClampNeg a1) ((hs (Int32.toNatClampNeg a1)) &&& ((1 <<< (a2 &&& 31)) ^^^ (-1)))), th_3))) else some (0, hs, th_3)))) else (if (m_X1_isPermission a2) = 0 then (bnd2 (m_X1_holds th 1) (fun r_8 th_9 => (if r_8 = 0 then (ix a1 8 (some ((m_X1_isIn (hs (Int32.toNatClampNeg a1)) a2), (upd hs (Int32.toNatClampNeg a1) ((hs (Int32.toNatClampNeg a1)) &&& ((1 <<< (a2 &&& 31)) ^^^ (-1)))), th_9))) else some (0, hs, th_9)))) else (bnd2 (m_X1_holds th 0) (fun r_13 th_14 => (if r_13 = 0 then (ix a1 8 (some ((m_X1_isIn (hs (Int32.toNatClampNeg a1)) a2), (upd hs (Int32.toNatClampNeg a1) ((hs (Int32.toNatClampNeg a1)) &&& ((1 <<< (a2 &&& 31)) ^^^ (-1)))), th_14))) else some (0, hs, th_14))))))
set_option maxHeartbeats 4000000 in
set_option maxRecDepth 100000 in
theorem c_X1_revoke (l : Launch) (D : va_G) (cI cJ : ClassId) (y0 y1 y2 y3 y4 y5 y6 y7 y8 : Nat) (sz : Nat) (hs : Nat → Int32) (si : Nat → Int32) (ag : Nat → Int32) (la : Nat → Int32) (fo : Nat → Int32) (co : Nat → Int32) (cv : Nat → Int32) (ta : Nat → Int32) (rc : Int32) (ec : Int32) (su : Int32) (pe : Int32) (ti : Int32) (mn : Int32) (nu : Int32) (th : Int32) (a1 : Int32) (a2 : Int32) (r0 : Int32) (hs' : Nat → Int32) (th' : Int32) (h : m_X1_revoke hs th a1 a2 = some (r0, hs', th')) : Met l yX1_revoke wsX1_revoke ({ frames := 2, cells := 0, slots := 0, locals := 44 }) (va_Pc [.ref y0, .int a1, .int a2] (bx_Pre D [(cI, .int), (cJ, .long)] (wY cI cJ y0 y1 y2 y3 y4 y5 y6 y7 y8 hs si ag la fo co cv ta rc ec su pe ti mn nu th) sz)) (va_Qi (fun (r : Int32) (_ : Unit) => r = r0) (fun (_ : Unit) t => bx_Post D [(cI, .int), (cJ, .long)] (wY cI cJ y0 y1 y2 y3 y4 y5 y6 y7 y8 hs' si ag la fo co cv ta rc ec su pe ti mn nu th') (va_A (wY cI cJ y0 y1 y2 y3 y4 y5 y6 y7 y8 hs si ag la fo co cv ta rc ec su pe ti mn nu th) sz) t) (va_A (wY cI cJ y0 y1 y2 y3 y4 y5 y6 y7 y8 hs si ag la fo co cv ta rc ec su pe ti mn nu th) sz)) 0 0 (va_A (wY cI cJ y0 y1 y2 y3 y4 y5 y6 y7 y8 hs si ag la fo co cv ta rc ec su pe ti mn nu th) sz) := by
  refine Met.ofW (cc := cX1_revoke) (maxL := 4) (ret := (some .boolean)) (by decide) rfl ?_
  intro p e s m args below meth c s₁ B hml hv
  obtain ⟨rfl, hsz, hP, hK, hD0⟩ := hv
  have hx := B.exec
  have hb := B.bytes
  have hr := B.returns
  have hts := atoms_spec (ws := wsX1_revoke) B.pre
  have hown : s.vm.findClass RX1 = some m.cls := findClass_of_methodNamed B.named
  have hlocks := B.notSynchronized
  subst hsz
  have hD := hD0.self (sz := s.heap.size)
  generalize hAe : va_A (wY cI cJ y0 y1 y2 y3 y4 y5 y6 y7 y8 hs si ag la fo co cv ta rc ec su pe ti mn nu th) s.heap.size = A at hD ⊢
  have hA : ∀ q : Nat, s.heap.size ≤ q → A q := fun q h9 => by rw [← hAe]; exact Or.inr h9
  have hS : va_S A s.heap s.heap [] := va_S.rf
  have hin : ∀ w ∈ wsX10, w ∈ wsX1_revoke := fun _ h9 => List.mem_cons_of_mem _ (List.mem_append_right _ h9)
  have hw_0 := hts (.fieldLink RX1 7 "RoleMinerModel" "has" "[I") (by decide +kernel)
  have hl := lv_entry ([.ref y0, .int a1, .int a2]) (n := 4) (Nat.le_of_ble_eq_true rfl)
  rw [lg_entry_eq]
  generalize (lg_sl ([.ref y0, .int a1, .int a2]) ++ List.replicate (4 - (lg_sl ([.ref y0, .int a1, .int a2])).length) Slot.unset).toArray = ls at hl ⊢
  have hl : lv_has ls 4 [(0, .ref y0), (1, .int a1), (2, .int a2)] := hl
  rw [m_X1_revoke] at h
  refine lv_aload_n hx hb dX1_revoke_0 rfl (lv_at hl 0 rfl) ?_
  refine lv_aload_n hx hb dX1_revoke_1 rfl (lv_at hl 0 rfl) ?_
  refine lv_iload_n hx hb dX1_revoke_2 rfl (lv_at hl 1 rfl) ?_
  refine cl_Vi (As := [.int a1]) (rest := [.ref y0]) (wc := wY cI cJ y0 y1 y2 y3 y4 y5 y6 y7 y8 hs si ag la fo co cv ta rc ec su pe ti mn nu th) (w1 := wY cI cJ y0 y1 y2 y3 y4 y5 y6 y7 y8 hs si ag la fo co cv ta rc ec su pe ti mn nu th) (wr := []) ⟨hx, hb, hml, hown, hts⟩ (c_X1_isUser l D cI cJ y0 y1 y2 y3 y4 y5 y6 y7 y8 _ hs si ag la fo co cv ta rc ec su pe ti mn nu th a1) (cwV 1 hts gX1_revoke_X1_isUser rfl rfl rfl (by decide +kernel) ⟨Nat.le_of_ble_eq_true rfl, Nat.le_of_ble_eq_true rfl⟩) hK hP hD hS hA [0, 1, 2, 3, 4, 5, 6, 7, 8] [] rfl rfl (by decide) (by decide) rfl rfl rfl rfl rfl hl.1 rfl (lv_room (Nat.le_of_ble_eq_true rfl)) dX1_revoke_3 (fun H locs hP hD hS => ?_)
  have hP : va_P D vwCl (wY cI cJ y0 y1 y2 y3 y4 y5 y6 y7 y8 hs si ag la fo co cv ta rc ec su pe ti mn nu th) H := hP
  have hD : va_D A (wY cI cJ y0 y1 y2 y3 y4 y5 y6 y7 y8 hs si ag la fo co cv ta rc ec su pe ti mn nu th) := hD
  refine lv_if_eq (tgt := 21) hx hb dX1_revoke_6 (by decide) (fun c_1 => ?_) (fun c_1 => ?_)
  · replace h := (if_pos c_1).symm.trans h
    refine lv_iconst (v := 1) hx hb dX1_revoke_21 (by decide) ?_
    obtain ⟨r_2, th_3, e_4, h⟩ := bnd2_some h
    refine cl_Vi (As := [.int 1]) (rest := []) (wc := wY cI cJ y0 y1 y2 y3 y4 y5 y6 y7 y8 hs si ag la fo co cv ta rc ec su pe ti mn nu th) (w1 := wY cI cJ y0 y1 y2 y3 y4 y5 y6 y7 y8 hs si ag la fo co cv ta rc ec su pe ti mn nu th_3) (wr := []) ⟨hx, hb, hml, hown, hts⟩ (c_X1_holds l D cI cJ y0 y1 y2 y3 y4 y5 y6 y7 y8 _ hs si ag la fo co cv ta rc ec su pe ti mn nu th 1 r_2 th_3 e_4) (cwV 1 hts gX1_revoke_X1_holds rfl rfl rfl (by decide +kernel) ⟨Nat.le_of_ble_eq_true rfl, Nat.le_of_ble_eq_true rfl⟩) hK hP hD hS hA [0, 1, 2, 3, 4, 5, 6, 7, 8] [] rfl rfl (by decide) (by decide) rfl rfl rfl rfl rfl hl.1 rfl (lv_room (Nat.le_of_ble_eq_true rfl)) dX1_revoke_22 (fun H locs hP hD hS => ?_)
    have hP : va_P D vwCl (wY cI cJ y0 y1 y2 y3 y4 y5 y6 y7 y8 hs si ag la fo co cv ta rc ec su pe ti mn nu th_3) H := hP
    have hD : va_D A (wY cI cJ y0 y1 y2 y3 y4 y5 y6 y7 y8 hs si ag la fo co cv ta rc ec su pe ti mn nu th_3) := hD
    refine lv_if_eq (tgt := 30) hx hb dX1_revoke_25 (by decide) (fun c_5 => ?_) (fun c_5 => ?_)
    · replace h := (if_pos c_5).symm.trans h
      refine lv_aload_n hx hb dX1_revoke_30 rfl (lv_at hl 0 rfl) ?_
      refine lv_aload_n hx hb dX1_revoke_31 rfl (lv_at hl 0 rfl) ?_
      refine va_get (D := D) (ci := 1) (v := .ref y1) (C := RX1) (T := TX1) (N := 16) hx hb hts hin hown hK hP 0 rfl rfl 0 (by decide) hw_0 (fun _ h9 => h9) rfl dX1_revoke_32 ?_
      refine lv_iload_n hx hb dX1_revoke_35 rfl (lv_at hl 1 rfl) ?_
      obtain ⟨h_6, h⟩ := ix_some h
      refine va_iald hx hb hK hP 1 0 rfl rfl h_6 dX1_revoke_36 ?_
      refine lv_iload_n hx hb dX1_revoke_37 rfl (lv_at hl 2 rfl) ?_
      refine cl_Vi (As := [.int (hs (Int32.toNatClampNeg a1)), .int a2]) (rest := []) (wc := wY cI cJ y0 y1 y2 y3 y4 y5 y6 y7 y8 hs si ag la fo co cv ta rc ec su pe ti mn nu th_3) (w1 := wY cI cJ y0 y1 y2 y3 y4 y5 y6 y7 y8 hs si ag la fo co cv ta rc ec su pe ti mn nu th_3) (wr := []) ⟨hx, hb, hml, hown, hts⟩ (c_X1_isIn l D cI cJ y0 y1 y2 y3 y4 y5 y6 y7 y8 _ hs si ag la fo co cv ta rc ec su pe ti mn nu th_3 (hs (Int32.toNatClampNeg a1)) a2) (cwV 2 hts gX1_revoke_X1_isIn rfl rfl rfl (by decide +kernel) ⟨Nat.le_of_ble_eq_true rfl, Nat.le_of_ble_eq_true rfl⟩) hK hP hD hS hA [0, 1, 2, 3, 4, 5, 6, 7, 8] [] rfl rfl (by decide) (by decide) rfl rfl rfl rfl rfl hl.1 rfl (lv_room (Nat.le_of_ble_eq_true rfl)) dX1_revoke_38 (fun H locs hP hD hS => ?_)
      have hP : va_P D vwCl (wY cI cJ y0 y1 y2 y3 y4 y5 y6 y7 y8 hs si ag la fo co cv ta rc ec su pe ti mn nu th_3) H := hP
      have hD : va_D A (wY cI cJ y0 y1 y2 y3 y4 y5 y6 y7 y8 hs si ag la fo co cv ta rc ec su pe ti mn nu th_3) := hD
      refine lv_istore_n (lv' := [(3, .int (m_X1_isIn (hs (Int32.toNatClampNeg a1)) a2)), (0, .ref y0), (1, .int a1), (2, .int a2)]) hx hb dX1_revoke_41 rfl hl (by decide) rfl (fun ls hl => ?_)
      refine lv_aload_n hx hb dX1_revoke_42 rfl (lv_at hl 1 rfl) ?_
      refine va_get (D := D) (ci := 1) (v := .ref y1) (C := RX1) (T := TX1) (N := 16) hx hb hts hin hown hK hP 0 rfl rfl 0 (by decide) hw_0 (fun _ h9 => h9) rfl dX1_revoke_43 ?_
      refine lv_iload_n hx hb dX1_revoke_46 rfl (lv_at hl 2 rfl) ?_
      refine lv_dup2_11 hx hb dX1_revoke_47 rfl rfl ?_
      refine va_iald hx hb hK hP 1 0 rfl rfl h_6 dX1_revoke_48 ?_
      refine lv_iconst (v := 1) hx hb dX1_revoke_49 (by decide) ?_
      refine lv_iload_n hx hb dX1_revoke_50 rfl (lv_at hl 3 rfl) ?_
      refine lv_ishl hx hb dX1_revoke_51 ?_
      refine lv_iconst (v := (-1)) hx hb dX1_revoke_52 (by decide) ?_
      refine lv_ixor hx hb dX1_revoke_53 ?_
      refine lv_iand hx hb dX1_revoke_54 ?_
      refine va_iast hx hb hK hP hD hS 1 0 rfl rfl h_6 dX1_revoke_55 (fun H locs hP hD hS => ?_)
      have hP : va_P D vwCl (wY cI cJ y0 y1 y2 y3 y4 y5 y6 y7 y8 (upd hs (Int32.toNatClampNeg a1) ((hs (Int32.toNatClampNeg a1)) &&& ((1 <<< (a2 &&& 31)) ^^^ (-1)))) si ag la fo co cv ta rc ec su pe ti mn nu th_3) H := hP
      have hD : va_D A (wY cI cJ y0 y1 y2 y3 y4 y5 y6 y7 y8 (upd hs (Int32.toNatClampNeg a1) ((hs (Int32.toNatClampNeg a1)) &&& ((1 <<< (a2 &&& 31)) ^^^ (-1)))) si ag la fo co cv ta rc ec su pe ti mn nu th_3) := hD
      refine lv_iload_n hx hb dX1_revoke_56 rfl (lv_at hl 0 rfl) ?_
      cases h
      exact W.zret hx hb hr (nb_X1_isIn ..) (fun t ht hW => ⟨⟨_, (), rfl, rfl, by rw [ht]; exact hP, va_K.moved hW.alike hK, hD⟩, hS.F ht⟩) hS.2.2 dX1_revoke_57
    · replace h := (if_neg c_5).symm.trans h
      refine lv_iconst (v := 0) hx hb dX1_revoke_28 (by decide) ?_
      cases h
      exact W.zret hx hb hr rfl (fun t ht hW => ⟨⟨_, (), rfl, rfl, by rw [ht]; exact hP, va_K.moved hW.alike hK, hD⟩, hS.F ht⟩) hS.2.2 dX1_revoke_29
  · replace h := (if_neg c_1).symm.trans h
    refine lv_aload_n hx hb dX1_revoke_9 rfl (lv_at hl 0 rfl) ?_
    refine lv_iload_n hx hb dX1_revoke_10 rfl (lv_at hl 2 rfl) ?_
    refine cl_Vi (As := [.int a2]) (rest := [.ref y0]) (wc := wY cI cJ y0 y1 y2 y3 y4 y5 y6 y7 y8 hs si ag la fo co cv ta rc ec su pe ti mn nu th) (w1 := wY cI cJ y0 y1 y2 y3 y4 y5 y6 y7 y8 hs si ag la fo co cv ta rc ec su pe ti mn nu th) (wr := []) ⟨hx, hb, hml, hown, hts⟩ (c_X1_isPermission l D cI cJ y0 y1 y2 y3 y4 y5 y6 y7 y8 _ hs si ag la fo co cv ta rc ec su pe ti mn nu th a2) (cwV 1 hts gX1_revoke_X1_isPermission rfl rfl rfl (by decide +kernel) ⟨Nat.le_of_ble_eq_true rfl, Nat.le_of_ble_eq_true rfl⟩) hK hP hD hS hA [0, 1, 2, 3, 4, 5, 6, 7, 8] [] rfl rfl (by decide) (by decide) rfl rfl rfl rfl rfl hl.1 rfl (lv_room (Nat.le_of_ble_eq_true rfl)) dX1_revoke_11 (fun H locs hP hD hS => ?_)
    have hP : va_P D vwCl (wY cI cJ y0 y1 y2 y3 y4 y5 y6 y7 y8 hs si ag la fo co cv ta rc ec su pe ti mn nu th) H := hP
    have hD : va_D A (wY cI cJ y0 y1 y2 y3 y4 y5 y6 y7 y8 hs si ag la fo co cv ta rc ec su pe ti mn nu th) := hD
    refine lv_if_eq (tgt := 21) hx hb dX1_revoke_14 (by decide) (fun c_7 => ?_) (fun c_7 => ?_)
    · replace h := (if_pos c_7).symm.trans h
      refine lv_iconst (v := 1) hx hb dX1_revoke_21 (by decide) ?_
      obtain ⟨r_8, th_9, e_10, h⟩ := bnd2_some h
      refine cl_Vi (As := [.int 1]) (rest := []) (wc := wY cI cJ y0 y1 y2 y3 y4 y5 y6 y7 y8 hs si ag la fo co cv ta rc ec su pe ti mn nu th) (w1 := wY cI cJ y0 y1 y2 y3 y4 y5 y6 y7 y8 hs si ag la fo co cv ta rc ec su pe ti mn nu th_9) (wr := []) ⟨hx, hb, hml, hown, hts⟩ (c_X1_holds l D cI cJ y0 y1 y2 y3 y4 y5 y6 y7 y8 _ hs si ag la fo co cv ta rc ec su pe ti mn nu th 1 r_8 th_9 e_10) (cwV 1 hts gX1_revoke_X1_holds rfl rfl rfl (by decide +kernel) ⟨Nat.le_of_ble_eq_true rfl, Nat.le_of_ble_eq_true rfl⟩) hK hP hD hS hA [0, 1, 2, 3, 4, 5, 6, 7, 8] [] rfl rfl (by decide) (by decide) rfl rfl rfl rfl rfl hl.1 rfl (lv_room (Nat.le_of_ble_eq_true rfl)) dX1_revoke_22 (fun H locs hP hD hS => ?_)
      have hP : va_P D vwCl (wY cI cJ y0 y1 y2 y3 y4 y5 y6 y7 y8 hs si ag la fo co cv ta rc ec su pe ti mn nu th_9) H := hP
      have hD : va_D A (wY cI cJ y0 y1 y2 y3 y4 y5 y6 y7 y8 hs si ag la fo co cv ta rc ec su pe ti mn nu th_9) := hD
      refine lv_if_eq (tgt := 30) hx hb dX1_revoke_25 (by decide) (fun c_11 => ?_) (fun c_11 => ?_)
      · replace h := (if_pos c_11).symm.trans h
        refine lv_aload_n hx hb dX1_revoke_30 rfl (lv_at hl 0 rfl) ?_
        refine lv_aload_n hx hb dX1_revoke_31 rfl (lv_at hl 0 rfl) ?_
        refine va_get (D := D) (ci := 1) (v := .ref y1) (C := RX1) (T := TX1) (N := 16) hx hb hts hin hown hK hP 0 rfl rfl 0 (by decide) hw_0 (fun _ h9 => h9) rfl dX1_revoke_32 ?_
        refine lv_iload_n hx hb dX1_revoke_35 rfl (lv_at hl 1 rfl) ?_
        obtain ⟨h_12, h⟩ := ix_some h
        refine va_iald hx hb hK hP 1 0 rfl rfl h_12 dX1_revoke_36 ?_
        refine lv_iload_n hx hb dX1_revoke_37 rfl (lv_at hl 2 rfl) ?_
        refine cl_Vi (As := [.int (hs (Int32.toNatClampNeg a1)), .int a2]) (rest := []) (wc := wY cI cJ y0 y1 y2 y3 y4 y5 y6 y7 y8 hs si ag la fo co cv ta rc ec su pe ti mn nu th_9) (w1 := wY cI cJ y0 y1 y2 y3 y4 y5 y6 y7 y8 hs si ag la fo co cv ta rc ec su pe ti mn nu th_9) (wr := []) ⟨hx, hb, hml, hown, hts⟩ (c_X1_isIn l D cI cJ y0 y1 y2 y3 y4 y5 y6 y7 y8 _ hs si ag la fo co cv ta rc ec su pe ti mn nu th_9 (hs (Int32.toNatClampNeg a1)) a2) (cwV 2 hts gX1_revoke_X1_isIn rfl rfl rfl (by decide +kernel) ⟨Nat.le_of_ble_eq_true rfl, Nat.le_of_ble_eq_true rfl⟩) hK hP hD hS hA [0, 1, 2, 3, 4, 5, 6, 7, 8] [] rfl rfl (by decide) (by decide) rfl rfl rfl rfl rfl hl.1 rfl (lv_room (Nat.le_of_ble_eq_true rfl)) dX1_revoke_38 (fun H locs hP hD hS => ?_)
        have hP : va_P D vwCl (wY cI cJ y0 y1 y2 y3 y4 y5 y6 y7 y8 hs si ag la fo co cv ta rc ec su pe ti mn nu th_9) H := hP
        have hD : va_D A (wY cI cJ y0 y1 y2 y3 y4 y5 y6 y7 y8 hs si ag la fo co cv ta rc ec su pe ti mn nu th_9) := hD
        refine lv_istore_n (lv' := [(3, .int (m_X1_isIn (hs (Int32.toNatClampNeg a1)) a2)), (0, .ref y0), (1, .int a1), (2, .int a2)]) hx hb dX1_revoke_41 rfl hl (by decide) rfl (fun ls hl => ?_)
        refine lv_aload_n hx hb dX1_revoke_42 rfl (lv_at hl 1 rfl) ?_
        refine va_get (D := D) (ci := 1) (v := .ref y1) (C := RX1) (T := TX1) (N := 16) hx hb hts hin hown hK hP 0 rfl rfl 0 (by decide) hw_0 (fun _ h9 => h9) rfl dX1_revoke_43 ?_
        refine lv_iload_n hx hb dX1_revoke_46 rfl (lv_at hl 2 rfl) ?_
        refine lv_dup2_11 hx hb dX1_revoke_47 rfl rfl ?_
        refine va_iald hx hb hK hP 1 0 rfl rfl h_12 dX1_revoke_48 ?_
        refine lv_iconst (v := 1) hx hb dX1_revoke_49 (by decide) ?_
        refine lv_iload_n hx hb dX1_revoke_50 rfl (lv_at hl 3 rfl) ?_
        refine lv_ishl hx hb dX1_revoke_51 ?_
        refine lv_iconst (v := (-1)) hx hb dX1_revoke_52 (by decide) ?_
        refine lv_ixor hx hb dX1_revoke_53 ?_
        refine lv_iand hx hb dX1_revoke_54 ?_
        refine va_iast hx hb hK hP hD hS 1 0 rfl rfl h_12 dX1_revoke_55 (fun H locs hP hD hS => ?_)
        have hP : va_P D vwCl (wY cI cJ y0 y1 y2 y3 y4 y5 y6 y7 y8 (upd hs (Int32.toNatClampNeg a1) ((hs (Int32.toNatClampNeg a1)) &&& ((1 <<< (a2 &&& 31)) ^^^ (-1)))) si ag la fo co cv ta rc ec su pe ti mn nu th_9) H := hP
        have hD : va_D A (wY cI cJ y0 y1 y2 y3 y4 y5 y6 y7 y8 (upd hs (Int32.toNatClampNeg a1) ((hs (Int32.toNatClampNeg a1)) &&& ((1 <<< (a2 &&& 31)) ^^^ (-1)))) si ag la fo co cv ta rc ec su pe ti mn nu th_9) := hD
        refine lv_iload_n hx hb dX1_revoke_56 rfl (lv_at hl 0 rfl) ?_
        cases h
        exact W.zret hx hb hr (nb_X1_isIn ..) (fun t ht hW => ⟨⟨_, (), rfl, rfl, by rw [ht]; exact hP, va_K.moved hW.alike hK, hD⟩, hS.F ht⟩) hS.2.2 dX1_revoke_57
      · replace h := (if_neg c_11).symm.trans h
        refine lv_iconst (v := 0) hx hb dX1_revoke_28 (by decide) ?_
        cases h
        exact W.zret hx hb hr rfl (fun t ht hW => ⟨⟨_, (), rfl, rfl, by rw [ht]; exact hP, va_K.moved hW.alike hK, hD⟩, hS.F ht⟩) hS.2.2 dX1_revoke_29
    · replace h := (if_neg c_7).symm.trans h
      refine lv_iconst (v := 0) hx hb dX1_revoke_17 (by decide) ?_
      refine lv_goto (tgt := 22) hx hb dX1_revoke_18 (by decide) ?_
      obtain ⟨r_13, th_14, e_15, h⟩ := bnd2_some h
      refine cl_Vi (As := [.int 0]) (rest := []) (wc := wY cI cJ y0 y1 y2 y3 y4 y5 y6 y7 y8 hs si ag la fo co cv ta rc ec su pe ti mn nu th) (w1 := wY cI cJ y0 y1 y2 y3 y4 y5 y6 y7 y8 hs si ag la fo co cv ta rc ec su pe ti mn nu th_14) (wr := []) ⟨hx, hb, hml, hown, hts⟩ (c_X1_holds l D cI cJ y0 y1 y2 y3 y4 y5 y6 y7 y8 _ hs si ag la fo co cv ta rc ec su pe ti mn nu th 0 r_13 th_14 e_15) (cwV 1 hts gX1_revoke_X1_holds rfl rfl rfl (by decide +kernel) ⟨Nat.le_of_ble_eq_true rfl, Nat.le_of_ble_eq_true rfl⟩) hK hP hD hS hA [0, 1, 2, 3, 4, 5, 6, 7, 8] [] rfl rfl (by decide) (by decide) rfl rfl rfl rfl rfl hl.1 rfl (lv_room (Nat.le_of_ble_eq_true rfl)) dX1_revoke_22 (fun H locs hP hD hS => ?_)
      have hP : va_P D vwCl (wY cI cJ y0 y1 y2 y3 y4 y5 y6 y7 y8 hs si ag la fo co cv ta rc ec su pe ti mn nu th_14) H := hP
      have hD : va_D A (wY cI cJ y0 y1 y2 y3 y4 y5 y6 y7 y8 hs si ag la fo co cv ta rc ec su pe ti mn nu th_14) := hD
      refine lv_if_eq (tgt := 30) hx hb dX1_revoke_25 (by decide) (fun c_16 => ?_) (fun c_16 => ?_)
      · replace h := (if_pos c_16).symm.trans h
        refine lv_aload_n hx hb dX1_revoke_30 rfl (lv_at hl 0 rfl) ?_
        refine lv_aload_n hx hb dX1_revoke_31 rfl (lv_at hl 0 rfl) ?_
        refine va_get (D := D) (ci := 1) (v := .ref y1) (C := RX1) (T := TX1) (N := 16) hx hb hts hin hown hK hP 0 rfl rfl 0 (by decide) hw_0 (fun _ h9 => h9) rfl dX1_revoke_32 ?_
        refine lv_iload_n hx hb dX1_revoke_35 rfl (lv_at hl 1 rfl) ?_
        obtain ⟨h_17, h⟩ := ix_some h
        refine va_iald hx hb hK hP 1 0 rfl rfl h_17 dX1_revoke_36 ?_
        refine lv_iload_n hx hb dX1_revoke_37 rfl (lv_at hl 2 rfl) ?_
        refine cl_Vi (As := [.int (hs (Int32.toNatClampNeg a1)), .int a2]) (rest := []) (wc := wY cI cJ y0 y1 y2 y3 y4 y5 y6 y7 y8 hs si ag la fo co cv ta rc ec su pe ti mn nu th_14) (w1 := wY cI cJ y0 y1 y2 y3 y4 y5 y6 y7 y8 hs si ag la fo co cv ta rc ec su pe ti mn nu th_14) (wr := []) ⟨hx, hb, hml, hown, hts⟩ (c_X1_isIn l D cI cJ y0 y1 y2 y3 y4 y5 y6 y7 y8 _ hs si ag la fo co cv ta rc ec su pe ti mn nu th_14 (hs (Int32.toNatClampNeg a1)) a2) (cwV 2 hts gX1_revoke_X1_isIn rfl rfl rfl (by decide +kernel) ⟨Nat.le_of_ble_eq_true rfl, Nat.le_of_ble_eq_true rfl⟩) hK hP hD hS hA [0, 1, 2, 3, 4, 5, 6, 7, 8] [] rfl rfl (by decide) (by decide) rfl rfl rfl rfl rfl hl.1 rfl (lv_room (Nat.le_of_ble_eq_true rfl)) dX1_revoke_38 (fun H locs hP hD hS => ?_)
        have hP : va_P D vwCl (wY cI cJ y0 y1 y2 y3 y4 y5 y6 y7 y8 hs si ag la fo co cv ta rc ec su pe ti mn nu th_14) H := hP
        have hD : va_D A (wY cI cJ y0 y1 y2 y3 y4 y5 y6 y7 y8 hs si ag la fo co cv ta rc ec su pe ti mn nu th_14) := hD
        refine lv_istore_n (lv' := [(3, .int (m_X1_isIn (hs (Int32.toNatClampNeg a1)) a2)), (0, .ref y0), (1, .int a1), (2, .int a2)]) hx hb dX1_revoke_41 rfl hl (by decide) rfl (fun ls hl => ?_)
        refine lv_aload_n hx hb dX1_revoke_42 rfl (lv_at hl 1 rfl) ?_
        refine va_get (D := D) (ci := 1) (v := .ref y1) (C := RX1) (T := TX1) (N := 16) hx hb hts hin hown hK hP 0 rfl rfl 0 (by decide) hw_0 (fun _ h9 => h9) rfl dX1_revoke_43 ?_
        refine lv_iload_n hx hb dX1_revoke_46 rfl (lv_at hl 2 rfl) ?_
        refine lv_dup2_11 hx hb dX1_revoke_47 rfl rfl ?_
        refine va_iald hx hb hK hP 1 0 rfl rfl h_17 dX1_revoke_48 ?_
        refine lv_iconst (v := 1) hx hb dX1_revoke_49 (by decide) ?_
        refine lv_iload_n hx hb dX1_revoke_50 rfl (lv_at hl 3 rfl) ?_
        refine lv_ishl hx hb dX1_revoke_51 ?_
        refine lv_iconst (v := (-1)) hx hb dX1_revoke_52 (by decide) ?_
        refine lv_ixor hx hb dX1_revoke_53 ?_
        refine lv_iand hx hb dX1_revoke_54 ?_
        refine va_iast hx hb hK hP hD hS 1 0 rfl rfl h_17 dX1_revoke_55 (fun H locs hP hD hS => ?_)
        have hP : va_P D vwCl (wY cI cJ y0 y1 y2 y3 y4 y5 y6 y7 y8 (upd hs (Int32.toNatClampNeg a1) ((hs (Int32.toNatClampNeg a1)) &&& ((1 <<< (a2 &&& 31)) ^^^ (-1)))) si ag la fo co cv ta rc ec su pe ti mn nu th_14) H := hP
        have hD : va_D A (wY cI cJ y0 y1 y2 y3 y4 y5 y6 y7 y8 (upd hs (Int32.toNatClampNeg a1) ((hs (Int32.toNatClampNeg a1)) &&& ((1 <<< (a2 &&& 31)) ^^^ (-1)))) si ag la fo co cv ta rc ec su pe ti mn nu th_14) := hD
        refine lv_iload_n hx hb dX1_revoke_56 rfl (lv_at hl 0 rfl) ?_
        cases h
        exact W.zret hx hb hr (nb_X1_isIn ..) (fun t ht hW => ⟨⟨_, (), rfl, rfl, by rw [ht]; exact hP, va_K.moved hW.alike hK, hD⟩, hS.F ht⟩) hS.2.2 dX1_revoke_57
      · replace h := (if_neg c_16).symm.trans h
        refine lv_iconst (v := 0) hx hb dX1_revoke_28 (by decide) ?_
        cases h
        exact W.zret hx hb hr rfl (fun t ht hW => ⟨⟨_, (), rfl, rfl, by rw [ht]; exact hP, va_K.moved hW.alike hK, hD⟩, hS.F ht⟩) hS.2.2 dX1_revoke_29
-- X1_setGrants
def m_X1_setGrants_54 (fu : Nat) (ti : Int32) (a1 : Int32) (a2 : Int32) : Nat → Int32 → Int32 → (Nat → Int32) → (Nat → Int32) → (Int32) → Option ((Int32) × ((Nat → Int32)) × ((Nat → Int32)) × ((Int32)))
  | 0, _, _, _, _, _ => none
  | n + 1, v3, v4, hs, si, th => (if 12 ≤ v4 then (ix a1 8 (some (v3, (upd hs (Int32.toNatClampNeg a1) a2), si, th))) else (ix a1 8 (if (m_X1_isIn (a2 &&& ((hs (Int32.toNatClampNeg a1)) ^^^ (-1))) v4) = 0 then (m_X1_setGrants_54 fu ti a1 a2 n v3 (v4 + 1) hs si th) else (bnd2 (m_X1_give hs si ti a1 v4) (fun hs_28 si_29 => (m_X1_setGrants_54 fu ti a1 a2 n v3 (v4 + 1) hs_28 si_29 th))))))
def m_X1_setGrants (fu : Nat) (hs : Nat → Int32) (si : Nat → Int32) (ti : Int32) (th : Int32) (a1 : Int32) (a2 : Int32) : Option ((Int32) × ((Nat → Int32)) × ((Nat → Int32)) × ((Int32))) := (if (m_X1_isUser a1) = 0 then (bnd2 (m_X1_holds th 1) (fun r_17 th_18 => (if r_17 = 0 then (ix a1 8 (bnd1 (m_X1_size fu ((hs (Int32.toNatClampNeg a1)) ^^^ a2)) (fun r_22 => (m_X1_setGrants_54 fu ti a1 a2 fu r_22 0 hs si th_18)))) else some ((-1), hs, si, th_18)))) else (if (m_X1_between a2 0 4095) = 0 then (bnd2 (m_X1_holds th 2) (fun r_3 th_4 => (if r_3 = 0 then (ix a1 8 (bnd1 (m_X1_size fu ((hs (Int32.toNatClampNeg a1)) ^^^ a2)) (fun r_8 => (m_X1_setGrants_54 fu ti a1 a2 fu r_8 0 hs si th_4)))) else some ((-1), hs, si, th_4)))) else (bnd2 (m_X1_holds th 0) (fun r_10 th_11 => (if r_10 = 0 then (ix a1 8 (bnd1 (m_X1_size fu ((hs (Int32.toNatClampNeg a1)) ^^^ a2)) (fun r_15 => (m_X1_setGrants_54 fu ti a1 a2 fu r_15 0 hs si th_11)))) else some ((-1), hs, si, th_11))))))
set_option maxHeartbeats 4000000 in
set_option maxRecDepth 100000 in
theorem c_X1_setGrants (l : Launch) (D : va_G) (cI cJ : ClassId) (y0 y1 y2 y3 y4 y5 y6 y7 y8 : Nat) (sz : Nat) (hs : Nat → Int32) (si : Nat → Int32) (ag : Nat → Int32) (la : Nat → Int32) (fo : Nat → Int32) (co : Nat → Int32) (cv : Nat → Int32) (ta : Nat → Int32) (rc : Int32) (ec : Int32) (su : Int32) (pe : Int32) (ti : Int32) (mn : Int32) (nu : Int32) (th : Int32) (fu : Nat) (a1 : Int32) (a2 : Int32) (r0 : Int32) (hs' : Nat → Int32) (si' : Nat → Int32) (th' : Int32) (h : m_X1_setGrants fu hs si ti th a1 a2 = some (r0, hs', si', th')) : Met l yX1_setGrants wsX1_setGrants ({ frames := 2, cells := 0, slots := 0, locals := 44 }) (va_Pc [.ref y0, .int a1, .int a2] (bx_Pre D [(cI, .int), (cJ, .long)] (wY cI cJ y0 y1 y2 y3 y4 y5 y6 y7 y8 hs si ag la fo co cv ta rc ec su pe ti mn nu th) sz)) (va_Qi (fun (r : Int32) (_ : Unit) => r = r0) (fun (_ : Unit) t => bx_Post D [(cI, .int), (cJ, .long)] (wY cI cJ y0 y1 y2 y3 y4 y5 y6 y7 y8 hs' si' ag la fo co cv ta rc ec su pe ti mn nu th') (va_A (wY cI cJ y0 y1 y2 y3 y4 y5 y6 y7 y8 hs si ag la fo co cv ta rc ec su pe ti mn nu th) sz) t) (va_A (wY cI cJ y0 y1 y2 y3 y4 y5 y6 y7 y8 hs si ag la fo co cv ta rc ec su pe ti mn nu th) sz)) 0 0 (va_A (wY cI cJ y0 y1 y2 y3 y4 y5 y6 y7 y8 hs si ag la fo co cv ta rc ec su pe ti mn nu th) sz) := by
  refine Met.ofW (cc := cX1_setGrants) (maxL := 5) (ret := (some .int)) (by decide) rfl ?_
  intro p e s m args below meth c s₁ B hml hv
  obtain ⟨rfl, hsz, hP, hK, hD0⟩ := hv
  have hx := B.exec
  have hb := B.bytes
  have hr := B.returns
  have hts := atoms_spec (ws := wsX1_setGrants) B.pre
  have hown : s.vm.findClass RX1 = some m.cls := findClass_of_methodNamed B.named
  have hlocks := B.notSynchronized
  subst hsz
  have hD := hD0.self (sz := s.heap.size)
  generalize hAe : va_A (wY cI cJ y0 y1 y2 y3 y4 y5 y6 y7 y8 hs si ag la fo co cv ta rc ec su pe ti mn nu th) s.heap.size = A at hD ⊢
  have hA : ∀ q : Nat, s.heap.size ≤ q → A q := fun q h9 => by rw [← hAe]; exact Or.inr h9
  have hS : va_S A s.heap s.heap [] := va_S.rf
  have hin : ∀ w ∈ wsX10, w ∈ wsX1_setGrants := fun _ h9 => List.mem_cons_of_mem _ (List.mem_append_right _ h9)
  have hw_0 := hts (.fieldLink RX1 7 "RoleMinerModel" "has" "[I") (by decide +kernel)
  have hl := lv_entry ([.ref y0, .int a1, .int a2]) (n := 5) (Nat.le_of_ble_eq_true rfl)
  rw [lg_entry_eq]
  generalize (lg_sl ([.ref y0, .int a1, .int a2]) ++ List.replicate (5 - (lg_sl ([.ref y0, .int a1, .int a2])).length) Slot.unset).toArray = ls at hl ⊢
  have hl : lv_has ls 5 [(0, .ref y0), (1, .int a1), (2, .int a2)] := hl
  have L54 : ∀ (n : Nat) (v3 : Int32) (v4 : Int32) (hs : Nat → Int32) (si : Nat → Int32) (th : Int32) (H : Heap) (locs : List Loc) (ls : Array Slot), m_X1_setGrants_54 fu ti a1 a2 n v3 v4 hs si th = some (r0, hs', si', th') → va_P D vwCl (wY cI cJ y0 y1 y2 y3 y4 y5 y6 y7 y8 hs si ag la fo co cv ta rc ec su pe ti mn nu th) H → va_D A (wY cI cJ y0 y1 y2 y3 y4 y5 y6 y7 y8 hs si ag la fo co cv ta rc ec su pe ti mn nu th) → va_S A s.heap H locs → lv_has ls 5 [(0, .ref y0), (1, .int a1), (2, .int a2), (3, .int v3), (4, .int v4)] → W p l e (headSpec wsX1_setGrants ({ frames := 2, cells := 0, slots := 0, locals := 44 })).room s m ([.ref y0, .int a1, .int a2] : List Value).toArray below meth c H locs 0 0 (MQ below (va_Qi (fun (r : Int32) (_ : Unit) => r = r0) (fun (_ : Unit) t => bx_Post D [(cI, .int), (cJ, .long)] (wY cI cJ y0 y1 y2 y3 y4 y5 y6 y7 y8 hs' si' ag la fo co cv ta rc ec su pe ti mn nu th') A t) A) ([.ref y0, .int a1, .int a2] : List Value).toArray s 0 0 A) (F0 m 54 ls []) := by
    intro n
    induction n with
    | zero =>
      intro v3 v4 hs si th H locs ls h
      rw [m_X1_setGrants_54] at h
      cases h
    | succ n ih =>
      intro v3 v4 hs si th H locs ls h hP hD hS hl
      rw [m_X1_setGrants_54] at h
      refine lv_iload hx hb dX1_setGrants_54 (lv_at hl 4 rfl) ?_
      refine lv_bipush (v := 12) hx hb dX1_setGrants_56 (by decide) ?_
      refine lv_icmp_ge (tgt := 93) hx hb dX1_setGrants_58 (by decide) (fun c_24 => ?_) (fun c_24 => ?_)
      · replace h := (if_pos c_24).symm.trans h
        refine lv_aload_n hx hb dX1_setGrants_93 rfl (lv_at hl 0 rfl) ?_
        refine va_get (D := D) (ci := 1) (v := .ref y1) (C := RX1) (T := TX1) (N := 16) hx hb hts hin hown hK hP 0 rfl rfl 0 (by decide) hw_0 (fun _ h9 => h9) rfl dX1_setGrants_94 ?_
        refine lv_iload_n hx hb dX1_setGrants_97 rfl (lv_at hl 1 rfl) ?_
        refine lv_iload_n hx hb dX1_setGrants_98 rfl (lv_at hl 2 rfl) ?_
        obtain ⟨h_25, h⟩ := ix_some h
        refine va_iast hx hb hK hP hD hS 1 0 rfl rfl h_25 dX1_setGrants_99 (fun H locs hP hD hS => ?_)
        have hP : va_P D vwCl (wY cI cJ y0 y1 y2 y3 y4 y5 y6 y7 y8 (upd hs (Int32.toNatClampNeg a1) a2) si ag la fo co cv ta rc ec su pe ti mn nu th) H := hP
        have hD : va_D A (wY cI cJ y0 y1 y2 y3 y4 y5 y6 y7 y8 (upd hs (Int32.toNatClampNeg a1) a2) si ag la fo co cv ta rc ec su pe ti mn nu th) := hD
        refine lv_iload_n hx hb dX1_setGrants_100 rfl (lv_at hl 3 rfl) ?_
        cases h
        exact W.iret hx hb hr (fun t ht hW => ⟨⟨_, (), rfl, rfl, by rw [ht]; exact hP, va_K.moved hW.alike hK, hD⟩, hS.F ht⟩) hS.2.2 dX1_setGrants_101
      · replace h := (if_neg c_24).symm.trans h
        refine lv_aload_n hx hb dX1_setGrants_61 rfl (lv_at hl 0 rfl) ?_
        refine lv_iload_n hx hb dX1_setGrants_62 rfl (lv_at hl 2 rfl) ?_
        refine lv_aload_n hx hb dX1_setGrants_63 rfl (lv_at hl 0 rfl) ?_
        refine va_get (D := D) (ci := 1) (v := .ref y1) (C := RX1) (T := TX1) (N := 16) hx hb hts hin hown hK hP 0 rfl rfl 0 (by decide) hw_0 (fun _ h9 => h9) rfl dX1_setGrants_64 ?_
        refine lv_iload_n hx hb dX1_setGrants_67 rfl (lv_at hl 1 rfl) ?_
        obtain ⟨h_26, h⟩ := ix_some h
        refine va_iald hx hb hK hP 1 0 rfl rfl h_26 dX1_setGrants_68 ?_
        refine lv_iconst (v := (-1)) hx hb dX1_setGrants_69 (by decide) ?_
        refine lv_ixor hx hb dX1_setGrants_70 ?_
        refine lv_iand hx hb dX1_setGrants_71 ?_
        refine lv_iload hx hb dX1_setGrants_72 (lv_at hl 4 rfl) ?_
        refine cl_Vi (As := [.int (a2 &&& ((hs (Int32.toNatClampNeg a1)) ^^^ (-1))), .int v4]) (rest := []) (wc := wY cI cJ y0 y1 y2 y3 y4 y5 y6 y7 y8 hs si ag la fo co cv ta rc ec su pe ti mn nu th) (w1 := wY cI cJ y0 y1 y2 y3 y4 y5 y6 y7 y8 hs si ag la fo co cv ta rc ec su pe ti mn nu th) (wr := []) ⟨hx, hb, hml, hown, hts⟩ (c_X1_isIn l D cI cJ y0 y1 y2 y3 y4 y5 y6 y7 y8 _ hs si ag la fo co cv ta rc ec su pe ti mn nu th (a2 &&& ((hs (Int32.toNatClampNeg a1)) ^^^ (-1))) v4) (cwV 2 hts gX1_setGrants_X1_isIn rfl rfl rfl (by decide +kernel) ⟨Nat.le_of_ble_eq_true rfl, Nat.le_of_ble_eq_true rfl⟩) hK hP hD hS hA [0, 1, 2, 3, 4, 5, 6, 7, 8] [] rfl rfl (by decide) (by decide) rfl rfl rfl rfl rfl hl.1 rfl (lv_room (Nat.le_of_ble_eq_true rfl)) dX1_setGrants_74 (fun H locs hP hD hS => ?_)
        have hP : va_P D vwCl (wY cI cJ y0 y1 y2 y3 y4 y5 y6 y7 y8 hs si ag la fo co cv ta rc ec su pe ti mn nu th) H := hP
        have hD : va_D A (wY cI cJ y0 y1 y2 y3 y4 y5 y6 y7 y8 hs si ag la fo co cv ta rc ec su pe ti mn nu th) := hD
        refine lv_if_eq (tgt := 87) hx hb dX1_setGrants_77 (by decide) (fun c_27 => ?_) (fun c_27 => ?_)
        · replace h := (if_pos c_27).symm.trans h
          refine lv_iinc (v := (v4 + 1)) (lv' := [(4, .int (v4 + 1)), (0, .ref y0), (1, .int a1), (2, .int a2), (3, .int v3)]) hx hb dX1_setGrants_87 hl (k := 4) rfl rfl (by decide) rfl (fun ls hl => ?_)
          refine lv_goto (tgt := 54) hx hb dX1_setGrants_90 (by decide) ?_
          exact ih v3 (v4 + 1) hs si th _ _ _ h hP hD hS (lv_sub hl [1, 2, 3, 4, 0] rfl)
        · replace h := (if_neg c_27).symm.trans h
          refine lv_aload_n hx hb dX1_setGrants_80 rfl (lv_at hl 0 rfl) ?_
          refine lv_iload_n hx hb dX1_setGrants_81 rfl (lv_at hl 1 rfl) ?_
          refine lv_iload hx hb dX1_setGrants_82 (lv_at hl 4 rfl) ?_
          obtain ⟨hs_28, si_29, e_30, h⟩ := bnd2_some h
          refine cl_Vv (As := [.int a1, .int v4]) (rest := []) (wc := wY cI cJ y0 y1 y2 y3 y4 y5 y6 y7 y8 hs si ag la fo co cv ta rc ec su pe ti mn nu th) (w1 := wY cI cJ y0 y1 y2 y3 y4 y5 y6 y7 y8 hs_28 si_29 ag la fo co cv ta rc ec su pe ti mn nu th) (wr := []) ⟨hx, hb, hml, hown, hts⟩ (c_X1_give l D cI cJ y0 y1 y2 y3 y4 y5 y6 y7 y8 _ hs si ag la fo co cv ta rc ec su pe ti mn nu th a1 v4 hs_28 si_29 e_30) (cwV 2 hts gX1_setGrants_X1_give rfl rfl rfl (by decide +kernel) ⟨Nat.le_of_ble_eq_true rfl, Nat.le_of_ble_eq_true rfl⟩) hK hP hD hS hA [0, 1, 2, 3, 4, 5, 6, 7, 8] [] rfl rfl (by decide) (by decide) rfl rfl rfl rfl rfl hl.1 rfl (lv_room (Nat.le_of_ble_eq_true rfl)) dX1_setGrants_84 (fun H locs hP hD hS => ?_)
          have hP : va_P D vwCl (wY cI cJ y0 y1 y2 y3 y4 y5 y6 y7 y8 hs_28 si_29 ag la fo co cv ta rc ec su pe ti mn nu th) H := hP
          have hD : va_D A (wY cI cJ y0 y1 y2 y3 y4 y5 y6 y7 y8 hs_28 si_29 ag la fo co cv ta rc ec su pe ti mn nu th) := hD
          refine lv_iinc (v := (v4 + 1)) (lv' := [(4, .int (v4 + 1)), (0, .ref y0), (1, .int a1), (2, .int a2), (3, .int v3)]) hx hb dX1_setGrants_87 hl (k := 4) rfl rfl (by decide) rfl (fun ls hl => ?_)
          refine lv_goto (tgt := 54) hx hb dX1_setGrants_90 (by decide) ?_
          exact ih v3 (v4 + 1) hs_28 si_29 th _ _ _ h hP hD hS (lv_sub hl [1, 2, 3, 4, 0] rfl)
  rw [m_X1_setGrants] at h
  refine lv_aload_n hx hb dX1_setGrants_0 rfl (lv_at hl 0 rfl) ?_
  refine lv_aload_n hx hb dX1_setGrants_1 rfl (lv_at hl 0 rfl) ?_
  refine lv_iload_n hx hb dX1_setGrants_2 rfl (lv_at hl 1 rfl) ?_
  refine cl_Vi (As := [.int a1]) (rest := [.ref y0]) (wc := wY cI cJ y0 y1 y2 y3 y4 y5 y6 y7 y8 hs si ag la fo co cv ta rc ec su pe ti mn nu th) (w1 := wY cI cJ y0 y1 y2 y3 y4 y5 y6 y7 y8 hs si ag la fo co cv ta rc ec su pe ti mn nu th) (wr := []) ⟨hx, hb, hml, hown, hts⟩ (c_X1_isUser l D cI cJ y0 y1 y2 y3 y4 y5 y6 y7 y8 _ hs si ag la fo co cv ta rc ec su pe ti mn nu th a1) (cwV 1 hts gX1_setGrants_X1_isUser rfl rfl rfl (by decide +kernel) ⟨Nat.le_of_ble_eq_true rfl, Nat.le_of_ble_eq_true rfl⟩) hK hP hD hS hA [0, 1, 2, 3, 4, 5, 6, 7, 8] [] rfl rfl (by decide) (by decide) rfl rfl rfl rfl rfl hl.1 rfl (lv_room (Nat.le_of_ble_eq_true rfl)) dX1_setGrants_3 (fun H locs hP hD hS => ?_)
  have hP : va_P D vwCl (wY cI cJ y0 y1 y2 y3 y4 y5 y6 y7 y8 hs si ag la fo co cv ta rc ec su pe ti mn nu th) H := hP
  have hD : va_D A (wY cI cJ y0 y1 y2 y3 y4 y5 y6 y7 y8 hs si ag la fo co cv ta rc ec su pe ti mn nu th) := hD
  refine lv_if_ne (tgt := 13) hx hb dX1_setGrants_6 (by decide) (fun c_1 => ?_) (fun c_1 => ?_)
  · replace h := (if_neg c_1).symm.trans h
    refine lv_aload_n hx hb dX1_setGrants_13 rfl (lv_at hl 0 rfl) ?_
    refine lv_iload_n hx hb dX1_setGrants_14 rfl (lv_at hl 2 rfl) ?_
    refine lv_iconst (v := 0) hx hb dX1_setGrants_15 (by decide) ?_
    refine lv_sipush (v := 4095) hx hb dX1_setGrants_16 (by decide) ?_
    refine cl_Vi (As := [.int a2, .int 0, .int 4095]) (rest := [.ref y0]) (wc := wY cI cJ y0 y1 y2 y3 y4 y5 y6 y7 y8 hs si ag la fo co cv ta rc ec su pe ti mn nu th) (w1 := wY cI cJ y0 y1 y2 y3 y4 y5 y6 y7 y8 hs si ag la fo co cv ta rc ec su pe ti mn nu th) (wr := []) ⟨hx, hb, hml, hown, hts⟩ (c_X1_between l D cI cJ y0 y1 y2 y3 y4 y5 y6 y7 y8 _ hs si ag la fo co cv ta rc ec su pe ti mn nu th a2 0 4095) (cwV 3 hts gX1_setGrants_X1_between rfl rfl rfl (by decide +kernel) ⟨Nat.le_of_ble_eq_true rfl, Nat.le_of_ble_eq_true rfl⟩) hK hP hD hS hA [0, 1, 2, 3, 4, 5, 6, 7, 8] [] rfl rfl (by decide) (by decide) rfl rfl rfl rfl rfl hl.1 rfl (lv_room (Nat.le_of_ble_eq_true rfl)) dX1_setGrants_19 (fun H locs hP hD hS => ?_)
    have hP : va_P D vwCl (wY cI cJ y0 y1 y2 y3 y4 y5 y6 y7 y8 hs si ag la fo co cv ta rc ec su pe ti mn nu th) H := hP
    have hD : va_D A (wY cI cJ y0 y1 y2 y3 y4 y5 y6 y7 y8 hs si ag la fo co cv ta rc ec su pe ti mn nu th) := hD
    refine lv_if_eq (tgt := 29) hx hb dX1_setGrants_22 (by decide) (fun c_2 => ?_) (fun c_2 => ?_)
    · replace h := (if_pos c_2).symm.trans h
      refine lv_iconst (v := 2) hx hb dX1_setGrants_29 (by decide) ?_
      obtain ⟨r_3, th_4, e_5, h⟩ := bnd2_some h
      refine cl_Vi (As := [.int 2]) (rest := []) (wc := wY cI cJ y0 y1 y2 y3 y4 y5 y6 y7 y8 hs si ag la fo co cv ta rc ec su pe ti mn nu th) (w1 := wY cI cJ y0 y1 y2 y3 y4 y5 y6 y7 y8 hs si ag la fo co cv ta rc ec su pe ti mn nu th_4) (wr := []) ⟨hx, hb, hml, hown, hts⟩ (c_X1_holds l D cI cJ y0 y1 y2 y3 y4 y5 y6 y7 y8 _ hs si ag la fo co cv ta rc ec su pe ti mn nu th 2 r_3 th_4 e_5) (cwV 1 hts gX1_setGrants_X1_holds rfl rfl rfl (by decide +kernel) ⟨Nat.le_of_ble_eq_true rfl, Nat.le_of_ble_eq_true rfl⟩) hK hP hD hS hA [0, 1, 2, 3, 4, 5, 6, 7, 8] [] rfl rfl (by decide) (by decide) rfl rfl rfl rfl rfl hl.1 rfl (lv_room (Nat.le_of_ble_eq_true rfl)) dX1_setGrants_30 (fun H locs hP hD hS => ?_)
      have hP : va_P D vwCl (wY cI cJ y0 y1 y2 y3 y4 y5 y6 y7 y8 hs si ag la fo co cv ta rc ec su pe ti mn nu th_4) H := hP
      have hD : va_D A (wY cI cJ y0 y1 y2 y3 y4 y5 y6 y7 y8 hs si ag la fo co cv ta rc ec su pe ti mn nu th_4) := hD
      refine lv_if_eq (tgt := 38) hx hb dX1_setGrants_33 (by decide) (fun c_6 => ?_) (fun c_6 => ?_)
      · replace h := (if_pos c_6).symm.trans h
        refine lv_aload_n hx hb dX1_setGrants_38 rfl (lv_at hl 0 rfl) ?_
        refine lv_aload_n hx hb dX1_setGrants_39 rfl (lv_at hl 0 rfl) ?_
        refine va_get (D := D) (ci := 1) (v := .ref y1) (C := RX1) (T := TX1) (N := 16) hx hb hts hin hown hK hP 0 rfl rfl 0 (by decide) hw_0 (fun _ h9 => h9) rfl dX1_setGrants_40 ?_
        refine lv_iload_n hx hb dX1_setGrants_43 rfl (lv_at hl 1 rfl) ?_
        obtain ⟨h_7, h⟩ := ix_some h
        refine va_iald hx hb hK hP 1 0 rfl rfl h_7 dX1_setGrants_44 ?_
        refine lv_iload_n hx hb dX1_setGrants_45 rfl (lv_at hl 2 rfl) ?_
        refine lv_ixor hx hb dX1_setGrants_46 ?_
        obtain ⟨r_8, e_9, h⟩ := bnd1_some h
        refine cl_Vi (As := [.int ((hs (Int32.toNatClampNeg a1)) ^^^ a2)]) (rest := []) (wc := wY cI cJ y0 y1 y2 y3 y4 y5 y6 y7 y8 hs si ag la fo co cv ta rc ec su pe ti mn nu th_4) (w1 := wY cI cJ y0 y1 y2 y3 y4 y5 y6 y7 y8 hs si ag la fo co cv ta rc ec su pe ti mn nu th_4) (wr := []) ⟨hx, hb, hml, hown, hts⟩ (c_X1_size l D cI cJ y0 y1 y2 y3 y4 y5 y6 y7 y8 _ hs si ag la fo co cv ta rc ec su pe ti mn nu th_4 fu ((hs (Int32.toNatClampNeg a1)) ^^^ a2) r_8 e_9) (cwV 1 hts gX1_setGrants_X1_size rfl rfl rfl (by decide +kernel) ⟨Nat.le_of_ble_eq_true rfl, Nat.le_of_ble_eq_true rfl⟩) hK hP hD hS hA [0, 1, 2, 3, 4, 5, 6, 7, 8] [] rfl rfl (by decide) (by decide) rfl rfl rfl rfl rfl hl.1 rfl (lv_room (Nat.le_of_ble_eq_true rfl)) dX1_setGrants_47 (fun H locs hP hD hS => ?_)
        have hP : va_P D vwCl (wY cI cJ y0 y1 y2 y3 y4 y5 y6 y7 y8 hs si ag la fo co cv ta rc ec su pe ti mn nu th_4) H := hP
        have hD : va_D A (wY cI cJ y0 y1 y2 y3 y4 y5 y6 y7 y8 hs si ag la fo co cv ta rc ec su pe ti mn nu th_4) := hD
        refine lv_istore_n (lv' := [(3, .int r_8), (0, .ref y0), (1, .int a1), (2, .int a2)]) hx hb dX1_setGrants_50 rfl hl (by decide) rfl (fun ls hl => ?_)
        refine lv_iconst (v := 0) hx hb dX1_setGrants_51 (by decide) ?_
        refine lv_istore (lv' := [(4, .int 0), (3, .int r_8), (0, .ref y0), (1, .int a1), (2, .int a2)]) hx hb dX1_setGrants_52 hl (by decide) rfl (fun ls hl => ?_)
        exact L54 fu r_8 0 hs si th_4 _ _ _ h hP hD hS (lv_sub hl [2, 3, 4, 1, 0] rfl)
      · replace h := (if_neg c_6).symm.trans h
        refine lv_iconst (v := (-1)) hx hb dX1_setGrants_36 (by decide) ?_
        cases h
        exact W.iret hx hb hr (fun t ht hW => ⟨⟨_, (), rfl, rfl, by rw [ht]; exact hP, va_K.moved hW.alike hK, hD⟩, hS.F ht⟩) hS.2.2 dX1_setGrants_37
    · replace h := (if_neg c_2).symm.trans h
      refine lv_iconst (v := 0) hx hb dX1_setGrants_25 (by decide) ?_
      refine lv_goto (tgt := 30) hx hb dX1_setGrants_26 (by decide) ?_
      obtain ⟨r_10, th_11, e_12, h⟩ := bnd2_some h
      refine cl_Vi (As := [.int 0]) (rest := []) (wc := wY cI cJ y0 y1 y2 y3 y4 y5 y6 y7 y8 hs si ag la fo co cv ta rc ec su pe ti mn nu th) (w1 := wY cI cJ y0 y1 y2 y3 y4 y5 y6 y7 y8 hs si ag la fo co cv ta rc ec su pe ti mn nu th_11) (wr := []) ⟨hx, hb, hml, hown, hts⟩ (c_X1_holds l D cI cJ y0 y1 y2 y3 y4 y5 y6 y7 y8 _ hs si ag la fo co cv ta rc ec su pe ti mn nu th 0 r_10 th_11 e_12) (cwV 1 hts gX1_setGrants_X1_holds rfl rfl rfl (by decide +kernel) ⟨Nat.le_of_ble_eq_true rfl, Nat.le_of_ble_eq_true rfl⟩) hK hP hD hS hA [0, 1, 2, 3, 4, 5, 6, 7, 8] [] rfl rfl (by decide) (by decide) rfl rfl rfl rfl rfl hl.1 rfl (lv_room (Nat.le_of_ble_eq_true rfl)) dX1_setGrants_30 (fun H locs hP hD hS => ?_)
      have hP : va_P D vwCl (wY cI cJ y0 y1 y2 y3 y4 y5 y6 y7 y8 hs si ag la fo co cv ta rc ec su pe ti mn nu th_11) H := hP
      have hD : va_D A (wY cI cJ y0 y1 y2 y3 y4 y5 y6 y7 y8 hs si ag la fo co cv ta rc ec su pe ti mn nu th_11) := hD
      refine lv_if_eq (tgt := 38) hx hb dX1_setGrants_33 (by decide) (fun c_13 => ?_) (fun c_13 => ?_)
      · replace h := (if_pos c_13).symm.trans h
        refine lv_aload_n hx hb dX1_setGrants_38 rfl (lv_at hl 0 rfl) ?_
        refine lv_aload_n hx hb dX1_setGrants_39 rfl (lv_at hl 0 rfl) ?_
        refine va_get (D := D) (ci := 1) (v := .ref y1) (C := RX1) (T := TX1) (N := 16) hx hb hts hin hown hK hP 0 rfl rfl 0 (by decide) hw_0 (fun _ h9 => h9) rfl dX1_setGrants_40 ?_
        refine lv_iload_n hx hb dX1_setGrants_43 rfl (lv_at hl 1 rfl) ?_
        obtain ⟨h_14, h⟩ := ix_some h
        refine va_iald hx hb hK hP 1 0 rfl rfl h_14 dX1_setGrants_44 ?_
        refine lv_iload_n hx hb dX1_setGrants_45 rfl (lv_at hl 2 rfl) ?_
        refine lv_ixor hx hb dX1_setGrants_46 ?_
        obtain ⟨r_15, e_16, h⟩ := bnd1_some h
        refine cl_Vi (As := [.int ((hs (Int32.toNatClampNeg a1)) ^^^ a2)]) (rest := []) (wc := wY cI cJ y0 y1 y2 y3 y4 y5 y6 y7 y8 hs si ag la fo co cv ta rc ec su pe ti mn nu th_11) (w1 := wY cI cJ y0 y1 y2 y3 y4 y5 y6 y7 y8 hs si ag la fo co cv ta rc ec su pe ti mn nu th_11) (wr := []) ⟨hx, hb, hml, hown, hts⟩ (c_X1_size l D cI cJ y0 y1 y2 y3 y4 y5 y6 y7 y8 _ hs si ag la fo co cv ta rc ec su pe ti mn nu th_11 fu ((hs (Int32.toNatClampNeg a1)) ^^^ a2) r_15 e_16) (cwV 1 hts gX1_setGrants_X1_size rfl rfl rfl (by decide +kernel) ⟨Nat.le_of_ble_eq_true rfl, Nat.le_of_ble_eq_true rfl⟩) hK hP hD hS hA [0, 1, 2, 3, 4, 5, 6, 7, 8] [] rfl rfl (by decide) (by decide) rfl rfl rfl rfl rfl hl.1 rfl (lv_room (Nat.le_of_ble_eq_true rfl)) dX1_setGrants_47 (fun H locs hP hD hS => ?_)
        have hP : va_P D vwCl (wY cI cJ y0 y1 y2 y3 y4 y5 y6 y7 y8 hs si ag la fo co cv ta rc ec su pe ti mn nu th_11) H := hP
        have hD : va_D A (wY cI cJ y0 y1 y2 y3 y4 y5 y6 y7 y8 hs si ag la fo co cv ta rc ec su pe ti mn nu th_11) := hD
        refine lv_istore_n (lv' := [(3, .int r_15), (0, .ref y0), (1, .int a1), (2, .int a2)]) hx hb dX1_setGrants_50 rfl hl (by decide) rfl (fun ls hl => ?_)
        refine lv_iconst (v := 0) hx hb dX1_setGrants_51 (by decide) ?_
        refine lv_istore (lv' := [(4, .int 0), (3, .int r_15), (0, .ref y0), (1, .int a1), (2, .int a2)]) hx hb dX1_setGrants_52 hl (by decide) rfl (fun ls hl => ?_)
        exact L54 fu r_15 0 hs si th_11 _ _ _ h hP hD hS (lv_sub hl [2, 3, 4, 1, 0] rfl)
      · replace h := (if_neg c_13).symm.trans h
        refine lv_iconst (v := (-1)) hx hb dX1_setGrants_36 (by decide) ?_
        cases h
        exact W.iret hx hb hr (fun t ht hW => ⟨⟨_, (), rfl, rfl, by rw [ht]; exact hP, va_K.moved hW.alike hK, hD⟩, hS.F ht⟩) hS.2.2 dX1_setGrants_37
  · replace h := (if_pos c_1).symm.trans h
    refine lv_iconst (v := 1) hx hb dX1_setGrants_9 (by decide) ?_
    refine lv_goto (tgt := 30) hx hb dX1_setGrants_10 (by decide) ?_
    obtain ⟨r_17, th_18, e_19, h⟩ := bnd2_some h
    refine cl_Vi (As := [.int 1]) (rest := []) (wc := wY cI cJ y0 y1 y2 y3 y4 y5 y6 y7 y8 hs si ag la fo co cv ta rc ec su pe ti mn nu th) (w1 := wY cI cJ y0 y1 y2 y3 y4 y5 y6 y7 y8 hs si ag la fo co cv ta rc ec su pe ti mn nu th_18) (wr := []) ⟨hx, hb, hml, hown, hts⟩ (c_X1_holds l D cI cJ y0 y1 y2 y3 y4 y5 y6 y7 y8 _ hs si ag la fo co cv ta rc ec su pe ti mn nu th 1 r_17 th_18 e_19) (cwV 1 hts gX1_setGrants_X1_holds rfl rfl rfl (by decide +kernel) ⟨Nat.le_of_ble_eq_true rfl, Nat.le_of_ble_eq_true rfl⟩) hK hP hD hS hA [0, 1, 2, 3, 4, 5, 6, 7, 8] [] rfl rfl (by decide) (by decide) rfl rfl rfl rfl rfl hl.1 rfl (lv_room (Nat.le_of_ble_eq_true rfl)) dX1_setGrants_30 (fun H locs hP hD hS => ?_)
    have hP : va_P D vwCl (wY cI cJ y0 y1 y2 y3 y4 y5 y6 y7 y8 hs si ag la fo co cv ta rc ec su pe ti mn nu th_18) H := hP
    have hD : va_D A (wY cI cJ y0 y1 y2 y3 y4 y5 y6 y7 y8 hs si ag la fo co cv ta rc ec su pe ti mn nu th_18) := hD
    refine lv_if_eq (tgt := 38) hx hb dX1_setGrants_33 (by decide) (fun c_20 => ?_) (fun c_20 => ?_)
    · replace h := (if_pos c_20).symm.trans h
      refine lv_aload_n hx hb dX1_setGrants_38 rfl (lv_at hl 0 rfl) ?_
      refine lv_aload_n hx hb dX1_setGrants_39 rfl (lv_at hl 0 rfl) ?_
      refine va_get (D := D) (ci := 1) (v := .ref y1) (C := RX1) (T := TX1) (N := 16) hx hb hts hin hown hK hP 0 rfl rfl 0 (by decide) hw_0 (fun _ h9 => h9) rfl dX1_setGrants_40 ?_
      refine lv_iload_n hx hb dX1_setGrants_43 rfl (lv_at hl 1 rfl) ?_
      obtain ⟨h_21, h⟩ := ix_some h
      refine va_iald hx hb hK hP 1 0 rfl rfl h_21 dX1_setGrants_44 ?_
      refine lv_iload_n hx hb dX1_setGrants_45 rfl (lv_at hl 2 rfl) ?_
      refine lv_ixor hx hb dX1_setGrants_46 ?_
      obtain ⟨r_22, e_23, h⟩ := bnd1_some h
      refine cl_Vi (As := [.int ((hs (Int32.toNatClampNeg a1)) ^^^ a2)]) (rest := []) (wc := wY cI cJ y0 y1 y2 y3 y4 y5 y6 y7 y8 hs si ag la fo co cv ta rc ec su pe ti mn nu th_18) (w1 := wY cI cJ y0 y1 y2 y3 y4 y5 y6 y7 y8 hs si ag la fo co cv ta rc ec su pe ti mn nu th_18) (wr := []) ⟨hx, hb, hml, hown, hts⟩ (c_X1_size l D cI cJ y0 y1 y2 y3 y4 y5 y6 y7 y8 _ hs si ag la fo co cv ta rc ec su pe ti mn nu th_18 fu ((hs (Int32.toNatClampNeg a1)) ^^^ a2) r_22 e_23) (cwV 1 hts gX1_setGrants_X1_size rfl rfl rfl (by decide +kernel) ⟨Nat.le_of_ble_eq_true rfl, Nat.le_of_ble_eq_true rfl⟩) hK hP hD hS hA [0, 1, 2, 3, 4, 5, 6, 7, 8] [] rfl rfl (by decide) (by decide) rfl rfl rfl rfl rfl hl.1 rfl (lv_room (Nat.le_of_ble_eq_true rfl)) dX1_setGrants_47 (fun H locs hP hD hS => ?_)
      have hP : va_P D vwCl (wY cI cJ y0 y1 y2 y3 y4 y5 y6 y7 y8 hs si ag la fo co cv ta rc ec su pe ti mn nu th_18) H := hP
      have hD : va_D A (wY cI cJ y0 y1 y2 y3 y4 y5 y6 y7 y8 hs si ag la fo co cv ta rc ec su pe ti mn nu th_18) := hD
      refine lv_istore_n (lv' := [(3, .int r_22), (0, .ref y0), (1, .int a1), (2, .int a2)]) hx hb dX1_setGrants_50 rfl hl (by decide) rfl (fun ls hl => ?_)
      refine lv_iconst (v := 0) hx hb dX1_setGrants_51 (by decide) ?_
      refine lv_istore (lv' := [(4, .int 0), (3, .int r_22), (0, .ref y0), (1, .int a1), (2, .int a2)]) hx hb dX1_setGrants_52 hl (by decide) rfl (fun ls hl => ?_)
      exact L54 fu r_22 0 hs si th_18 _ _ _ h hP hD hS (lv_sub hl [2, 3, 4, 1, 0] rfl)
    · replace h := (if_neg c_20).symm.trans h
      refine lv_iconst (v := (-1)) hx hb dX1_setGrants_36 (by decide) ?_
      cases h
      exact W.iret hx hb hr (fun t ht hW => ⟨⟨_, (), rfl, rfl, by rw [ht]; exact hP, va_K.moved hW.alike hK, hD⟩, hS.F ht⟩) hS.2.2 dX1_setGrants_37
-- X1_setConflict
def m_X1_setConflict (ag : Nat → Int32) (th : Int32) (a1 : Int32) (a2 : Int32) (a3 : Int32) : Option ((Int32) × ((Nat → Int32)) × ((Int32))) := (if (m_X1_isPermission a1) = 0 then (bnd2 (m_X1_holds th 1) (fun r_2 th_3 => (if r_2 = 0 then (ix a1 12 (if (m_X1_isIn (ag (Int32.toNatClampNeg a1)) a2) = a3 then some ((m_X1_isIn (ag (Int32.toNatClampNeg a1)) a2), ag, th_3) else (ix a2 12 (some ((m_X1_isIn (ag (Int32.toNatClampNeg a1)) a2), (upd (upd ag (Int32.toNatClampNeg a1) ((ag (Int32.toNatClampNeg a1)) ^^^ (1 <<< (a2 &&& 31)))) (Int32.toNatClampNeg a2) (((upd ag (Int32.toNatClampNeg a1) ((ag (Int32.toNatClampNeg a1)) ^^^ (1 <<< (a2 &&& 31)))) (Int32.toNatClampNeg a2)) ^^^ (1 <<< (a1 &&& 31)))), th_3))))) else some (0, ag, th_3)))) else (if (m_X1_isPermission a2) = 0 then (bnd2 (m_X1_holds th 1) (fun r_25 th_26 => (if r_25 = 0 then (ix a1 12 (if (m_X1_isIn (ag (Int32.toNatClampNeg a1)) a2) = a3 then some ((m_X1_isIn (ag (Int32.toNatClampNeg a1)) a2), ag, th_26) else (ix a2 12 (some ((m_X1_isIn (ag (Int32.toNatClampNeg a1)) a2), (upd (upd ag (Int32.toNatClampNeg a1) ((ag (Int32.toNatClampNeg a1)) ^^^ (1 <<< (a2 &&& 31)))) (Int32.toNatClampNeg a2) (((upd ag (Int32.toNatClampNeg a1) ((ag (Int32.toNatClampNeg a1)) ^^^ (1 <<< (a2 &&& 31)))) (Int32.toNatClampNeg a2)) ^^^ (1 <<< (a1 &&& 31)))), th_26))))) else some (0, ag, th_26)))) else (if a1 = a2 then (bnd2 (m_X1_holds th 2) (fun r_18 th_19 => (if r_18 = 0 then (ix a1 12 (if (m_X1_isIn (ag (Int32.toNatClampNeg a1)) a2) = a3 then some ((m_X1_isIn (ag (Int32.toNatClampNeg a1)) a2), ag, th_19) else (ix a2 12 (some ((m_X1_isIn (ag (Int32.toNatClampNeg a1)) a2), (upd (upd ag (Int32.toNatClampNeg a1) ((ag (Int32.toNatClampNeg a1)) ^^^ (1 <<< (a2 &&& 31)))) (Int32.toNatClampNeg a2) (((upd ag (Int32.toNatClampNeg a1) ((ag (Int32.toNatClampNeg a1)) ^^^ (1 <<< (a2 &&& 31)))) (Int32.toNatClampNeg a2)) ^^^ (1 <<< (a1 &&& 31)))), th_19))))) else some (0, ag, th_19)))) else (bnd2 (m_X1_holds th 0) (fun r_11 th_12 => (if r_11 = 0 then (ix a1 12 (if (m_X1_isIn (ag (Int32.toNatClampNeg a1)) a2) = a3 then some ((m_X1_isIn (ag (Int32.toNatClampNeg a1)) a2), ag, th_12) else (ix a2 12 (some ((m_X1_isIn (ag (Int32.toNatClampNeg a1)) a2), (upd (upd ag (Int32.toNatClampNeg a1) ((ag (Int32.toNatClampNeg a1)) ^^^ (1 <<< (a2 &&& 31)))) (Int32.toNatClampNeg a2) (((upd ag (Int32.toNatClampNeg a1) ((ag (Int32.toNatClampNeg a1)) ^^^ (1 <<< (a2 &&& 31)))) (Int32.toNatClampNeg a2)) ^^^ (1 <<< (a1 &&& 31)))), th_12))))) else some (0, ag, th_12)))))))
set_option maxHeartbeats 4000000 in
set_option maxRecDepth 100000 in
theorem c_X1_setConflict (l : Launch) (D : va_G) (cI cJ : ClassId) (y0 y1 y2 y3 y4 y5 y6 y7 y8 : Nat) (sz : Nat) (hs : Nat → Int32) (si : Nat → Int32) (ag : Nat → Int32) (la : Nat → Int32) (fo : Nat → Int32) (co : Nat → Int32) (cv : Nat → Int32) (ta : Nat → Int32) (rc : Int32) (ec : Int32) (su : Int32) (pe : Int32) (ti : Int32) (mn : Int32) (nu : Int32) (th : Int32) (a1 : Int32) (a2 : Int32) (a3 : Int32) (r0 : Int32) (ag' : Nat → Int32) (th' : Int32) (h : m_X1_setConflict ag th a1 a2 a3 = some (r0, ag', th')) : Met l yX1_setConflict wsX1_setConflict ({ frames := 2, cells := 0, slots := 0, locals := 44 }) (va_Pc [.ref y0, .int a1, .int a2, .int a3] (bx_Pre D [(cI, .int), (cJ, .long)] (wY cI cJ y0 y1 y2 y3 y4 y5 y6 y7 y8 hs si ag la fo co cv ta rc ec su pe ti mn nu th) sz)) (va_Qi (fun (r : Int32) (_ : Unit) => r = r0) (fun (_ : Unit) t => bx_Post D [(cI, .int), (cJ, .long)] (wY cI cJ y0 y1 y2 y3 y4 y5 y6 y7 y8 hs si ag' la fo co cv ta rc ec su pe ti mn nu th') (va_A (wY cI cJ y0 y1 y2 y3 y4 y5 y6 y7 y8 hs si ag la fo co cv ta rc ec su pe ti mn nu th) sz) t) (va_A (wY cI cJ y0 y1 y2 y3 y4 y5 y6 y7 y8 hs si ag la fo co cv ta rc ec su pe ti mn nu th) sz)) 0 0 (va_A (wY cI cJ y0 y1 y2 y3 y4 y5 y6 y7 y8 hs si ag la fo co cv ta rc ec su pe ti mn nu th) sz) := by
  refine Met.ofW (cc := cX1_setConflict) (maxL := 5) (ret := (some .boolean)) (by decide) rfl ?_
  intro p e s m args below meth c s₁ B hml hv
  obtain ⟨rfl, hsz, hP, hK, hD0⟩ := hv
  have hx := B.exec
  have hb := B.bytes
  have hr := B.returns
  have hts := atoms_spec (ws := wsX1_setConflict) B.pre
  have hown : s.vm.findClass RX1 = some m.cls := findClass_of_methodNamed B.named
  have hlocks := B.notSynchronized
  subst hsz
  have hD := hD0.self (sz := s.heap.size)
  generalize hAe : va_A (wY cI cJ y0 y1 y2 y3 y4 y5 y6 y7 y8 hs si ag la fo co cv ta rc ec su pe ti mn nu th) s.heap.size = A at hD ⊢
  have hA : ∀ q : Nat, s.heap.size ≤ q → A q := fun q h9 => by rw [← hAe]; exact Or.inr h9
  have hS : va_S A s.heap s.heap [] := va_S.rf
  have hin : ∀ w ∈ wsX10, w ∈ wsX1_setConflict := fun _ h9 => List.mem_cons_of_mem _ (List.mem_append_right _ h9)
  have hw_0 := hts (.fieldLink RX1 16 "RoleMinerModel" "against" "[I") (by decide +kernel)
  have hl := lv_entry ([.ref y0, .int a1, .int a2, .int a3]) (n := 5) (Nat.le_of_ble_eq_true rfl)
  rw [lg_entry_eq]
  generalize (lg_sl ([.ref y0, .int a1, .int a2, .int a3]) ++ List.replicate (5 - (lg_sl ([.ref y0, .int a1, .int a2, .int a3])).length) Slot.unset).toArray = ls at hl ⊢
  have hl : lv_has ls 5 [(0, .ref y0), (1, .int a1), (2, .int a2), (3, .int a3)] := hl
  rw [m_X1_setConflict] at h
  refine lv_aload_n hx hb dX1_setConflict_0 rfl (lv_at hl 0 rfl) ?_
  refine lv_aload_n hx hb dX1_setConflict_1 rfl (lv_at hl 0 rfl) ?_
  refine lv_iload_n hx hb dX1_setConflict_2 rfl (lv_at hl 1 rfl) ?_
  refine cl_Vi (As := [.int a1]) (rest := [.ref y0]) (wc := wY cI cJ y0 y1 y2 y3 y4 y5 y6 y7 y8 hs si ag la fo co cv ta rc ec su pe ti mn nu th) (w1 := wY cI cJ y0 y1 y2 y3 y4 y5 y6 y7 y8 hs si ag la fo co cv ta rc ec su pe ti mn nu th) (wr := []) ⟨hx, hb, hml, hown, hts⟩ (c_X1_isPermission l D cI cJ y0 y1 y2 y3 y4 y5 y6 y7 y8 _ hs si ag la fo co cv ta rc ec su pe ti mn nu th a1) (cwV 1 hts gX1_setConflict_X1_isPermission rfl rfl rfl (by decide +kernel) ⟨Nat.le_of_ble_eq_true rfl, Nat.le_of_ble_eq_true rfl⟩) hK hP hD hS hA [0, 1, 2, 3, 4, 5, 6, 7, 8] [] rfl rfl (by decide) (by decide) rfl rfl rfl rfl rfl hl.1 rfl (lv_room (Nat.le_of_ble_eq_true rfl)) dX1_setConflict_3 (fun H locs hP hD hS => ?_)
  have hP : va_P D vwCl (wY cI cJ y0 y1 y2 y3 y4 y5 y6 y7 y8 hs si ag la fo co cv ta rc ec su pe ti mn nu th) H := hP
  have hD : va_D A (wY cI cJ y0 y1 y2 y3 y4 y5 y6 y7 y8 hs si ag la fo co cv ta rc ec su pe ti mn nu th) := hD
  refine lv_if_eq (tgt := 17) hx hb dX1_setConflict_6 (by decide) (fun c_1 => ?_) (fun c_1 => ?_)
  · replace h := (if_pos c_1).symm.trans h
    refine lv_iconst (v := 1) hx hb dX1_setConflict_17 (by decide) ?_
    refine lv_goto (tgt := 31) hx hb dX1_setConflict_18 (by decide) ?_
    obtain ⟨r_2, th_3, e_4, h⟩ := bnd2_some h
    refine cl_Vi (As := [.int 1]) (rest := []) (wc := wY cI cJ y0 y1 y2 y3 y4 y5 y6 y7 y8 hs si ag la fo co cv ta rc ec su pe ti mn nu th) (w1 := wY cI cJ y0 y1 y2 y3 y4 y5 y6 y7 y8 hs si ag la fo co cv ta rc ec su pe ti mn nu th_3) (wr := []) ⟨hx, hb, hml, hown, hts⟩ (c_X1_holds l D cI cJ y0 y1 y2 y3 y4 y5 y6 y7 y8 _ hs si ag la fo co cv ta rc ec su pe ti mn nu th 1 r_2 th_3 e_4) (cwV 1 hts gX1_setConflict_X1_holds rfl rfl rfl (by decide +kernel) ⟨Nat.le_of_ble_eq_true rfl, Nat.le_of_ble_eq_true rfl⟩) hK hP hD hS hA [0, 1, 2, 3, 4, 5, 6, 7, 8] [] rfl rfl (by decide) (by decide) rfl rfl rfl rfl rfl hl.1 rfl (lv_room (Nat.le_of_ble_eq_true rfl)) dX1_setConflict_31 (fun H locs hP hD hS => ?_)
    have hP : va_P D vwCl (wY cI cJ y0 y1 y2 y3 y4 y5 y6 y7 y8 hs si ag la fo co cv ta rc ec su pe ti mn nu th_3) H := hP
    have hD : va_D A (wY cI cJ y0 y1 y2 y3 y4 y5 y6 y7 y8 hs si ag la fo co cv ta rc ec su pe ti mn nu th_3) := hD
    refine lv_if_eq (tgt := 39) hx hb dX1_setConflict_34 (by decide) (fun c_5 => ?_) (fun c_5 => ?_)
    · replace h := (if_pos c_5).symm.trans h
      refine lv_aload_n hx hb dX1_setConflict_39 rfl (lv_at hl 0 rfl) ?_
      refine lv_aload_n hx hb dX1_setConflict_40 rfl (lv_at hl 0 rfl) ?_
      refine va_get (D := D) (ci := 1) (v := .ref y3) (C := RX1) (T := TX1) (N := 16) hx hb hts hin hown hK hP 0 rfl rfl 2 (by decide) hw_0 (fun _ h9 => h9) rfl dX1_setConflict_41 ?_
      refine lv_iload_n hx hb dX1_setConflict_44 rfl (lv_at hl 1 rfl) ?_
      obtain ⟨h_6, h⟩ := ix_some h
      refine va_iald hx hb hK hP 3 0 rfl rfl h_6 dX1_setConflict_45 ?_
      refine lv_iload_n hx hb dX1_setConflict_46 rfl (lv_at hl 2 rfl) ?_
      refine cl_Vi (As := [.int (ag (Int32.toNatClampNeg a1)), .int a2]) (rest := []) (wc := wY cI cJ y0 y1 y2 y3 y4 y5 y6 y7 y8 hs si ag la fo co cv ta rc ec su pe ti mn nu th_3) (w1 := wY cI cJ y0 y1 y2 y3 y4 y5 y6 y7 y8 hs si ag la fo co cv ta rc ec su pe ti mn nu th_3) (wr := []) ⟨hx, hb, hml, hown, hts⟩ (c_X1_isIn l D cI cJ y0 y1 y2 y3 y4 y5 y6 y7 y8 _ hs si ag la fo co cv ta rc ec su pe ti mn nu th_3 (ag (Int32.toNatClampNeg a1)) a2) (cwV 2 hts gX1_setConflict_X1_isIn rfl rfl rfl (by decide +kernel) ⟨Nat.le_of_ble_eq_true rfl, Nat.le_of_ble_eq_true rfl⟩) hK hP hD hS hA [0, 1, 2, 3, 4, 5, 6, 7, 8] [] rfl rfl (by decide) (by decide) rfl rfl rfl rfl rfl hl.1 rfl (lv_room (Nat.le_of_ble_eq_true rfl)) dX1_setConflict_47 (fun H locs hP hD hS => ?_)
      have hP : va_P D vwCl (wY cI cJ y0 y1 y2 y3 y4 y5 y6 y7 y8 hs si ag la fo co cv ta rc ec su pe ti mn nu th_3) H := hP
      have hD : va_D A (wY cI cJ y0 y1 y2 y3 y4 y5 y6 y7 y8 hs si ag la fo co cv ta rc ec su pe ti mn nu th_3) := hD
      refine lv_istore (lv' := [(4, .int (m_X1_isIn (ag (Int32.toNatClampNeg a1)) a2)), (0, .ref y0), (1, .int a1), (2, .int a2), (3, .int a3)]) hx hb dX1_setConflict_50 hl (by decide) rfl (fun ls hl => ?_)
      refine lv_iload hx hb dX1_setConflict_52 (lv_at hl 0 rfl) ?_
      refine lv_iload_n hx hb dX1_setConflict_54 rfl (lv_at hl 4 rfl) ?_
      refine lv_icmp_eq (tgt := 82) hx hb dX1_setConflict_55 (by decide) (fun c_7 => ?_) (fun c_7 => ?_)
      · replace h := (if_pos c_7).symm.trans h
        refine lv_iload hx hb dX1_setConflict_82 (lv_at hl 0 rfl) ?_
        cases h
        exact W.zret hx hb hr (nb_X1_isIn ..) (fun t ht hW => ⟨⟨_, (), rfl, rfl, by rw [ht]; exact hP, va_K.moved hW.alike hK, hD⟩, hS.F ht⟩) hS.2.2 dX1_setConflict_84
      · replace h := (if_neg c_7).symm.trans h
        refine lv_aload_n hx hb dX1_setConflict_58 rfl (lv_at hl 1 rfl) ?_
        refine va_get (D := D) (ci := 1) (v := .ref y3) (C := RX1) (T := TX1) (N := 16) hx hb hts hin hown hK hP 0 rfl rfl 2 (by decide) hw_0 (fun _ h9 => h9) rfl dX1_setConflict_59 ?_
        refine lv_iload_n hx hb dX1_setConflict_62 rfl (lv_at hl 2 rfl) ?_
        refine lv_dup2_11 hx hb dX1_setConflict_63 rfl rfl ?_
        refine va_iald hx hb hK hP 3 0 rfl rfl h_6 dX1_setConflict_64 ?_
        refine lv_iconst (v := 1) hx hb dX1_setConflict_65 (by decide) ?_
        refine lv_iload_n hx hb dX1_setConflict_66 rfl (lv_at hl 3 rfl) ?_
        refine lv_ishl hx hb dX1_setConflict_67 ?_
        refine lv_ixor hx hb dX1_setConflict_68 ?_
        refine va_iast hx hb hK hP hD hS 3 0 rfl rfl h_6 dX1_setConflict_69 (fun H locs hP hD hS => ?_)
        have hP : va_P D vwCl (wY cI cJ y0 y1 y2 y3 y4 y5 y6 y7 y8 hs si (upd ag (Int32.toNatClampNeg a1) ((ag (Int32.toNatClampNeg a1)) ^^^ (1 <<< (a2 &&& 31)))) la fo co cv ta rc ec su pe ti mn nu th_3) H := hP
        have hD : va_D A (wY cI cJ y0 y1 y2 y3 y4 y5 y6 y7 y8 hs si (upd ag (Int32.toNatClampNeg a1) ((ag (Int32.toNatClampNeg a1)) ^^^ (1 <<< (a2 &&& 31)))) la fo co cv ta rc ec su pe ti mn nu th_3) := hD
        refine lv_aload_n hx hb dX1_setConflict_70 rfl (lv_at hl 1 rfl) ?_
        refine va_get (D := D) (ci := 1) (v := .ref y3) (C := RX1) (T := TX1) (N := 16) hx hb hts hin hown hK hP 0 rfl rfl 2 (by decide) hw_0 (fun _ h9 => h9) rfl dX1_setConflict_71 ?_
        refine lv_iload_n hx hb dX1_setConflict_74 rfl (lv_at hl 3 rfl) ?_
        refine lv_dup2_11 hx hb dX1_setConflict_75 rfl rfl ?_
        obtain ⟨h_8, h⟩ := ix_some h
        refine va_iald hx hb hK hP 3 0 rfl rfl h_8 dX1_setConflict_76 ?_
        refine lv_iconst (v := 1) hx hb dX1_setConflict_77 (by decide) ?_
        refine lv_iload_n hx hb dX1_setConflict_78 rfl (lv_at hl 2 rfl) ?_
        refine lv_ishl hx hb dX1_setConflict_79 ?_
        refine lv_ixor hx hb dX1_setConflict_80 ?_
        refine va_iast hx hb hK hP hD hS 3 0 rfl rfl h_8 dX1_setConflict_81 (fun H locs hP hD hS => ?_)
        have hP : va_P D vwCl (wY cI cJ y0 y1 y2 y3 y4 y5 y6 y7 y8 hs si (upd (upd ag (Int32.toNatClampNeg a1) ((ag (Int32.toNatClampNeg a1)) ^^^ (1 <<< (a2 &&& 31)))) (Int32.toNatClampNeg a2) (((upd ag (Int32.toNatClampNeg a1) ((ag (Int32.toNatClampNeg a1)) ^^^ (1 <<< (a2 &&& 31)))) (Int32.toNatClampNeg a2)) ^^^ (1 <<< (a1 &&& 31)))) la fo co cv ta rc ec su pe ti mn nu th_3) H := hP
        have hD : va_D A (wY cI cJ y0 y1 y2 y3 y4 y5 y6 y7 y8 hs si (upd (upd ag (Int32.toNatClampNeg a1) ((ag (Int32.toNatClampNeg a1)) ^^^ (1 <<< (a2 &&& 31)))) (Int32.toNatClampNeg a2) (((upd ag (Int32.toNatClampNeg a1) ((ag (Int32.toNatClampNeg a1)) ^^^ (1 <<< (a2 &&& 31)))) (Int32.toNatClampNeg a2)) ^^^ (1 <<< (a1 &&& 31)))) la fo co cv ta rc ec su pe ti mn nu th_3) := hD
        refine lv_iload hx hb dX1_setConflict_82 (lv_at hl 0 rfl) ?_
        cases h
        exact W.zret hx hb hr (nb_X1_isIn ..) (fun t ht hW => ⟨⟨_, (), rfl, rfl, by rw [ht]; exact hP, va_K.moved hW.alike hK, hD⟩, hS.F ht⟩) hS.2.2 dX1_setConflict_84
    · replace h := (if_neg c_5).symm.trans h
      refine lv_iconst (v := 0) hx hb dX1_setConflict_37 (by decide) ?_
      cases h
      exact W.zret hx hb hr rfl (fun t ht hW => ⟨⟨_, (), rfl, rfl, by rw [ht]; exact hP, va_K.moved hW.alike hK, hD⟩, hS.F ht⟩) hS.2.2 dX1_setConflict_38
  · replace h := (if_neg c_1).symm.trans h
    refine lv_aload_n hx hb dX1_setConflict_9 rfl (lv_at hl 0 rfl) ?_
    refine lv_iload_n hx hb dX1_setConflict_10 rfl (lv_at hl 2 rfl) ?_
    refine cl_Vi (As := [.int a2]) (rest := [.ref y0]) (wc := wY cI cJ y0 y1 y2 y3 y4 y5 y6 y7 y8 hs si ag la fo co cv ta rc ec su pe ti mn nu th) (w1 := wY cI cJ y0 y1 y2 y3 y4 y5 y6 y7 y8 hs si ag la fo co cv ta rc ec su pe ti mn nu th) (wr := []) ⟨hx, hb, hml, hown, hts⟩ (c_X1_isPermission l D cI cJ y0 y1 y2 y3 y4 y5 y6 y7 y8 _ hs si ag la fo co cv ta rc ec su pe ti mn nu th a2) (cwV 1 hts gX1_setConflict_X1_isPermission rfl rfl rfl (by decide +kernel) ⟨Nat.le_of_ble_eq_true rfl, Nat.le_of_ble_eq_true rfl⟩) hK hP hD hS hA [0, 1, 2, 3, 4, 5, 6, 7, 8] [] rfl rfl (by decide) (by decide) rfl rfl rfl rfl rfl hl.1 rfl (lv_room (Nat.le_of_ble_eq_true rfl)) dX1_setConflict_11 (fun H locs hP hD hS => ?_)
    have hP : va_P D vwCl (wY cI cJ y0 y1 y2 y3 y4 y5 y6 y7 y8 hs si ag la fo co cv ta rc ec su pe ti mn nu th) H := hP
    have hD : va_D A (wY cI cJ y0 y1 y2 y3 y4 y5 y6 y7 y8 hs si ag la fo co cv ta rc ec su pe ti mn nu th) := hD
    refine lv_if_ne (tgt := 21) hx hb dX1_setConflict_14 (by decide) (fun c_9 => ?_) (fun c_9 => ?_)
    · replace h := (if_neg c_9).symm.trans h
      refine lv_iload_n hx hb dX1_setConflict_21 rfl (lv_at hl 1 rfl) ?_
      refine lv_iload_n hx hb dX1_setConflict_22 rfl (lv_at hl 2 rfl) ?_
      refine lv_icmp_ne (tgt := 30) hx hb dX1_setConflict_23 (by decide) (fun c_10 => ?_) (fun c_10 => ?_)
      · replace h := (if_neg c_10).symm.trans h
        refine lv_iconst (v := 0) hx hb dX1_setConflict_30 (by decide) ?_
        obtain ⟨r_11, th_12, e_13, h⟩ := bnd2_some h
        refine cl_Vi (As := [.int 0]) (rest := []) (wc := wY cI cJ y0 y1 y2 y3 y4 y5 y6 y7 y8 hs si ag la fo co cv ta rc ec su pe ti mn nu th) (w1 := wY cI cJ y0 y1 y2 y3 y4 y5 y6 y7 y8 hs si ag la fo co cv ta rc ec su pe ti mn nu th_12) (wr := []) ⟨hx, hb, hml, hown, hts⟩ (c_X1_holds l D cI cJ y0 y1 y2 y3 y4 y5 y6 y7 y8 _ hs si ag la fo co cv ta rc ec su pe ti mn nu th 0 r_11 th_12 e_13) (cwV 1 hts gX1_setConflict_X1_holds rfl rfl rfl (by decide +kernel) ⟨Nat.le_of_ble_eq_true rfl, Nat.le_of_ble_eq_true rfl⟩) hK hP hD hS hA [0, 1, 2, 3, 4, 5, 6, 7, 8] [] rfl rfl (by decide) (by decide) rfl rfl rfl rfl rfl hl.1 rfl (lv_room (Nat.le_of_ble_eq_true rfl)) dX1_setConflict_31 (fun H locs hP hD hS => ?_)
        have hP : va_P D vwCl (wY cI cJ y0 y1 y2 y3 y4 y5 y6 y7 y8 hs si ag la fo co cv ta rc ec su pe ti mn nu th_12) H := hP
        have hD : va_D A (wY cI cJ y0 y1 y2 y3 y4 y5 y6 y7 y8 hs si ag la fo co cv ta rc ec su pe ti mn nu th_12) := hD
        refine lv_if_eq (tgt := 39) hx hb dX1_setConflict_34 (by decide) (fun c_14 => ?_) (fun c_14 => ?_)
        · replace h := (if_pos c_14).symm.trans h
          refine lv_aload_n hx hb dX1_setConflict_39 rfl (lv_at hl 0 rfl) ?_
          refine lv_aload_n hx hb dX1_setConflict_40 rfl (lv_at hl 0 rfl) ?_
          refine va_get (D := D) (ci := 1) (v := .ref y3) (C := RX1) (T := TX1) (N := 16) hx hb hts hin hown hK hP 0 rfl rfl 2 (by decide) hw_0 (fun _ h9 => h9) rfl dX1_setConflict_41 ?_
          refine lv_iload_n hx hb dX1_setConflict_44 rfl (lv_at hl 1 rfl) ?_
          obtain ⟨h_15, h⟩ := ix_some h
          refine va_iald hx hb hK hP 3 0 rfl rfl h_15 dX1_setConflict_45 ?_
          refine lv_iload_n hx hb dX1_setConflict_46 rfl (lv_at hl 2 rfl) ?_
          refine cl_Vi (As := [.int (ag (Int32.toNatClampNeg a1)), .int a2]) (rest := []) (wc := wY cI cJ y0 y1 y2 y3 y4 y5 y6 y7 y8 hs si ag la fo co cv ta rc ec su pe ti mn nu th_12) (w1 := wY cI cJ y0 y1 y2 y3 y4 y5 y6 y7 y8 hs si ag la fo co cv ta rc ec su pe ti mn nu th_12) (wr := []) ⟨hx, hb, hml, hown, hts⟩ (c_X1_isIn l D cI cJ y0 y1 y2 y3 y4 y5 y6 y7 y8 _ hs si ag la fo co cv ta rc ec su pe ti mn nu th_12 (ag (Int32.toNatClampNeg a1)) a2) (cwV 2 hts gX1_setConflict_X1_isIn rfl rfl rfl (by decide +kernel) ⟨Nat.le_of_ble_eq_true rfl, Nat.le_of_ble_eq_true rfl⟩) hK hP hD hS hA [0, 1, 2, 3, 4, 5, 6, 7, 8] [] rfl rfl (by decide) (by decide) rfl rfl rfl rfl rfl hl.1 rfl (lv_room (Nat.le_of_ble_eq_true rfl)) dX1_setConflict_47 (fun H locs hP hD hS => ?_)
          have hP : va_P D vwCl (wY cI cJ y0 y1 y2 y3 y4 y5 y6 y7 y8 hs si ag la fo co cv ta rc ec su pe ti mn nu th_12) H := hP
          have hD : va_D A (wY cI cJ y0 y1 y2 y3 y4 y5 y6 y7 y8 hs si ag la fo co cv ta rc ec su pe ti mn nu th_12) := hD
          refine lv_istore (lv' := [(4, .int (m_X1_isIn (ag (Int32.toNatClampNeg a1)) a2)), (0, .ref y0), (1, .int a1), (2, .int a2), (3, .int a3)]) hx hb dX1_setConflict_50 hl (by decide) rfl (fun ls hl => ?_)
          refine lv_iload hx hb dX1_setConflict_52 (lv_at hl 0 rfl) ?_
          refine lv_iload_n hx hb dX1_setConflict_54 rfl (lv_at hl 4 rfl) ?_
          refine lv_icmp_eq (tgt := 82) hx hb dX1_setConflict_55 (by decide) (fun c_16 => ?_) (fun c_16 => ?_)
          · replace h := (if_pos c_16).symm.trans h
            refine lv_iload hx hb dX1_setConflict_82 (lv_at hl 0 rfl) ?_
            cases h
            exact W.zret hx hb hr (nb_X1_isIn ..) (fun t ht hW => ⟨⟨_, (), rfl, rfl, by rw [ht]; exact hP, va_K.moved hW.alike hK, hD⟩, hS.F ht⟩) hS.2.2 dX1_setConflict_84
          · replace h := (if_neg c_16).symm.trans h
            refine lv_aload_n hx hb dX1_setConflict_58 rfl (lv_at hl 1 rfl) ?_
            refine va_get (D := D) (ci := 1) (v := .ref y3) (C := RX1) (T := TX1) (N := 16) hx hb hts hin hown hK hP 0 rfl rfl 2 (by decide) hw_0 (fun _ h9 => h9) rfl dX1_setConflict_59 ?_
            refine lv_iload_n hx hb dX1_setConflict_62 rfl (lv_at hl 2 rfl) ?_
            refine lv_dup2_11 hx hb dX1_setConflict_63 rfl rfl ?_
            refine va_iald hx hb hK hP 3 0 rfl rfl h_15 dX1_setConflict_64 ?_
            refine lv_iconst (v := 1) hx hb dX1_setConflict_65 (by decide) ?_
            refine lv_iload_n hx hb dX1_setConflict_66 rfl (lv_at hl 3 rfl) ?_
            refine lv_ishl hx hb dX1_setConflict_67 ?_
            refine lv_ixor hx hb dX1_setConflict_68 ?_
            refine va_iast hx hb hK hP hD hS 3 0 rfl rfl h_15 dX1_setConflict_69 (fun H locs hP hD hS => ?_)
            have hP : va_P D vwCl (wY cI cJ y0 y1 y2 y3 y4 y5 y6 y7 y8 hs si (upd ag (Int32.toNatClampNeg a1) ((ag (Int32.toNatClampNeg a1)) ^^^ (1 <<< (a2 &&& 31)))) la fo co cv ta rc ec su pe ti mn nu th_12) H := hP
            have hD : va_D A (wY cI cJ y0 y1 y2 y3 y4 y5 y6 y7 y8 hs si (upd ag (Int32.toNatClampNeg a1) ((ag (Int32.toNatClampNeg a1)) ^^^ (1 <<< (a2 &&& 31)))) la fo co cv ta rc ec su pe ti mn nu th_12) := hD
            refine lv_aload_n hx hb dX1_setConflict_70 rfl (lv_at hl 1 rfl) ?_
            refine va_get (D := D) (ci := 1) (v := .ref y3) (C := RX1) (T := TX1) (N := 16) hx hb hts hin hown hK hP 0 rfl rfl 2 (by decide) hw_0 (fun _ h9 => h9) rfl dX1_setConflict_71 ?_
            refine lv_iload_n hx hb dX1_setConflict_74 rfl (lv_at hl 3 rfl) ?_
            refine lv_dup2_11 hx hb dX1_setConflict_75 rfl rfl ?_
            obtain ⟨h_17, h⟩ := ix_some h
            refine va_iald hx hb hK hP 3 0 rfl rfl h_17 dX1_setConflict_76 ?_
            refine lv_iconst (v := 1) hx hb dX1_setConflict_77 (by decide) ?_
            refine lv_iload_n hx hb dX1_setConflict_78 rfl (lv_at hl 2 rfl) ?_
            refine lv_ishl hx hb dX1_setConflict_79 ?_
            refine lv_ixor hx hb dX1_setConflict_80 ?_
            refine va_iast hx hb hK hP hD hS 3 0 rfl rfl h_17 dX1_setConflict_81 (fun H locs hP hD hS => ?_)
            have hP : va_P D vwCl (wY cI cJ y0 y1 y2 y3 y4 y5 y6 y7 y8 hs si (upd (upd ag (Int32.toNatClampNeg a1) ((ag (Int32.toNatClampNeg a1)) ^^^ (1 <<< (a2 &&& 31)))) (Int32.toNatClampNeg a2) (((upd ag (Int32.toNatClampNeg a1) ((ag (Int32.toNatClampNeg a1)) ^^^ (1 <<< (a2 &&& 31)))) (Int32.toNatClampNeg a2)) ^^^ (1 <<< (a1 &&& 31)))) la fo co cv ta rc ec su pe ti mn nu th_12) H := hP
            have hD : va_D A (wY cI cJ y0 y1 y2 y3 y4 y5 y6 y7 y8 hs si (upd (upd ag (Int32.toNatClampNeg a1) ((ag (Int32.toNatClampNeg a1)) ^^^ (1 <<< (a2 &&& 31)))) (Int32.toNatClampNeg a2) (((upd ag (Int32.toNatClampNeg a1) ((ag (Int32.toNatClampNeg a1)) ^^^ (1 <<< (a2 &&& 31)))) (Int32.toNatClampNeg a2)) ^^^ (1 <<< (a1 &&& 31)))) la fo co cv ta rc ec su pe ti mn nu th_12) := hD
            refine lv_iload hx hb dX1_setConflict_82 (lv_at hl 0 rfl) ?_
            cases h
            exact W.zret hx hb hr (nb_X1_isIn ..) (fun t ht hW => ⟨⟨_, (), rfl, rfl, by rw [ht]; exact hP, va_K.moved hW.alike hK, hD⟩, hS.F ht⟩) hS.2.2 dX1_setConflict_84
        · replace h := (if_neg c_14).symm.trans h
          refine lv_iconst (v := 0) hx hb dX1_setConflict_37 (by decide) ?_
          cases h
          exact W.zret hx hb hr rfl (fun t ht hW => ⟨⟨_, (), rfl, rfl, by rw [ht]; exact hP, va_K.moved hW.alike hK, hD⟩, hS.F ht⟩) hS.2.2 dX1_setConflict_38
      · replace h := (if_pos c_10).symm.trans h
        refine lv_iconst (v := 2) hx hb dX1_setConflict_26 (by decide) ?_
        refine lv_goto (tgt := 31) hx hb dX1_setConflict_27 (by decide) ?_
        obtain ⟨r_18, th_19, e_20, h⟩ := bnd2_some h
        refine cl_Vi (As := [.int 2]) (rest := []) (wc := wY cI cJ y0 y1 y2 y3 y4 y5 y6 y7 y8 hs si ag la fo co cv ta rc ec su pe ti mn nu th) (w1 := wY cI cJ y0 y1 y2 y3 y4 y5 y6 y7 y8 hs si ag la fo co cv ta rc ec su pe ti mn nu th_19) (wr := []) ⟨hx, hb, hml, hown, hts⟩ (c_X1_holds l D cI cJ y0 y1 y2 y3 y4 y5 y6 y7 y8 _ hs si ag la fo co cv ta rc ec su pe ti mn nu th 2 r_18 th_19 e_20) (cwV 1 hts gX1_setConflict_X1_holds rfl rfl rfl (by decide +kernel) ⟨Nat.le_of_ble_eq_true rfl, Nat.le_of_ble_eq_true rfl⟩) hK hP hD hS hA [0, 1, 2, 3, 4, 5, 6, 7, 8] [] rfl rfl (by decide) (by decide) rfl rfl rfl rfl rfl hl.1 rfl (lv_room (Nat.le_of_ble_eq_true rfl)) dX1_setConflict_31 (fun H locs hP hD hS => ?_)
        have hP : va_P D vwCl (wY cI cJ y0 y1 y2 y3 y4 y5 y6 y7 y8 hs si ag la fo co cv ta rc ec su pe ti mn nu th_19) H := hP
        have hD : va_D A (wY cI cJ y0 y1 y2 y3 y4 y5 y6 y7 y8 hs si ag la fo co cv ta rc ec su pe ti mn nu th_19) := hD
        refine lv_if_eq (tgt := 39) hx hb dX1_setConflict_34 (by decide) (fun c_21 => ?_) (fun c_21 => ?_)
        · replace h := (if_pos c_21).symm.trans h
          refine lv_aload_n hx hb dX1_setConflict_39 rfl (lv_at hl 0 rfl) ?_
          refine lv_aload_n hx hb dX1_setConflict_40 rfl (lv_at hl 0 rfl) ?_
          refine va_get (D := D) (ci := 1) (v := .ref y3) (C := RX1) (T := TX1) (N := 16) hx hb hts hin hown hK hP 0 rfl rfl 2 (by decide) hw_0 (fun _ h9 => h9) rfl dX1_setConflict_41 ?_
          refine lv_iload_n hx hb dX1_setConflict_44 rfl (lv_at hl 1 rfl) ?_
          obtain ⟨h_22, h⟩ := ix_some h
          refine va_iald hx hb hK hP 3 0 rfl rfl h_22 dX1_setConflict_45 ?_
          refine lv_iload_n hx hb dX1_setConflict_46 rfl (lv_at hl 2 rfl) ?_
          refine cl_Vi (As := [.int (ag (Int32.toNatClampNeg a1)), .int a2]) (rest := []) (wc := wY cI cJ y0 y1 y2 y3 y4 y5 y6 y7 y8 hs si ag la fo co cv ta rc ec su pe ti mn nu th_19) (w1 := wY cI cJ y0 y1 y2 y3 y4 y5 y6 y7 y8 hs si ag la fo co cv ta rc ec su pe ti mn nu th_19) (wr := []) ⟨hx, hb, hml, hown, hts⟩ (c_X1_isIn l D cI cJ y0 y1 y2 y3 y4 y5 y6 y7 y8 _ hs si ag la fo co cv ta rc ec su pe ti mn nu th_19 (ag (Int32.toNatClampNeg a1)) a2) (cwV 2 hts gX1_setConflict_X1_isIn rfl rfl rfl (by decide +kernel) ⟨Nat.le_of_ble_eq_true rfl, Nat.le_of_ble_eq_true rfl⟩) hK hP hD hS hA [0, 1, 2, 3, 4, 5, 6, 7, 8] [] rfl rfl (by decide) (by decide) rfl rfl rfl rfl rfl hl.1 rfl (lv_room (Nat.le_of_ble_eq_true rfl)) dX1_setConflict_47 (fun H locs hP hD hS => ?_)
          have hP : va_P D vwCl (wY cI cJ y0 y1 y2 y3 y4 y5 y6 y7 y8 hs si ag la fo co cv ta rc ec su pe ti mn nu th_19) H := hP
          have hD : va_D A (wY cI cJ y0 y1 y2 y3 y4 y5 y6 y7 y8 hs si ag la fo co cv ta rc ec su pe ti mn nu th_19) := hD
          refine lv_istore (lv' := [(4, .int (m_X1_isIn (ag (Int32.toNatClampNeg a1)) a2)), (0, .ref y0), (1, .int a1), (2, .int a2), (3, .int a3)]) hx hb dX1_setConflict_50 hl (by decide) rfl (fun ls hl => ?_)
          refine lv_iload hx hb dX1_setConflict_52 (lv_at hl 0 rfl) ?_
          refine lv_iload_n hx hb dX1_setConflict_54 rfl (lv_at hl 4 rfl) ?_
          refine lv_icmp_eq (tgt := 82) hx hb dX1_setConflict_55 (by decide) (fun c_23 => ?_) (fun c_23 => ?_)
          · replace h := (if_pos c_23).symm.trans h
            refine lv_iload hx hb dX1_setConflict_82 (lv_at hl 0 rfl) ?_
            cases h
            exact W.zret hx hb hr (nb_X1_isIn ..) (fun t ht hW => ⟨⟨_, (), rfl, rfl, by rw [ht]; exact hP, va_K.moved hW.alike hK, hD⟩, hS.F ht⟩) hS.2.2 dX1_setConflict_84
          · replace h := (if_neg c_23).symm.trans h
            refine lv_aload_n hx hb dX1_setConflict_58 rfl (lv_at hl 1 rfl) ?_
            refine va_get (D := D) (ci := 1) (v := .ref y3) (C := RX1) (T := TX1) (N := 16) hx hb hts hin hown hK hP 0 rfl rfl 2 (by decide) hw_0 (fun _ h9 => h9) rfl dX1_setConflict_59 ?_
            refine lv_iload_n hx hb dX1_setConflict_62 rfl (lv_at hl 2 rfl) ?_
            refine lv_dup2_11 hx hb dX1_setConflict_63 rfl rfl ?_
            refine va_iald hx hb hK hP 3 0 rfl rfl h_22 dX1_setConflict_64 ?_
            refine lv_iconst (v := 1) hx hb dX1_setConflict_65 (by decide) ?_
            refine lv_iload_n hx hb dX1_setConflict_66 rfl (lv_at hl 3 rfl) ?_
            refine lv_ishl hx hb dX1_setConflict_67 ?_
            refine lv_ixor hx hb dX1_setConflict_68 ?_
            refine va_iast hx hb hK hP hD hS 3 0 rfl rfl h_22 dX1_setConflict_69 (fun H locs hP hD hS => ?_)
            have hP : va_P D vwCl (wY cI cJ y0 y1 y2 y3 y4 y5 y6 y7 y8 hs si (upd ag (Int32.toNatClampNeg a1) ((ag (Int32.toNatClampNeg a1)) ^^^ (1 <<< (a2 &&& 31)))) la fo co cv ta rc ec su pe ti mn nu th_19) H := hP
            have hD : va_D A (wY cI cJ y0 y1 y2 y3 y4 y5 y6 y7 y8 hs si (upd ag (Int32.toNatClampNeg a1) ((ag (Int32.toNatClampNeg a1)) ^^^ (1 <<< (a2 &&& 31)))) la fo co cv ta rc ec su pe ti mn nu th_19) := hD
            refine lv_aload_n hx hb dX1_setConflict_70 rfl (lv_at hl 1 rfl) ?_
            refine va_get (D := D) (ci := 1) (v := .ref y3) (C := RX1) (T := TX1) (N := 16) hx hb hts hin hown hK hP 0 rfl rfl 2 (by decide) hw_0 (fun _ h9 => h9) rfl dX1_setConflict_71 ?_
            refine lv_iload_n hx hb dX1_setConflict_74 rfl (lv_at hl 3 rfl) ?_
            refine lv_dup2_11 hx hb dX1_setConflict_75 rfl rfl ?_
            obtain ⟨h_24, h⟩ := ix_some h
            refine va_iald hx hb hK hP 3 0 rfl rfl h_24 dX1_setConflict_76 ?_
            refine lv_iconst (v := 1) hx hb dX1_setConflict_77 (by decide) ?_
            refine lv_iload_n hx hb dX1_setConflict_78 rfl (lv_at hl 2 rfl) ?_
            refine lv_ishl hx hb dX1_setConflict_79 ?_
            refine lv_ixor hx hb dX1_setConflict_80 ?_
            refine va_iast hx hb hK hP hD hS 3 0 rfl rfl h_24 dX1_setConflict_81 (fun H locs hP hD hS => ?_)
            have hP : va_P D vwCl (wY cI cJ y0 y1 y2 y3 y4 y5 y6 y7 y8 hs si (upd (upd ag (Int32.toNatClampNeg a1) ((ag (Int32.toNatClampNeg a1)) ^^^ (1 <<< (a2 &&& 31)))) (Int32.toNatClampNeg a2) (((upd ag (Int32.toNatClampNeg a1) ((ag (Int32.toNatClampNeg a1)) ^^^ (1 <<< (a2 &&& 31)))) (Int32.toNatClampNeg a2)) ^^^ (1 <<< (a1 &&& 31)))) la fo co cv ta rc ec su pe ti mn nu th_19) H := hP
            have hD : va_D A (wY cI cJ y0 y1 y2 y3 y4 y5 y6 y7 y8 hs si (upd (upd ag (Int32.toNatClampNeg a1) ((ag (Int32.toNatClampNeg a1)) ^^^ (1 <<< (a2 &&& 31)))) (Int32.toNatClampNeg a2) (((upd ag (Int32.toNatClampNeg a1) ((ag (Int32.toNatClampNeg a1)) ^^^ (1 <<< (a2 &&& 31)))) (Int32.toNatClampNeg a2)) ^^^ (1 <<< (a1 &&& 31)))) la fo co cv ta rc ec su pe ti mn nu th_19) := hD
            refine lv_iload hx hb dX1_setConflict_82 (lv_at hl 0 rfl) ?_
            cases h
            exact W.zret hx hb hr (nb_X1_isIn ..) (fun t ht hW => ⟨⟨_, (), rfl, rfl, by rw [ht]; exact hP, va_K.moved hW.alike hK, hD⟩, hS.F ht⟩) hS.2.2 dX1_setConflict_84
        · replace h := (if_neg c_21).symm.trans h
          refine lv_iconst (v := 0) hx hb dX1_setConflict_37 (by decide) ?_
          cases h
          exact W.zret hx hb hr rfl (fun t ht hW => ⟨⟨_, (), rfl, rfl, by rw [ht]; exact hP, va_K.moved hW.alike hK, hD⟩, hS.F ht⟩) hS.2.2 dX1_setConflict_38
    · replace h := (if_pos c_9).symm.trans h
      refine lv_iconst (v := 1) hx hb dX1_setConflict_17 (by decide) ?_
      refine lv_goto (tgt := 31) hx hb dX1_setConflict_18 (by decide) ?_
      obtain ⟨r_25, th_26, e_27, h⟩ := bnd2_some h
      refine cl_Vi (As := [.int 1]) (rest := []) (wc := wY cI cJ y0 y1 y2 y3 y4 y5 y6 y7 y8 hs si ag la fo co cv ta rc ec su pe ti mn nu th) (w1 := wY cI cJ y0 y1 y2 y3 y4 y5 y6 y7 y8 hs si ag la fo co cv ta rc ec su pe ti mn nu th_26) (wr := []) ⟨hx, hb, hml, hown, hts⟩ (c_X1_holds l D cI cJ y0 y1 y2 y3 y4 y5 y6 y7 y8 _ hs si ag la fo co cv ta rc ec su pe ti mn nu th 1 r_25 th_26 e_27) (cwV 1 hts gX1_setConflict_X1_holds rfl rfl rfl (by decide +kernel) ⟨Nat.le_of_ble_eq_true rfl, Nat.le_of_ble_eq_true rfl⟩) hK hP hD hS hA [0, 1, 2, 3, 4, 5, 6, 7, 8] [] rfl rfl (by decide) (by decide) rfl rfl rfl rfl rfl hl.1 rfl (lv_room (Nat.le_of_ble_eq_true rfl)) dX1_setConflict_31 (fun H locs hP hD hS => ?_)
      have hP : va_P D vwCl (wY cI cJ y0 y1 y2 y3 y4 y5 y6 y7 y8 hs si ag la fo co cv ta rc ec su pe ti mn nu th_26) H := hP
      have hD : va_D A (wY cI cJ y0 y1 y2 y3 y4 y5 y6 y7 y8 hs si ag la fo co cv ta rc ec su pe ti mn nu th_26) := hD
      refine lv_if_eq (tgt := 39) hx hb dX1_setConflict_34 (by decide) (fun c_28 => ?_) (fun c_28 => ?_)
      · replace h := (if_pos c_28).symm.trans h
        refine lv_aload_n hx hb dX1_setConflict_39 rfl (lv_at hl 0 rfl) ?_
        refine lv_aload_n hx hb dX1_setConflict_40 rfl (lv_at hl 0 rfl) ?_
        refine va_get (D := D) (ci := 1) (v := .ref y3) (C := RX1) (T := TX1) (N := 16) hx hb hts hin hown hK hP 0 rfl rfl 2 (by decide) hw_0 (fun _ h9 => h9) rfl dX1_setConflict_41 ?_
        refine lv_iload_n hx hb dX1_setConflict_44 rfl (lv_at hl 1 rfl) ?_
        obtain ⟨h_29, h⟩ := ix_some h
        refine va_iald hx hb hK hP 3 0 rfl rfl h_29 dX1_setConflict_45 ?_
        refine lv_iload_n hx hb dX1_setConflict_46 rfl (lv_at hl 2 rfl) ?_
        refine cl_Vi (As := [.int (ag (Int32.toNatClampNeg a1)), .int a2]) (rest := []) (wc := wY cI cJ y0 y1 y2 y3 y4 y5 y6 y7 y8 hs si ag la fo co cv ta rc ec su pe ti mn nu th_26) (w1 := wY cI cJ y0 y1 y2 y3 y4 y5 y6 y7 y8 hs si ag la fo co cv ta rc ec su pe ti mn nu th_26) (wr := []) ⟨hx, hb, hml, hown, hts⟩ (c_X1_isIn l D cI cJ y0 y1 y2 y3 y4 y5 y6 y7 y8 _ hs si ag la fo co cv ta rc ec su pe ti mn nu th_26 (ag (Int32.toNatClampNeg a1)) a2) (cwV 2 hts gX1_setConflict_X1_isIn rfl rfl rfl (by decide +kernel) ⟨Nat.le_of_ble_eq_true rfl, Nat.le_of_ble_eq_true rfl⟩) hK hP hD hS hA [0, 1, 2, 3, 4, 5, 6, 7, 8] [] rfl rfl (by decide) (by decide) rfl rfl rfl rfl rfl hl.1 rfl (lv_room (Nat.le_of_ble_eq_true rfl)) dX1_setConflict_47 (fun H locs hP hD hS => ?_)
        have hP : va_P D vwCl (wY cI cJ y0 y1 y2 y3 y4 y5 y6 y7 y8 hs si ag la fo co cv ta rc ec su pe ti mn nu th_26) H := hP
        have hD : va_D A (wY cI cJ y0 y1 y2 y3 y4 y5 y6 y7 y8 hs si ag la fo co cv ta rc ec su pe ti mn nu th_26) := hD
        refine lv_istore (lv' := [(4, .int (m_X1_isIn (ag (Int32.toNatClampNeg a1)) a2)), (0, .ref y0), (1, .int a1), (2, .int a2), (3, .int a3)]) hx hb dX1_setConflict_50 hl (by decide) rfl (fun ls hl => ?_)
        refine lv_iload hx hb dX1_setConflict_52 (lv_at hl 0 rfl) ?_
        refine lv_iload_n hx hb dX1_setConflict_54 rfl (lv_at hl 4 rfl) ?_
        refine lv_icmp_eq (tgt := 82) hx hb dX1_setConflict_55 (by decide) (fun c_30 => ?_) (fun c_30 => ?_)
        · replace h := (if_pos c_30).symm.trans h
          refine lv_iload hx hb dX1_setConflict_82 (lv_at hl 0 rfl) ?_
          cases h
          exact W.zret hx hb hr (nb_X1_isIn ..) (fun t ht hW => ⟨⟨_, (), rfl, rfl, by rw [ht]; exact hP, va_K.moved hW.alike hK, hD⟩, hS.F ht⟩) hS.2.2 dX1_setConflict_84
        · replace h := (if_neg c_30).symm.trans h
          refine lv_aload_n hx hb dX1_setConflict_58 rfl (lv_at hl 1 rfl) ?_
          refine va_get (D := D) (ci := 1) (v := .ref y3) (C := RX1) (T := TX1) (N := 16) hx hb hts hin hown hK hP 0 rfl rfl 2 (by decide) hw_0 (fun _ h9 => h9) rfl dX1_setConflict_59 ?_
          refine lv_iload_n hx hb dX1_setConflict_62 rfl (lv_at hl 2 rfl) ?_
          refine lv_dup2_11 hx hb dX1_setConflict_63 rfl rfl ?_
          refine va_iald hx hb hK hP 3 0 rfl rfl h_29 dX1_setConflict_64 ?_
          refine lv_iconst (v := 1) hx hb dX1_setConflict_65 (by decide) ?_
          refine lv_iload_n hx hb dX1_setConflict_66 rfl (lv_at hl 3 rfl) ?_
          refine lv_ishl hx hb dX1_setConflict_67 ?_
          refine lv_ixor hx hb dX1_setConflict_68 ?_
          refine va_iast hx hb hK hP hD hS 3 0 rfl rfl h_29 dX1_setConflict_69 (fun H locs hP hD hS => ?_)
          have hP : va_P D vwCl (wY cI cJ y0 y1 y2 y3 y4 y5 y6 y7 y8 hs si (upd ag (Int32.toNatClampNeg a1) ((ag (Int32.toNatClampNeg a1)) ^^^ (1 <<< (a2 &&& 31)))) la fo co cv ta rc ec su pe ti mn nu th_26) H := hP
          have hD : va_D A (wY cI cJ y0 y1 y2 y3 y4 y5 y6 y7 y8 hs si (upd ag (Int32.toNatClampNeg a1) ((ag (Int32.toNatClampNeg a1)) ^^^ (1 <<< (a2 &&& 31)))) la fo co cv ta rc ec su pe ti mn nu th_26) := hD
          refine lv_aload_n hx hb dX1_setConflict_70 rfl (lv_at hl 1 rfl) ?_
          refine va_get (D := D) (ci := 1) (v := .ref y3) (C := RX1) (T := TX1) (N := 16) hx hb hts hin hown hK hP 0 rfl rfl 2 (by decide) hw_0 (fun _ h9 => h9) rfl dX1_setConflict_71 ?_
          refine lv_iload_n hx hb dX1_setConflict_74 rfl (lv_at hl 3 rfl) ?_
          refine lv_dup2_11 hx hb dX1_setConflict_75 rfl rfl ?_
          obtain ⟨h_31, h⟩ := ix_some h
          refine va_iald hx hb hK hP 3 0 rfl rfl h_31 dX1_setConflict_76 ?_
          refine lv_iconst (v := 1) hx hb dX1_setConflict_77 (by decide) ?_
          refine lv_iload_n hx hb dX1_setConflict_78 rfl (lv_at hl 2 rfl) ?_
          refine lv_ishl hx hb dX1_setConflict_79 ?_
          refine lv_ixor hx hb dX1_setConflict_80 ?_
          refine va_iast hx hb hK hP hD hS 3 0 rfl rfl h_31 dX1_setConflict_81 (fun H locs hP hD hS => ?_)
          have hP : va_P D vwCl (wY cI cJ y0 y1 y2 y3 y4 y5 y6 y7 y8 hs si (upd (upd ag (Int32.toNatClampNeg a1) ((ag (Int32.toNatClampNeg a1)) ^^^ (1 <<< (a2 &&& 31)))) (Int32.toNatClampNeg a2) (((upd ag (Int32.toNatClampNeg a1) ((ag (Int32.toNatClampNeg a1)) ^^^ (1 <<< (a2 &&& 31)))) (Int32.toNatClampNeg a2)) ^^^ (1 <<< (a1 &&& 31)))) la fo co cv ta rc ec su pe ti mn nu th_26) H := hP
          have hD : va_D A (wY cI cJ y0 y1 y2 y3 y4 y5 y6 y7 y8 hs si (upd (upd ag (Int32.toNatClampNeg a1) ((ag (Int32.toNatClampNeg a1)) ^^^ (1 <<< (a2 &&& 31)))) (Int32.toNatClampNeg a2) (((upd ag (Int32.toNatClampNeg a1) ((ag (Int32.toNatClampNeg a1)) ^^^ (1 <<< (a2 &&& 31)))) (Int32.toNatClampNeg a2)) ^^^ (1 <<< (a1 &&& 31)))) la fo co cv ta rc ec su pe ti mn nu th_26) := hD
          refine lv_iload hx hb dX1_setConflict_82 (lv_at hl 0 rfl) ?_
          cases h
          exact W.zret hx hb hr (nb_X1_isIn ..) (fun t ht hW => ⟨⟨_, (), rfl, rfl, by rw [ht]; exact hP, va_K.moved hW.alike hK, hD⟩, hS.F ht⟩) hS.2.2 dX1_setConflict_84
      · replace h := (if_neg c_28).symm.trans h
        refine lv_iconst (v := 0) hx hb dX1_setConflict_37 (by decide) ?_
        cases h
        exact W.zret hx hb hr rfl (fun t ht hW => ⟨⟨_, (), rfl, rfl, by rw [ht]; exact hP, va_K.moved hW.alike hK, hD⟩, hS.F ht⟩) hS.2.2 dX1_setConflict_38
-- X1_setCosts
def m_X1_setCosts (rc : Int32) (ec : Int32) (th : Int32) (a1 : Int32) (a2 : Int32) : Option (((Int32)) × ((Int32)) × ((Int32))) := (if (m_X1_between a1 0 100) = 0 then (bnd2 (m_X1_holds th 1) (fun r_2 th_3 => (if r_2 = 0 then some (a1, a2, th_3) else some (rc, ec, th_3)))) else (if (m_X1_between a2 0 100) = 0 then (bnd2 (m_X1_holds th 1) (fun r_7 th_8 => (if r_7 = 0 then some (a1, a2, th_8) else some (rc, ec, th_8)))) else (bnd2 (m_X1_holds th 0) (fun r_11 th_12 => (if r_11 = 0 then some (a1, a2, th_12) else some (rc, ec, th_12))))))
set_option maxHeartbeats 4000000 in
set_option maxRecDepth 100000 in
theorem c_X1_setCosts (l : Launch) (D : va_G) (cI cJ : ClassId) (y0 y1 y2 y3 y4 y5 y6 y7 y8 : Nat) (sz : Nat) (hs : Nat → Int32) (si : Nat → Int32) (ag : Nat → Int32) (la : Nat → Int32) (fo : Nat → Int32) (co : Nat → Int32) (cv : Nat → Int32) (ta : Nat → Int32) (rc : Int32) (ec : Int32) (su : Int32) (pe : Int32) (ti : Int32) (mn : Int32) (nu : Int32) (th : Int32) (a1 : Int32) (a2 : Int32) (rc' : Int32) (ec' : Int32) (th' : Int32) (h : m_X1_setCosts rc ec th a1 a2 = some (rc', ec', th')) : Met l yX1_setCosts wsX1_setCosts ({ frames := 1, cells := 0, slots := 0, locals := 23 }) (va_Pc [.ref y0, .int a1, .int a2] (bx_Pre D [(cI, .int), (cJ, .long)] (wY cI cJ y0 y1 y2 y3 y4 y5 y6 y7 y8 hs si ag la fo co cv ta rc ec su pe ti mn nu th) sz)) (va_Qv (fun (_ : Unit) => True) (fun (_ : Unit) t => bx_Post D [(cI, .int), (cJ, .long)] (wY cI cJ y0 y1 y2 y3 y4 y5 y6 y7 y8 hs si ag la fo co cv ta rc' ec' su pe ti mn nu th') (va_A (wY cI cJ y0 y1 y2 y3 y4 y5 y6 y7 y8 hs si ag la fo co cv ta rc ec su pe ti mn nu th) sz) t) (va_A (wY cI cJ y0 y1 y2 y3 y4 y5 y6 y7 y8 hs si ag la fo co cv ta rc ec su pe ti mn nu th) sz)) 0 0 (va_A (wY cI cJ y0 y1 y2 y3 y4 y5 y6 y7 y8 hs si ag la fo co cv ta rc ec su pe ti mn nu th) sz) := by
  refine Met.ofW (cc := cX1_setCosts) (maxL := 3) (ret := none) (by decide) rfl ?_
  intro p e s m args below meth c s₁ B hml hv
  obtain ⟨rfl, hsz, hP, hK, hD0⟩ := hv
  have hx := B.exec
  have hb := B.bytes
  have hr := B.returns
  have hts := atoms_spec (ws := wsX1_setCosts) B.pre
  have hown : s.vm.findClass RX1 = some m.cls := findClass_of_methodNamed B.named
  have hlocks := B.notSynchronized
  subst hsz
  have hD := hD0.self (sz := s.heap.size)
  generalize hAe : va_A (wY cI cJ y0 y1 y2 y3 y4 y5 y6 y7 y8 hs si ag la fo co cv ta rc ec su pe ti mn nu th) s.heap.size = A at hD ⊢
  have hA : ∀ q : Nat, s.heap.size ≤ q → A q := fun q h9 => by rw [← hAe]; exact Or.inr h9
  have hS : va_S A s.heap s.heap [] := va_S.rf
  have hin : ∀ w ∈ wsX10, w ∈ wsX1_setCosts := fun _ h9 => List.mem_cons_of_mem _ (List.mem_append_right _ h9)
  have hw_0 := hts (.fieldLink RX1 34 "RoleMinerModel" "roleCost" "I") (by decide +kernel)
  have hw_1 := hts (.fieldLink RX1 38 "RoleMinerModel" "exceptionCost" "I") (by decide +kernel)
  have hl := lv_entry ([.ref y0, .int a1, .int a2]) (n := 3) (Nat.le_of_ble_eq_true rfl)
  rw [lg_entry_eq]
  generalize (lg_sl ([.ref y0, .int a1, .int a2]) ++ List.replicate (3 - (lg_sl ([.ref y0, .int a1, .int a2])).length) Slot.unset).toArray = ls at hl ⊢
  have hl : lv_has ls 3 [(0, .ref y0), (1, .int a1), (2, .int a2)] := hl
  rw [m_X1_setCosts] at h
  refine lv_aload_n hx hb dX1_setCosts_0 rfl (lv_at hl 0 rfl) ?_
  refine lv_aload_n hx hb dX1_setCosts_1 rfl (lv_at hl 0 rfl) ?_
  refine lv_iload_n hx hb dX1_setCosts_2 rfl (lv_at hl 1 rfl) ?_
  refine lv_iconst (v := 0) hx hb dX1_setCosts_3 (by decide) ?_
  refine lv_bipush (v := 100) hx hb dX1_setCosts_4 (by decide) ?_
  refine cl_Vi (As := [.int a1, .int 0, .int 100]) (rest := [.ref y0]) (wc := wY cI cJ y0 y1 y2 y3 y4 y5 y6 y7 y8 hs si ag la fo co cv ta rc ec su pe ti mn nu th) (w1 := wY cI cJ y0 y1 y2 y3 y4 y5 y6 y7 y8 hs si ag la fo co cv ta rc ec su pe ti mn nu th) (wr := []) ⟨hx, hb, hml, hown, hts⟩ (c_X1_between l D cI cJ y0 y1 y2 y3 y4 y5 y6 y7 y8 _ hs si ag la fo co cv ta rc ec su pe ti mn nu th a1 0 100) (cwV 3 hts gX1_setCosts_X1_between rfl rfl rfl (by decide +kernel) ⟨Nat.le_of_ble_eq_true rfl, Nat.le_of_ble_eq_true rfl⟩) hK hP hD hS hA [0, 1, 2, 3, 4, 5, 6, 7, 8] [] rfl rfl (by decide) (by decide) rfl rfl rfl rfl rfl hl.1 rfl (lv_room (Nat.le_of_ble_eq_true rfl)) dX1_setCosts_6 (fun H locs hP hD hS => ?_)
  have hP : va_P D vwCl (wY cI cJ y0 y1 y2 y3 y4 y5 y6 y7 y8 hs si ag la fo co cv ta rc ec su pe ti mn nu th) H := hP
  have hD : va_D A (wY cI cJ y0 y1 y2 y3 y4 y5 y6 y7 y8 hs si ag la fo co cv ta rc ec su pe ti mn nu th) := hD
  refine lv_if_eq (tgt := 27) hx hb dX1_setCosts_9 (by decide) (fun c_1 => ?_) (fun c_1 => ?_)
  · replace h := (if_pos c_1).symm.trans h
    refine lv_iconst (v := 1) hx hb dX1_setCosts_27 (by decide) ?_
    obtain ⟨r_2, th_3, e_4, h⟩ := bnd2_some h
    refine cl_Vi (As := [.int 1]) (rest := []) (wc := wY cI cJ y0 y1 y2 y3 y4 y5 y6 y7 y8 hs si ag la fo co cv ta rc ec su pe ti mn nu th) (w1 := wY cI cJ y0 y1 y2 y3 y4 y5 y6 y7 y8 hs si ag la fo co cv ta rc ec su pe ti mn nu th_3) (wr := []) ⟨hx, hb, hml, hown, hts⟩ (c_X1_holds l D cI cJ y0 y1 y2 y3 y4 y5 y6 y7 y8 _ hs si ag la fo co cv ta rc ec su pe ti mn nu th 1 r_2 th_3 e_4) (cwV 1 hts gX1_setCosts_X1_holds rfl rfl rfl (by decide +kernel) ⟨Nat.le_of_ble_eq_true rfl, Nat.le_of_ble_eq_true rfl⟩) hK hP hD hS hA [0, 1, 2, 3, 4, 5, 6, 7, 8] [] rfl rfl (by decide) (by decide) rfl rfl rfl rfl rfl hl.1 rfl (lv_room (Nat.le_of_ble_eq_true rfl)) dX1_setCosts_28 (fun H locs hP hD hS => ?_)
    have hP : va_P D vwCl (wY cI cJ y0 y1 y2 y3 y4 y5 y6 y7 y8 hs si ag la fo co cv ta rc ec su pe ti mn nu th_3) H := hP
    have hD : va_D A (wY cI cJ y0 y1 y2 y3 y4 y5 y6 y7 y8 hs si ag la fo co cv ta rc ec su pe ti mn nu th_3) := hD
    refine lv_if_ne (tgt := 44) hx hb dX1_setCosts_31 (by decide) (fun c_5 => ?_) (fun c_5 => ?_)
    · replace h := (if_neg c_5).symm.trans h
      cases h
      exact W.vret hx hb hr (fun t ht hW => ⟨⟨(), rfl, trivial, by rw [ht]; exact hP, va_K.moved hW.alike hK, hD⟩, hS.F ht⟩) hS.2.2 dX1_setCosts_44
    · replace h := (if_pos c_5).symm.trans h
      refine lv_aload_n hx hb dX1_setCosts_34 rfl (lv_at hl 0 rfl) ?_
      refine lv_iload_n hx hb dX1_setCosts_35 rfl (lv_at hl 1 rfl) ?_
      refine va_put (D := D) (ci := 1) (v := .int a1) (ty := .int) (C := RX1) (T := TX1) (N := 16) hx hb hts hin tyX1 tyX1_ok nmX1 hown hK hP hD hS 0 rfl rfl 8 (by decide) hw_0 (fun _ h9 => h9) rfl (by decide +kernel) rfl rfl (Nat.le_of_ble_eq_true rfl) dX1_setCosts_36 (fun H locs hP hD hS => ?_)
      have hP : va_P D vwCl (wY cI cJ y0 y1 y2 y3 y4 y5 y6 y7 y8 hs si ag la fo co cv ta a1 ec su pe ti mn nu th_3) H := hP
      have hD : va_D A (wY cI cJ y0 y1 y2 y3 y4 y5 y6 y7 y8 hs si ag la fo co cv ta a1 ec su pe ti mn nu th_3) := hD
      refine lv_aload_n hx hb dX1_setCosts_39 rfl (lv_at hl 0 rfl) ?_
      refine lv_iload_n hx hb dX1_setCosts_40 rfl (lv_at hl 2 rfl) ?_
      refine va_put (D := D) (ci := 1) (v := .int a2) (ty := .int) (C := RX1) (T := TX1) (N := 16) hx hb hts hin tyX1 tyX1_ok nmX1 hown hK hP hD hS 0 rfl rfl 9 (by decide) hw_1 (fun _ h9 => h9) rfl (by decide +kernel) rfl rfl (Nat.le_of_ble_eq_true rfl) dX1_setCosts_41 (fun H locs hP hD hS => ?_)
      have hP : va_P D vwCl (wY cI cJ y0 y1 y2 y3 y4 y5 y6 y7 y8 hs si ag la fo co cv ta a1 a2 su pe ti mn nu th_3) H := hP
      have hD : va_D A (wY cI cJ y0 y1 y2 y3 y4 y5 y6 y7 y8 hs si ag la fo co cv ta a1 a2 su pe ti mn nu th_3) := hD
      cases h
      exact W.vret hx hb hr (fun t ht hW => ⟨⟨(), rfl, trivial, by rw [ht]; exact hP, va_K.moved hW.alike hK, hD⟩, hS.F ht⟩) hS.2.2 dX1_setCosts_44
  · replace h := (if_neg c_1).symm.trans h
    refine lv_aload_n hx hb dX1_setCosts_12 rfl (lv_at hl 0 rfl) ?_
    refine lv_iload_n hx hb dX1_setCosts_13 rfl (lv_at hl 2 rfl) ?_
    refine lv_iconst (v := 0) hx hb dX1_setCosts_14 (by decide) ?_
    refine lv_bipush (v := 100) hx hb dX1_setCosts_15 (by decide) ?_
    refine cl_Vi (As := [.int a2, .int 0, .int 100]) (rest := [.ref y0]) (wc := wY cI cJ y0 y1 y2 y3 y4 y5 y6 y7 y8 hs si ag la fo co cv ta rc ec su pe ti mn nu th) (w1 := wY cI cJ y0 y1 y2 y3 y4 y5 y6 y7 y8 hs si ag la fo co cv ta rc ec su pe ti mn nu th) (wr := []) ⟨hx, hb, hml, hown, hts⟩ (c_X1_between l D cI cJ y0 y1 y2 y3 y4 y5 y6 y7 y8 _ hs si ag la fo co cv ta rc ec su pe ti mn nu th a2 0 100) (cwV 3 hts gX1_setCosts_X1_between rfl rfl rfl (by decide +kernel) ⟨Nat.le_of_ble_eq_true rfl, Nat.le_of_ble_eq_true rfl⟩) hK hP hD hS hA [0, 1, 2, 3, 4, 5, 6, 7, 8] [] rfl rfl (by decide) (by decide) rfl rfl rfl rfl rfl hl.1 rfl (lv_room (Nat.le_of_ble_eq_true rfl)) dX1_setCosts_17 (fun H locs hP hD hS => ?_)
    have hP : va_P D vwCl (wY cI cJ y0 y1 y2 y3 y4 y5 y6 y7 y8 hs si ag la fo co cv ta rc ec su pe ti mn nu th) H := hP
    have hD : va_D A (wY cI cJ y0 y1 y2 y3 y4 y5 y6 y7 y8 hs si ag la fo co cv ta rc ec su pe ti mn nu th) := hD
    refine lv_if_eq (tgt := 27) hx hb dX1_setCosts_20 (by decide) (fun c_6 => ?_) (fun c_6 => ?_)
    · replace h := (if_pos c_6).symm.trans h
      refine lv_iconst (v := 1) hx hb dX1_setCosts_27 (by decide) ?_
      obtain ⟨r_7, th_8, e_9, h⟩ := bnd2_some h
      refine cl_Vi (As := [.int 1]) (rest := []) (wc := wY cI cJ y0 y1 y2 y3 y4 y5 y6 y7 y8 hs si ag la fo co cv ta rc ec su pe ti mn nu th) (w1 := wY cI cJ y0 y1 y2 y3 y4 y5 y6 y7 y8 hs si ag la fo co cv ta rc ec su pe ti mn nu th_8) (wr := []) ⟨hx, hb, hml, hown, hts⟩ (c_X1_holds l D cI cJ y0 y1 y2 y3 y4 y5 y6 y7 y8 _ hs si ag la fo co cv ta rc ec su pe ti mn nu th 1 r_7 th_8 e_9) (cwV 1 hts gX1_setCosts_X1_holds rfl rfl rfl (by decide +kernel) ⟨Nat.le_of_ble_eq_true rfl, Nat.le_of_ble_eq_true rfl⟩) hK hP hD hS hA [0, 1, 2, 3, 4, 5, 6, 7, 8] [] rfl rfl (by decide) (by decide) rfl rfl rfl rfl rfl hl.1 rfl (lv_room (Nat.le_of_ble_eq_true rfl)) dX1_setCosts_28 (fun H locs hP hD hS => ?_)
      have hP : va_P D vwCl (wY cI cJ y0 y1 y2 y3 y4 y5 y6 y7 y8 hs si ag la fo co cv ta rc ec su pe ti mn nu th_8) H := hP
      have hD : va_D A (wY cI cJ y0 y1 y2 y3 y4 y5 y6 y7 y8 hs si ag la fo co cv ta rc ec su pe ti mn nu th_8) := hD
      refine lv_if_ne (tgt := 44) hx hb dX1_setCosts_31 (by decide) (fun c_10 => ?_) (fun c_10 => ?_)
      · replace h := (if_neg c_10).symm.trans h
        cases h
        exact W.vret hx hb hr (fun t ht hW => ⟨⟨(), rfl, trivial, by rw [ht]; exact hP, va_K.moved hW.alike hK, hD⟩, hS.F ht⟩) hS.2.2 dX1_setCosts_44
      · replace h := (if_pos c_10).symm.trans h
        refine lv_aload_n hx hb dX1_setCosts_34 rfl (lv_at hl 0 rfl) ?_
        refine lv_iload_n hx hb dX1_setCosts_35 rfl (lv_at hl 1 rfl) ?_
        refine va_put (D := D) (ci := 1) (v := .int a1) (ty := .int) (C := RX1) (T := TX1) (N := 16) hx hb hts hin tyX1 tyX1_ok nmX1 hown hK hP hD hS 0 rfl rfl 8 (by decide) hw_0 (fun _ h9 => h9) rfl (by decide +kernel) rfl rfl (Nat.le_of_ble_eq_true rfl) dX1_setCosts_36 (fun H locs hP hD hS => ?_)
        have hP : va_P D vwCl (wY cI cJ y0 y1 y2 y3 y4 y5 y6 y7 y8 hs si ag la fo co cv ta a1 ec su pe ti mn nu th_8) H := hP
        have hD : va_D A (wY cI cJ y0 y1 y2 y3 y4 y5 y6 y7 y8 hs si ag la fo co cv ta a1 ec su pe ti mn nu th_8) := hD
        refine lv_aload_n hx hb dX1_setCosts_39 rfl (lv_at hl 0 rfl) ?_
        refine lv_iload_n hx hb dX1_setCosts_40 rfl (lv_at hl 2 rfl) ?_
        refine va_put (D := D) (ci := 1) (v := .int a2) (ty := .int) (C := RX1) (T := TX1) (N := 16) hx hb hts hin tyX1 tyX1_ok nmX1 hown hK hP hD hS 0 rfl rfl 9 (by decide) hw_1 (fun _ h9 => h9) rfl (by decide +kernel) rfl rfl (Nat.le_of_ble_eq_true rfl) dX1_setCosts_41 (fun H locs hP hD hS => ?_)
        have hP : va_P D vwCl (wY cI cJ y0 y1 y2 y3 y4 y5 y6 y7 y8 hs si ag la fo co cv ta a1 a2 su pe ti mn nu th_8) H := hP
        have hD : va_D A (wY cI cJ y0 y1 y2 y3 y4 y5 y6 y7 y8 hs si ag la fo co cv ta a1 a2 su pe ti mn nu th_8) := hD
        cases h
        exact W.vret hx hb hr (fun t ht hW => ⟨⟨(), rfl, trivial, by rw [ht]; exact hP, va_K.moved hW.alike hK, hD⟩, hS.F ht⟩) hS.2.2 dX1_setCosts_44
    · replace h := (if_neg c_6).symm.trans h
      refine lv_iconst (v := 0) hx hb dX1_setCosts_23 (by decide) ?_
      refine lv_goto (tgt := 28) hx hb dX1_setCosts_24 (by decide) ?_
      obtain ⟨r_11, th_12, e_13, h⟩ := bnd2_some h
      refine cl_Vi (As := [.int 0]) (rest := []) (wc := wY cI cJ y0 y1 y2 y3 y4 y5 y6 y7 y8 hs si ag la fo co cv ta rc ec su pe ti mn nu th) (w1 := wY cI cJ y0 y1 y2 y3 y4 y5 y6 y7 y8 hs si ag la fo co cv ta rc ec su pe ti mn nu th_12) (wr := []) ⟨hx, hb, hml, hown, hts⟩ (c_X1_holds l D cI cJ y0 y1 y2 y3 y4 y5 y6 y7 y8 _ hs si ag la fo co cv ta rc ec su pe ti mn nu th 0 r_11 th_12 e_13) (cwV 1 hts gX1_setCosts_X1_holds rfl rfl rfl (by decide +kernel) ⟨Nat.le_of_ble_eq_true rfl, Nat.le_of_ble_eq_true rfl⟩) hK hP hD hS hA [0, 1, 2, 3, 4, 5, 6, 7, 8] [] rfl rfl (by decide) (by decide) rfl rfl rfl rfl rfl hl.1 rfl (lv_room (Nat.le_of_ble_eq_true rfl)) dX1_setCosts_28 (fun H locs hP hD hS => ?_)
      have hP : va_P D vwCl (wY cI cJ y0 y1 y2 y3 y4 y5 y6 y7 y8 hs si ag la fo co cv ta rc ec su pe ti mn nu th_12) H := hP
      have hD : va_D A (wY cI cJ y0 y1 y2 y3 y4 y5 y6 y7 y8 hs si ag la fo co cv ta rc ec su pe ti mn nu th_12) := hD
      refine lv_if_ne (tgt := 44) hx hb dX1_setCosts_31 (by decide) (fun c_14 => ?_) (fun c_14 => ?_)
      · replace h := (if_neg c_14).symm.trans h
        cases h
        exact W.vret hx hb hr (fun t ht hW => ⟨⟨(), rfl, trivial, by rw [ht]; exact hP, va_K.moved hW.alike hK, hD⟩, hS.F ht⟩) hS.2.2 dX1_setCosts_44
      · replace h := (if_pos c_14).symm.trans h
        refine lv_aload_n hx hb dX1_setCosts_34 rfl (lv_at hl 0 rfl) ?_
        refine lv_iload_n hx hb dX1_setCosts_35 rfl (lv_at hl 1 rfl) ?_
        refine va_put (D := D) (ci := 1) (v := .int a1) (ty := .int) (C := RX1) (T := TX1) (N := 16) hx hb hts hin tyX1 tyX1_ok nmX1 hown hK hP hD hS 0 rfl rfl 8 (by decide) hw_0 (fun _ h9 => h9) rfl (by decide +kernel) rfl rfl (Nat.le_of_ble_eq_true rfl) dX1_setCosts_36 (fun H locs hP hD hS => ?_)
        have hP : va_P D vwCl (wY cI cJ y0 y1 y2 y3 y4 y5 y6 y7 y8 hs si ag la fo co cv ta a1 ec su pe ti mn nu th_12) H := hP
        have hD : va_D A (wY cI cJ y0 y1 y2 y3 y4 y5 y6 y7 y8 hs si ag la fo co cv ta a1 ec su pe ti mn nu th_12) := hD
        refine lv_aload_n hx hb dX1_setCosts_39 rfl (lv_at hl 0 rfl) ?_
        refine lv_iload_n hx hb dX1_setCosts_40 rfl (lv_at hl 2 rfl) ?_
        refine va_put (D := D) (ci := 1) (v := .int a2) (ty := .int) (C := RX1) (T := TX1) (N := 16) hx hb hts hin tyX1 tyX1_ok nmX1 hown hK hP hD hS 0 rfl rfl 9 (by decide) hw_1 (fun _ h9 => h9) rfl (by decide +kernel) rfl rfl (Nat.le_of_ble_eq_true rfl) dX1_setCosts_41 (fun H locs hP hD hS => ?_)
        have hP : va_P D vwCl (wY cI cJ y0 y1 y2 y3 y4 y5 y6 y7 y8 hs si ag la fo co cv ta a1 a2 su pe ti mn nu th_12) H := hP
        have hD : va_D A (wY cI cJ y0 y1 y2 y3 y4 y5 y6 y7 y8 hs si ag la fo co cv ta a1 a2 su pe ti mn nu th_12) := hD
        cases h
        exact W.vret hx hb hr (fun t ht hW => ⟨⟨(), rfl, trivial, by rw [ht]; exact hP, va_K.moved hW.alike hK, hD⟩, hS.F ht⟩) hS.2.2 dX1_setCosts_44
-- X1_setSupport
def m_X1_setSupport (su : Int32) (th : Int32) (a1 : Int32) : Option ((Int32) × ((Int32)) × ((Int32))) := (if (m_X1_between a1 1 8) = 0 then (bnd2 (m_X1_holds th 1) (fun r_2 th_3 => (if r_2 = 0 then some (su, a1, th_3) else some ((-1), su, th_3)))) else (bnd2 (m_X1_holds th 0) (fun r_6 th_7 => (if r_6 = 0 then some (su, a1, th_7) else some ((-1), su, th_7)))))
set_option maxHeartbeats 4000000 in
set_option maxRecDepth 100000 in
theorem c_X1_setSupport (l : Launch) (D : va_G) (cI cJ : ClassId) (y0 y1 y2 y3 y4 y5 y6 y7 y8 : Nat) (sz : Nat) (hs : Nat → Int32) (si : Nat → Int32) (ag : Nat → Int32) (la : Nat → Int32) (fo : Nat → Int32) (co : Nat → Int32) (cv : Nat → Int32) (ta : Nat → Int32) (rc : Int32) (ec : Int32) (su : Int32) (pe : Int32) (ti : Int32) (mn : Int32) (nu : Int32) (th : Int32) (a1 : Int32) (r0 : Int32) (su' : Int32) (th' : Int32) (h : m_X1_setSupport su th a1 = some (r0, su', th')) : Met l yX1_setSupport wsX1_setSupport ({ frames := 1, cells := 0, slots := 0, locals := 23 }) (va_Pc [.ref y0, .int a1] (bx_Pre D [(cI, .int), (cJ, .long)] (wY cI cJ y0 y1 y2 y3 y4 y5 y6 y7 y8 hs si ag la fo co cv ta rc ec su pe ti mn nu th) sz)) (va_Qi (fun (r : Int32) (_ : Unit) => r = r0) (fun (_ : Unit) t => bx_Post D [(cI, .int), (cJ, .long)] (wY cI cJ y0 y1 y2 y3 y4 y5 y6 y7 y8 hs si ag la fo co cv ta rc ec su' pe ti mn nu th') (va_A (wY cI cJ y0 y1 y2 y3 y4 y5 y6 y7 y8 hs si ag la fo co cv ta rc ec su pe ti mn nu th) sz) t) (va_A (wY cI cJ y0 y1 y2 y3 y4 y5 y6 y7 y8 hs si ag la fo co cv ta rc ec su pe ti mn nu th) sz)) 0 0 (va_A (wY cI cJ y0 y1 y2 y3 y4 y5 y6 y7 y8 hs si ag la fo co cv ta rc ec su pe ti mn nu th) sz) := by
  refine Met.ofW (cc := cX1_setSupport) (maxL := 3) (ret := (some .int)) (by decide) rfl ?_
  intro p e s m args below meth c s₁ B hml hv
  obtain ⟨rfl, hsz, hP, hK, hD0⟩ := hv
  have hx := B.exec
  have hb := B.bytes
  have hr := B.returns
  have hts := atoms_spec (ws := wsX1_setSupport) B.pre
  have hown : s.vm.findClass RX1 = some m.cls := findClass_of_methodNamed B.named
  have hlocks := B.notSynchronized
  subst hsz
  have hD := hD0.self (sz := s.heap.size)
  generalize hAe : va_A (wY cI cJ y0 y1 y2 y3 y4 y5 y6 y7 y8 hs si ag la fo co cv ta rc ec su pe ti mn nu th) s.heap.size = A at hD ⊢
  have hA : ∀ q : Nat, s.heap.size ≤ q → A q := fun q h9 => by rw [← hAe]; exact Or.inr h9
  have hS : va_S A s.heap s.heap [] := va_S.rf
  have hin : ∀ w ∈ wsX10, w ∈ wsX1_setSupport := fun _ h9 => List.mem_cons_of_mem _ (List.mem_append_right _ h9)
  have hw_0 := hts (.fieldLink RX1 41 "RoleMinerModel" "support" "I") (by decide +kernel)
  have hl := lv_entry ([.ref y0, .int a1]) (n := 3) (Nat.le_of_ble_eq_true rfl)
  rw [lg_entry_eq]
  generalize (lg_sl ([.ref y0, .int a1]) ++ List.replicate (3 - (lg_sl ([.ref y0, .int a1])).length) Slot.unset).toArray = ls at hl ⊢
  have hl : lv_has ls 3 [(0, .ref y0), (1, .int a1)] := hl
  rw [m_X1_setSupport] at h
  refine lv_aload_n hx hb dX1_setSupport_0 rfl (lv_at hl 0 rfl) ?_
  refine lv_aload_n hx hb dX1_setSupport_1 rfl (lv_at hl 0 rfl) ?_
  refine lv_iload_n hx hb dX1_setSupport_2 rfl (lv_at hl 1 rfl) ?_
  refine lv_iconst (v := 1) hx hb dX1_setSupport_3 (by decide) ?_
  refine lv_bipush (v := 8) hx hb dX1_setSupport_4 (by decide) ?_
  refine cl_Vi (As := [.int a1, .int 1, .int 8]) (rest := [.ref y0]) (wc := wY cI cJ y0 y1 y2 y3 y4 y5 y6 y7 y8 hs si ag la fo co cv ta rc ec su pe ti mn nu th) (w1 := wY cI cJ y0 y1 y2 y3 y4 y5 y6 y7 y8 hs si ag la fo co cv ta rc ec su pe ti mn nu th) (wr := []) ⟨hx, hb, hml, hown, hts⟩ (c_X1_between l D cI cJ y0 y1 y2 y3 y4 y5 y6 y7 y8 _ hs si ag la fo co cv ta rc ec su pe ti mn nu th a1 1 8) (cwV 3 hts gX1_setSupport_X1_between rfl rfl rfl (by decide +kernel) ⟨Nat.le_of_ble_eq_true rfl, Nat.le_of_ble_eq_true rfl⟩) hK hP hD hS hA [0, 1, 2, 3, 4, 5, 6, 7, 8] [] rfl rfl (by decide) (by decide) rfl rfl rfl rfl rfl hl.1 rfl (lv_room (Nat.le_of_ble_eq_true rfl)) dX1_setSupport_6 (fun H locs hP hD hS => ?_)
  have hP : va_P D vwCl (wY cI cJ y0 y1 y2 y3 y4 y5 y6 y7 y8 hs si ag la fo co cv ta rc ec su pe ti mn nu th) H := hP
  have hD : va_D A (wY cI cJ y0 y1 y2 y3 y4 y5 y6 y7 y8 hs si ag la fo co cv ta rc ec su pe ti mn nu th) := hD
  refine lv_if_eq (tgt := 16) hx hb dX1_setSupport_9 (by decide) (fun c_1 => ?_) (fun c_1 => ?_)
  · replace h := (if_pos c_1).symm.trans h
    refine lv_iconst (v := 1) hx hb dX1_setSupport_16 (by decide) ?_
    obtain ⟨r_2, th_3, e_4, h⟩ := bnd2_some h
    refine cl_Vi (As := [.int 1]) (rest := []) (wc := wY cI cJ y0 y1 y2 y3 y4 y5 y6 y7 y8 hs si ag la fo co cv ta rc ec su pe ti mn nu th) (w1 := wY cI cJ y0 y1 y2 y3 y4 y5 y6 y7 y8 hs si ag la fo co cv ta rc ec su pe ti mn nu th_3) (wr := []) ⟨hx, hb, hml, hown, hts⟩ (c_X1_holds l D cI cJ y0 y1 y2 y3 y4 y5 y6 y7 y8 _ hs si ag la fo co cv ta rc ec su pe ti mn nu th 1 r_2 th_3 e_4) (cwV 1 hts gX1_setSupport_X1_holds rfl rfl rfl (by decide +kernel) ⟨Nat.le_of_ble_eq_true rfl, Nat.le_of_ble_eq_true rfl⟩) hK hP hD hS hA [0, 1, 2, 3, 4, 5, 6, 7, 8] [] rfl rfl (by decide) (by decide) rfl rfl rfl rfl rfl hl.1 rfl (lv_room (Nat.le_of_ble_eq_true rfl)) dX1_setSupport_17 (fun H locs hP hD hS => ?_)
    have hP : va_P D vwCl (wY cI cJ y0 y1 y2 y3 y4 y5 y6 y7 y8 hs si ag la fo co cv ta rc ec su pe ti mn nu th_3) H := hP
    have hD : va_D A (wY cI cJ y0 y1 y2 y3 y4 y5 y6 y7 y8 hs si ag la fo co cv ta rc ec su pe ti mn nu th_3) := hD
    refine lv_if_eq (tgt := 25) hx hb dX1_setSupport_20 (by decide) (fun c_5 => ?_) (fun c_5 => ?_)
    · replace h := (if_pos c_5).symm.trans h
      refine lv_aload_n hx hb dX1_setSupport_25 rfl (lv_at hl 0 rfl) ?_
      refine va_get (D := D) (ci := 1) (v := .int su) (C := RX1) (T := TX1) (N := 16) hx hb hts hin hown hK hP 0 rfl rfl 10 (by decide) hw_0 (fun _ h9 => h9) rfl dX1_setSupport_26 ?_
      refine lv_istore_n (lv' := [(2, .int su), (0, .ref y0), (1, .int a1)]) hx hb dX1_setSupport_29 rfl hl (by decide) rfl (fun ls hl => ?_)
      refine lv_aload_n hx hb dX1_setSupport_30 rfl (lv_at hl 1 rfl) ?_
      refine lv_iload_n hx hb dX1_setSupport_31 rfl (lv_at hl 2 rfl) ?_
      refine va_put (D := D) (ci := 1) (v := .int a1) (ty := .int) (C := RX1) (T := TX1) (N := 16) hx hb hts hin tyX1 tyX1_ok nmX1 hown hK hP hD hS 0 rfl rfl 10 (by decide) hw_0 (fun _ h9 => h9) rfl (by decide +kernel) rfl rfl (Nat.le_of_ble_eq_true rfl) dX1_setSupport_32 (fun H locs hP hD hS => ?_)
      have hP : va_P D vwCl (wY cI cJ y0 y1 y2 y3 y4 y5 y6 y7 y8 hs si ag la fo co cv ta rc ec a1 pe ti mn nu th_3) H := hP
      have hD : va_D A (wY cI cJ y0 y1 y2 y3 y4 y5 y6 y7 y8 hs si ag la fo co cv ta rc ec a1 pe ti mn nu th_3) := hD
      refine lv_iload_n hx hb dX1_setSupport_35 rfl (lv_at hl 0 rfl) ?_
      cases h
      exact W.iret hx hb hr (fun t ht hW => ⟨⟨_, (), rfl, rfl, by rw [ht]; exact hP, va_K.moved hW.alike hK, hD⟩, hS.F ht⟩) hS.2.2 dX1_setSupport_36
    · replace h := (if_neg c_5).symm.trans h
      refine lv_iconst (v := (-1)) hx hb dX1_setSupport_23 (by decide) ?_
      cases h
      exact W.iret hx hb hr (fun t ht hW => ⟨⟨_, (), rfl, rfl, by rw [ht]; exact hP, va_K.moved hW.alike hK, hD⟩, hS.F ht⟩) hS.2.2 dX1_setSupport_24
  · replace h := (if_neg c_1).symm.trans h
    refine lv_iconst (v := 0) hx hb dX1_setSupport_12 (by decide) ?_
    refine lv_goto (tgt := 17) hx hb dX1_setSupport_13 (by decide) ?_
    obtain ⟨r_6, th_7, e_8, h⟩ := bnd2_some h
    refine cl_Vi (As := [.int 0]) (rest := []) (wc := wY cI cJ y0 y1 y2 y3 y4 y5 y6 y7 y8 hs si ag la fo co cv ta rc ec su pe ti mn nu th) (w1 := wY cI cJ y0 y1 y2 y3 y4 y5 y6 y7 y8 hs si ag la fo co cv ta rc ec su pe ti mn nu th_7) (wr := []) ⟨hx, hb, hml, hown, hts⟩ (c_X1_holds l D cI cJ y0 y1 y2 y3 y4 y5 y6 y7 y8 _ hs si ag la fo co cv ta rc ec su pe ti mn nu th 0 r_6 th_7 e_8) (cwV 1 hts gX1_setSupport_X1_holds rfl rfl rfl (by decide +kernel) ⟨Nat.le_of_ble_eq_true rfl, Nat.le_of_ble_eq_true rfl⟩) hK hP hD hS hA [0, 1, 2, 3, 4, 5, 6, 7, 8] [] rfl rfl (by decide) (by decide) rfl rfl rfl rfl rfl hl.1 rfl (lv_room (Nat.le_of_ble_eq_true rfl)) dX1_setSupport_17 (fun H locs hP hD hS => ?_)
    have hP : va_P D vwCl (wY cI cJ y0 y1 y2 y3 y4 y5 y6 y7 y8 hs si ag la fo co cv ta rc ec su pe ti mn nu th_7) H := hP
    have hD : va_D A (wY cI cJ y0 y1 y2 y3 y4 y5 y6 y7 y8 hs si ag la fo co cv ta rc ec su pe ti mn nu th_7) := hD
    refine lv_if_eq (tgt := 25) hx hb dX1_setSupport_20 (by decide) (fun c_9 => ?_) (fun c_9 => ?_)
    · replace h := (if_pos c_9).symm.trans h
      refine lv_aload_n hx hb dX1_setSupport_25 rfl (lv_at hl 0 rfl) ?_
      refine va_get (D := D) (ci := 1) (v := .int su) (C := RX1) (T := TX1) (N := 16) hx hb hts hin hown hK hP 0 rfl rfl 10 (by decide) hw_0 (fun _ h9 => h9) rfl dX1_setSupport_26 ?_
      refine lv_istore_n (lv' := [(2, .int su), (0, .ref y0), (1, .int a1)]) hx hb dX1_setSupport_29 rfl hl (by decide) rfl (fun ls hl => ?_)
      refine lv_aload_n hx hb dX1_setSupport_30 rfl (lv_at hl 1 rfl) ?_
      refine lv_iload_n hx hb dX1_setSupport_31 rfl (lv_at hl 2 rfl) ?_
      refine va_put (D := D) (ci := 1) (v := .int a1) (ty := .int) (C := RX1) (T := TX1) (N := 16) hx hb hts hin tyX1 tyX1_ok nmX1 hown hK hP hD hS 0 rfl rfl 10 (by decide) hw_0 (fun _ h9 => h9) rfl (by decide +kernel) rfl rfl (Nat.le_of_ble_eq_true rfl) dX1_setSupport_32 (fun H locs hP hD hS => ?_)
      have hP : va_P D vwCl (wY cI cJ y0 y1 y2 y3 y4 y5 y6 y7 y8 hs si ag la fo co cv ta rc ec a1 pe ti mn nu th_7) H := hP
      have hD : va_D A (wY cI cJ y0 y1 y2 y3 y4 y5 y6 y7 y8 hs si ag la fo co cv ta rc ec a1 pe ti mn nu th_7) := hD
      refine lv_iload_n hx hb dX1_setSupport_35 rfl (lv_at hl 0 rfl) ?_
      cases h
      exact W.iret hx hb hr (fun t ht hW => ⟨⟨_, (), rfl, rfl, by rw [ht]; exact hP, va_K.moved hW.alike hK, hD⟩, hS.F ht⟩) hS.2.2 dX1_setSupport_36
    · replace h := (if_neg c_9).symm.trans h
      refine lv_iconst (v := (-1)) hx hb dX1_setSupport_23 (by decide) ?_
      cases h
      exact W.iret hx hb hr (fun t ht hW => ⟨⟨_, (), rfl, rfl, by rw [ht]; exact hP, va_K.moved hW.alike hK, hD⟩, hS.F ht⟩) hS.2.2 dX1_setSupport_24
-- X1_setPeriod
def m_X1_setPeriod (pe : Int32) (th : Int32) (a1 : Int32) : Option ((Int32) × ((Int32)) × ((Int32))) := (if (m_X1_between a1 1 8) = 0 then (bnd2 (m_X1_holds th 1) (fun r_2 th_3 => (if r_2 = 0 then some (pe, a1, th_3) else some ((-1), pe, th_3)))) else (bnd2 (m_X1_holds th 0) (fun r_6 th_7 => (if r_6 = 0 then some (pe, a1, th_7) else some ((-1), pe, th_7)))))
set_option maxHeartbeats 4000000 in
set_option maxRecDepth 100000 in
theorem c_X1_setPeriod (l : Launch) (D : va_G) (cI cJ : ClassId) (y0 y1 y2 y3 y4 y5 y6 y7 y8 : Nat) (sz : Nat) (hs : Nat → Int32) (si : Nat → Int32) (ag : Nat → Int32) (la : Nat → Int32) (fo : Nat → Int32) (co : Nat → Int32) (cv : Nat → Int32) (ta : Nat → Int32) (rc : Int32) (ec : Int32) (su : Int32) (pe : Int32) (ti : Int32) (mn : Int32) (nu : Int32) (th : Int32) (a1 : Int32) (r0 : Int32) (pe' : Int32) (th' : Int32) (h : m_X1_setPeriod pe th a1 = some (r0, pe', th')) : Met l yX1_setPeriod wsX1_setPeriod ({ frames := 1, cells := 0, slots := 0, locals := 23 }) (va_Pc [.ref y0, .int a1] (bx_Pre D [(cI, .int), (cJ, .long)] (wY cI cJ y0 y1 y2 y3 y4 y5 y6 y7 y8 hs si ag la fo co cv ta rc ec su pe ti mn nu th) sz)) (va_Qi (fun (r : Int32) (_ : Unit) => r = r0) (fun (_ : Unit) t => bx_Post D [(cI, .int), (cJ, .long)] (wY cI cJ y0 y1 y2 y3 y4 y5 y6 y7 y8 hs si ag la fo co cv ta rc ec su pe' ti mn nu th') (va_A (wY cI cJ y0 y1 y2 y3 y4 y5 y6 y7 y8 hs si ag la fo co cv ta rc ec su pe ti mn nu th) sz) t) (va_A (wY cI cJ y0 y1 y2 y3 y4 y5 y6 y7 y8 hs si ag la fo co cv ta rc ec su pe ti mn nu th) sz)) 0 0 (va_A (wY cI cJ y0 y1 y2 y3 y4 y5 y6 y7 y8 hs si ag la fo co cv ta rc ec su pe ti mn nu th) sz) := by
  refine Met.ofW (cc := cX1_setPeriod) (maxL := 3) (ret := (some .int)) (by decide) rfl ?_
  intro p e s m args below meth c s₁ B hml hv
  obtain ⟨rfl, hsz, hP, hK, hD0⟩ := hv
  have hx := B.exec
  have hb := B.bytes
  have hr := B.returns
  have hts := atoms_spec (ws := wsX1_setPeriod) B.pre
  have hown : s.vm.findClass RX1 = some m.cls := findClass_of_methodNamed B.named
  have hlocks := B.notSynchronized
  subst hsz
  have hD := hD0.self (sz := s.heap.size)
  generalize hAe : va_A (wY cI cJ y0 y1 y2 y3 y4 y5 y6 y7 y8 hs si ag la fo co cv ta rc ec su pe ti mn nu th) s.heap.size = A at hD ⊢
  have hA : ∀ q : Nat, s.heap.size ≤ q → A q := fun q h9 => by rw [← hAe]; exact Or.inr h9
  have hS : va_S A s.heap s.heap [] := va_S.rf
  have hin : ∀ w ∈ wsX10, w ∈ wsX1_setPeriod := fun _ h9 => List.mem_cons_of_mem _ (List.mem_append_right _ h9)
  have hw_0 := hts (.fieldLink RX1 44 "RoleMinerModel" "period" "I") (by decide +kernel)
  have hl := lv_entry ([.ref y0, .int a1]) (n := 3) (Nat.le_of_ble_eq_true rfl)
  rw [lg_entry_eq]
  generalize (lg_sl ([.ref y0, .int a1]) ++ List.replicate (3 - (lg_sl ([.ref y0, .int a1])).length) Slot.unset).toArray = ls at hl ⊢
  have hl : lv_has ls 3 [(0, .ref y0), (1, .int a1)] := hl
  rw [m_X1_setPeriod] at h
  refine lv_aload_n hx hb dX1_setPeriod_0 rfl (lv_at hl 0 rfl) ?_
  refine lv_aload_n hx hb dX1_setPeriod_1 rfl (lv_at hl 0 rfl) ?_
  refine lv_iload_n hx hb dX1_setPeriod_2 rfl (lv_at hl 1 rfl) ?_
  refine lv_iconst (v := 1) hx hb dX1_setPeriod_3 (by decide) ?_
  refine lv_bipush (v := 8) hx hb dX1_setPeriod_4 (by decide) ?_
  refine cl_Vi (As := [.int a1, .int 1, .int 8]) (rest := [.ref y0]) (wc := wY cI cJ y0 y1 y2 y3 y4 y5 y6 y7 y8 hs si ag la fo co cv ta rc ec su pe ti mn nu th) (w1 := wY cI cJ y0 y1 y2 y3 y4 y5 y6 y7 y8 hs si ag la fo co cv ta rc ec su pe ti mn nu th) (wr := []) ⟨hx, hb, hml, hown, hts⟩ (c_X1_between l D cI cJ y0 y1 y2 y3 y4 y5 y6 y7 y8 _ hs si ag la fo co cv ta rc ec su pe ti mn nu th a1 1 8) (cwV 3 hts gX1_setPeriod_X1_between rfl rfl rfl (by decide +kernel) ⟨Nat.le_of_ble_eq_true rfl, Nat.le_of_ble_eq_true rfl⟩) hK hP hD hS hA [0, 1, 2, 3, 4, 5, 6, 7, 8] [] rfl rfl (by decide) (by decide) rfl rfl rfl rfl rfl hl.1 rfl (lv_room (Nat.le_of_ble_eq_true rfl)) dX1_setPeriod_6 (fun H locs hP hD hS => ?_)
  have hP : va_P D vwCl (wY cI cJ y0 y1 y2 y3 y4 y5 y6 y7 y8 hs si ag la fo co cv ta rc ec su pe ti mn nu th) H := hP
  have hD : va_D A (wY cI cJ y0 y1 y2 y3 y4 y5 y6 y7 y8 hs si ag la fo co cv ta rc ec su pe ti mn nu th) := hD
  refine lv_if_eq (tgt := 16) hx hb dX1_setPeriod_9 (by decide) (fun c_1 => ?_) (fun c_1 => ?_)
  · replace h := (if_pos c_1).symm.trans h
    refine lv_iconst (v := 1) hx hb dX1_setPeriod_16 (by decide) ?_
    obtain ⟨r_2, th_3, e_4, h⟩ := bnd2_some h
    refine cl_Vi (As := [.int 1]) (rest := []) (wc := wY cI cJ y0 y1 y2 y3 y4 y5 y6 y7 y8 hs si ag la fo co cv ta rc ec su pe ti mn nu th) (w1 := wY cI cJ y0 y1 y2 y3 y4 y5 y6 y7 y8 hs si ag la fo co cv ta rc ec su pe ti mn nu th_3) (wr := []) ⟨hx, hb, hml, hown, hts⟩ (c_X1_holds l D cI cJ y0 y1 y2 y3 y4 y5 y6 y7 y8 _ hs si ag la fo co cv ta rc ec su pe ti mn nu th 1 r_2 th_3 e_4) (cwV 1 hts gX1_setPeriod_X1_holds rfl rfl rfl (by decide +kernel) ⟨Nat.le_of_ble_eq_true rfl, Nat.le_of_ble_eq_true rfl⟩) hK hP hD hS hA [0, 1, 2, 3, 4, 5, 6, 7, 8] [] rfl rfl (by decide) (by decide) rfl rfl rfl rfl rfl hl.1 rfl (lv_room (Nat.le_of_ble_eq_true rfl)) dX1_setPeriod_17 (fun H locs hP hD hS => ?_)
    have hP : va_P D vwCl (wY cI cJ y0 y1 y2 y3 y4 y5 y6 y7 y8 hs si ag la fo co cv ta rc ec su pe ti mn nu th_3) H := hP
    have hD : va_D A (wY cI cJ y0 y1 y2 y3 y4 y5 y6 y7 y8 hs si ag la fo co cv ta rc ec su pe ti mn nu th_3) := hD
    refine lv_if_eq (tgt := 25) hx hb dX1_setPeriod_20 (by decide) (fun c_5 => ?_) (fun c_5 => ?_)
    · replace h := (if_pos c_5).symm.trans h
      refine lv_aload_n hx hb dX1_setPeriod_25 rfl (lv_at hl 0 rfl) ?_
      refine va_get (D := D) (ci := 1) (v := .int pe) (C := RX1) (T := TX1) (N := 16) hx hb hts hin hown hK hP 0 rfl rfl 11 (by decide) hw_0 (fun _ h9 => h9) rfl dX1_setPeriod_26 ?_
      refine lv_istore_n (lv' := [(2, .int pe), (0, .ref y0), (1, .int a1)]) hx hb dX1_setPeriod_29 rfl hl (by decide) rfl (fun ls hl => ?_)
      refine lv_aload_n hx hb dX1_setPeriod_30 rfl (lv_at hl 1 rfl) ?_
      refine lv_iload_n hx hb dX1_setPeriod_31 rfl (lv_at hl 2 rfl) ?_
      refine va_put (D := D) (ci := 1) (v := .int a1) (ty := .int) (C := RX1) (T := TX1) (N := 16) hx hb hts hin tyX1 tyX1_ok nmX1 hown hK hP hD hS 0 rfl rfl 11 (by decide) hw_0 (fun _ h9 => h9) rfl (by decide +kernel) rfl rfl (Nat.le_of_ble_eq_true rfl) dX1_setPeriod_32 (fun H locs hP hD hS => ?_)
      have hP : va_P D vwCl (wY cI cJ y0 y1 y2 y3 y4 y5 y6 y7 y8 hs si ag la fo co cv ta rc ec su a1 ti mn nu th_3) H := hP
      have hD : va_D A (wY cI cJ y0 y1 y2 y3 y4 y5 y6 y7 y8 hs si ag la fo co cv ta rc ec su a1 ti mn nu th_3) := hD
      refine lv_iload_n hx hb dX1_setPeriod_35 rfl (lv_at hl 0 rfl) ?_
      cases h
      exact W.iret hx hb hr (fun t ht hW => ⟨⟨_, (), rfl, rfl, by rw [ht]; exact hP, va_K.moved hW.alike hK, hD⟩, hS.F ht⟩) hS.2.2 dX1_setPeriod_36
    · replace h := (if_neg c_5).symm.trans h
      refine lv_iconst (v := (-1)) hx hb dX1_setPeriod_23 (by decide) ?_
      cases h
      exact W.iret hx hb hr (fun t ht hW => ⟨⟨_, (), rfl, rfl, by rw [ht]; exact hP, va_K.moved hW.alike hK, hD⟩, hS.F ht⟩) hS.2.2 dX1_setPeriod_24
  · replace h := (if_neg c_1).symm.trans h
    refine lv_iconst (v := 0) hx hb dX1_setPeriod_12 (by decide) ?_
    refine lv_goto (tgt := 17) hx hb dX1_setPeriod_13 (by decide) ?_
    obtain ⟨r_6, th_7, e_8, h⟩ := bnd2_some h
    refine cl_Vi (As := [.int 0]) (rest := []) (wc := wY cI cJ y0 y1 y2 y3 y4 y5 y6 y7 y8 hs si ag la fo co cv ta rc ec su pe ti mn nu th) (w1 := wY cI cJ y0 y1 y2 y3 y4 y5 y6 y7 y8 hs si ag la fo co cv ta rc ec su pe ti mn nu th_7) (wr := []) ⟨hx, hb, hml, hown, hts⟩ (c_X1_holds l D cI cJ y0 y1 y2 y3 y4 y5 y6 y7 y8 _ hs si ag la fo co cv ta rc ec su pe ti mn nu th 0 r_6 th_7 e_8) (cwV 1 hts gX1_setPeriod_X1_holds rfl rfl rfl (by decide +kernel) ⟨Nat.le_of_ble_eq_true rfl, Nat.le_of_ble_eq_true rfl⟩) hK hP hD hS hA [0, 1, 2, 3, 4, 5, 6, 7, 8] [] rfl rfl (by decide) (by decide) rfl rfl rfl rfl rfl hl.1 rfl (lv_room (Nat.le_of_ble_eq_true rfl)) dX1_setPeriod_17 (fun H locs hP hD hS => ?_)
    have hP : va_P D vwCl (wY cI cJ y0 y1 y2 y3 y4 y5 y6 y7 y8 hs si ag la fo co cv ta rc ec su pe ti mn nu th_7) H := hP
    have hD : va_D A (wY cI cJ y0 y1 y2 y3 y4 y5 y6 y7 y8 hs si ag la fo co cv ta rc ec su pe ti mn nu th_7) := hD
    refine lv_if_eq (tgt := 25) hx hb dX1_setPeriod_20 (by decide) (fun c_9 => ?_) (fun c_9 => ?_)
    · replace h := (if_pos c_9).symm.trans h
      refine lv_aload_n hx hb dX1_setPeriod_25 rfl (lv_at hl 0 rfl) ?_
      refine va_get (D := D) (ci := 1) (v := .int pe) (C := RX1) (T := TX1) (N := 16) hx hb hts hin hown hK hP 0 rfl rfl 11 (by decide) hw_0 (fun _ h9 => h9) rfl dX1_setPeriod_26 ?_
      refine lv_istore_n (lv' := [(2, .int pe), (0, .ref y0), (1, .int a1)]) hx hb dX1_setPeriod_29 rfl hl (by decide) rfl (fun ls hl => ?_)
      refine lv_aload_n hx hb dX1_setPeriod_30 rfl (lv_at hl 1 rfl) ?_
      refine lv_iload_n hx hb dX1_setPeriod_31 rfl (lv_at hl 2 rfl) ?_
      refine va_put (D := D) (ci := 1) (v := .int a1) (ty := .int) (C := RX1) (T := TX1) (N := 16) hx hb hts hin tyX1 tyX1_ok nmX1 hown hK hP hD hS 0 rfl rfl 11 (by decide) hw_0 (fun _ h9 => h9) rfl (by decide +kernel) rfl rfl (Nat.le_of_ble_eq_true rfl) dX1_setPeriod_32 (fun H locs hP hD hS => ?_)
      have hP : va_P D vwCl (wY cI cJ y0 y1 y2 y3 y4 y5 y6 y7 y8 hs si ag la fo co cv ta rc ec su a1 ti mn nu th_7) H := hP
      have hD : va_D A (wY cI cJ y0 y1 y2 y3 y4 y5 y6 y7 y8 hs si ag la fo co cv ta rc ec su a1 ti mn nu th_7) := hD
      refine lv_iload_n hx hb dX1_setPeriod_35 rfl (lv_at hl 0 rfl) ?_
      cases h
      exact W.iret hx hb hr (fun t ht hW => ⟨⟨_, (), rfl, rfl, by rw [ht]; exact hP, va_K.moved hW.alike hK, hD⟩, hS.F ht⟩) hS.2.2 dX1_setPeriod_36
    · replace h := (if_neg c_9).symm.trans h
      refine lv_iconst (v := (-1)) hx hb dX1_setPeriod_23 (by decide) ?_
      cases h
      exact W.iret hx hb hr (fun t ht hW => ⟨⟨_, (), rfl, rfl, by rw [ht]; exact hP, va_K.moved hW.alike hK, hD⟩, hS.F ht⟩) hS.2.2 dX1_setPeriod_24
-- X1_review
def m_X1_review (hs : Nat → Int32) (si : Nat → Int32) (ti : Int32) (th : Int32) (a1 : Int32) (a2 : Int32) : Option ((Int32) × ((Nat → Int32)) × ((Int32))) := (if (m_X1_isUser a1) = 0 then (bnd2 (m_X1_holds th 1) (fun r_2 th_3 => (if r_2 = 0 then (ix ((12 * a1) + a2) 96 (some ((ti - (si (Int32.toNatClampNeg ((12 * a1) + a2)))), (upd si (Int32.toNatClampNeg ((12 * a1) + a2)) ti), th_3))) else some ((-1), si, th_3)))) else (if (m_X1_isPermission a2) = 0 then (bnd2 (m_X1_holds th 1) (fun r_20 th_21 => (if r_20 = 0 then (ix ((12 * a1) + a2) 96 (some ((ti - (si (Int32.toNatClampNeg ((12 * a1) + a2)))), (upd si (Int32.toNatClampNeg ((12 * a1) + a2)) ti), th_21))) else some ((-1), si, th_21)))) else (ix a1 8 (if (m_X1_isIn (hs (Int32.toNatClampNeg a1)) a2) = 0 then (bnd2 (m_X1_holds th 2) (fun r_10 th_11 => (if r_10 = 0 then (ix ((12 * a1) + a2) 96 (some ((ti - (si (Int32.toNatClampNeg ((12 * a1) + a2)))), (upd si (Int32.toNatClampNeg ((12 * a1) + a2)) ti), th_11))) else some ((-1), si, th_11)))) else (bnd2 (m_X1_holds th 0) (fun r_15 th_16 => (if r_15 = 0 then (ix ((12 * a1) + a2) 96 (some ((ti - (si (Int32.toNatClampNeg ((12 * a1) + a2)))), (upd si (Int32.toNatClampNeg ((12 * a1) + a2)) ti), th_16))) else some ((-1), si, th_16))))))))
set_option maxHeartbeats 4000000 in
set_option maxRecDepth 100000 in
theorem c_X1_review (l : Launch) (D : va_G) (cI cJ : ClassId) (y0 y1 y2 y3 y4 y5 y6 y7 y8 : Nat) (sz : Nat) (hs : Nat → Int32) (si : Nat → Int32) (ag : Nat → Int32) (la : Nat → Int32) (fo : Nat → Int32) (co : Nat → Int32) (cv : Nat → Int32) (ta : Nat → Int32) (rc : Int32) (ec : Int32) (su : Int32) (pe : Int32) (ti : Int32) (mn : Int32) (nu : Int32) (th : Int32) (a1 : Int32) (a2 : Int32) (r0 : Int32) (si' : Nat → Int32) (th' : Int32) (h : m_X1_review hs si ti th a1 a2 = some (r0, si', th')) : Met l yX1_review wsX1_review ({ frames := 2, cells := 0, slots := 0, locals := 44 }) (va_Pc [.ref y0, .int a1, .int a2] (bx_Pre D [(cI, .int), (cJ, .long)] (wY cI cJ y0 y1 y2 y3 y4 y5 y6 y7 y8 hs si ag la fo co cv ta rc ec su pe ti mn nu th) sz)) (va_Qi (fun (r : Int32) (_ : Unit) => r = r0) (fun (_ : Unit) t => bx_Post D [(cI, .int), (cJ, .long)] (wY cI cJ y0 y1 y2 y3 y4 y5 y6 y7 y8 hs si' ag la fo co cv ta rc ec su pe ti mn nu th') (va_A (wY cI cJ y0 y1 y2 y3 y4 y5 y6 y7 y8 hs si ag la fo co cv ta rc ec su pe ti mn nu th) sz) t) (va_A (wY cI cJ y0 y1 y2 y3 y4 y5 y6 y7 y8 hs si ag la fo co cv ta rc ec su pe ti mn nu th) sz)) 0 0 (va_A (wY cI cJ y0 y1 y2 y3 y4 y5 y6 y7 y8 hs si ag la fo co cv ta rc ec su pe ti mn nu th) sz) := by
  refine Met.ofW (cc := cX1_review) (maxL := 4) (ret := (some .int)) (by decide) rfl ?_
  intro p e s m args below meth c s₁ B hml hv
  obtain ⟨rfl, hsz, hP, hK, hD0⟩ := hv
  have hx := B.exec
  have hb := B.bytes
  have hr := B.returns
  have hts := atoms_spec (ws := wsX1_review) B.pre
  have hown : s.vm.findClass RX1 = some m.cls := findClass_of_methodNamed B.named
  have hlocks := B.notSynchronized
  subst hsz
  have hD := hD0.self (sz := s.heap.size)
  generalize hAe : va_A (wY cI cJ y0 y1 y2 y3 y4 y5 y6 y7 y8 hs si ag la fo co cv ta rc ec su pe ti mn nu th) s.heap.size = A at hD ⊢
  have hA : ∀ q : Nat, s.heap.size ≤ q → A q := fun q h9 => by rw [← hAe]; exact Or.inr h9
  have hS : va_S A s.heap s.heap [] := va_S.rf
  have hin : ∀ w ∈ wsX10, w ∈ wsX1_review := fun _ h9 => List.mem_cons_of_mem _ (List.mem_append_right _ h9)
  have hw_0 := hts (.fieldLink RX1 61 "RoleMinerModel" "time" "I") (by decide +kernel)
  have hw_1 := hts (.fieldLink RX1 13 "RoleMinerModel" "since" "[I") (by decide +kernel)
  have hw_2 := hts (.fieldLink RX1 7 "RoleMinerModel" "has" "[I") (by decide +kernel)
  have hl := lv_entry ([.ref y0, .int a1, .int a2]) (n := 4) (Nat.le_of_ble_eq_true rfl)
  rw [lg_entry_eq]
  generalize (lg_sl ([.ref y0, .int a1, .int a2]) ++ List.replicate (4 - (lg_sl ([.ref y0, .int a1, .int a2])).length) Slot.unset).toArray = ls at hl ⊢
  have hl : lv_has ls 4 [(0, .ref y0), (1, .int a1), (2, .int a2)] := hl
  rw [m_X1_review] at h
  refine lv_aload_n hx hb dX1_review_0 rfl (lv_at hl 0 rfl) ?_
  refine lv_aload_n hx hb dX1_review_1 rfl (lv_at hl 0 rfl) ?_
  refine lv_iload_n hx hb dX1_review_2 rfl (lv_at hl 1 rfl) ?_
  refine cl_Vi (As := [.int a1]) (rest := [.ref y0]) (wc := wY cI cJ y0 y1 y2 y3 y4 y5 y6 y7 y8 hs si ag la fo co cv ta rc ec su pe ti mn nu th) (w1 := wY cI cJ y0 y1 y2 y3 y4 y5 y6 y7 y8 hs si ag la fo co cv ta rc ec su pe ti mn nu th) (wr := []) ⟨hx, hb, hml, hown, hts⟩ (c_X1_isUser l D cI cJ y0 y1 y2 y3 y4 y5 y6 y7 y8 _ hs si ag la fo co cv ta rc ec su pe ti mn nu th a1) (cwV 1 hts gX1_review_X1_isUser rfl rfl rfl (by decide +kernel) ⟨Nat.le_of_ble_eq_true rfl, Nat.le_of_ble_eq_true rfl⟩) hK hP hD hS hA [0, 1, 2, 3, 4, 5, 6, 7, 8] [] rfl rfl (by decide) (by decide) rfl rfl rfl rfl rfl hl.1 rfl (lv_room (Nat.le_of_ble_eq_true rfl)) dX1_review_3 (fun H locs hP hD hS => ?_)
  have hP : va_P D vwCl (wY cI cJ y0 y1 y2 y3 y4 y5 y6 y7 y8 hs si ag la fo co cv ta rc ec su pe ti mn nu th) H := hP
  have hD : va_D A (wY cI cJ y0 y1 y2 y3 y4 y5 y6 y7 y8 hs si ag la fo co cv ta rc ec su pe ti mn nu th) := hD
  refine lv_if_eq (tgt := 17) hx hb dX1_review_6 (by decide) (fun c_1 => ?_) (fun c_1 => ?_)
  · replace h := (if_pos c_1).symm.trans h
    refine lv_iconst (v := 1) hx hb dX1_review_17 (by decide) ?_
    refine lv_goto (tgt := 40) hx hb dX1_review_18 (by decide) ?_
    obtain ⟨r_2, th_3, e_4, h⟩ := bnd2_some h
    refine cl_Vi (As := [.int 1]) (rest := []) (wc := wY cI cJ y0 y1 y2 y3 y4 y5 y6 y7 y8 hs si ag la fo co cv ta rc ec su pe ti mn nu th) (w1 := wY cI cJ y0 y1 y2 y3 y4 y5 y6 y7 y8 hs si ag la fo co cv ta rc ec su pe ti mn nu th_3) (wr := []) ⟨hx, hb, hml, hown, hts⟩ (c_X1_holds l D cI cJ y0 y1 y2 y3 y4 y5 y6 y7 y8 _ hs si ag la fo co cv ta rc ec su pe ti mn nu th 1 r_2 th_3 e_4) (cwV 1 hts gX1_review_X1_holds rfl rfl rfl (by decide +kernel) ⟨Nat.le_of_ble_eq_true rfl, Nat.le_of_ble_eq_true rfl⟩) hK hP hD hS hA [0, 1, 2, 3, 4, 5, 6, 7, 8] [] rfl rfl (by decide) (by decide) rfl rfl rfl rfl rfl hl.1 rfl (lv_room (Nat.le_of_ble_eq_true rfl)) dX1_review_40 (fun H locs hP hD hS => ?_)
    have hP : va_P D vwCl (wY cI cJ y0 y1 y2 y3 y4 y5 y6 y7 y8 hs si ag la fo co cv ta rc ec su pe ti mn nu th_3) H := hP
    have hD : va_D A (wY cI cJ y0 y1 y2 y3 y4 y5 y6 y7 y8 hs si ag la fo co cv ta rc ec su pe ti mn nu th_3) := hD
    refine lv_if_eq (tgt := 48) hx hb dX1_review_43 (by decide) (fun c_5 => ?_) (fun c_5 => ?_)
    · replace h := (if_pos c_5).symm.trans h
      refine lv_aload_n hx hb dX1_review_48 rfl (lv_at hl 0 rfl) ?_
      refine va_get (D := D) (ci := 1) (v := .int ti) (C := RX1) (T := TX1) (N := 16) hx hb hts hin hown hK hP 0 rfl rfl 12 (by decide) hw_0 (fun _ h9 => h9) rfl dX1_review_49 ?_
      refine lv_aload_n hx hb dX1_review_52 rfl (lv_at hl 0 rfl) ?_
      refine va_get (D := D) (ci := 1) (v := .ref y2) (C := RX1) (T := TX1) (N := 16) hx hb hts hin hown hK hP 0 rfl rfl 1 (by decide) hw_1 (fun _ h9 => h9) rfl dX1_review_53 ?_
      refine lv_bipush (v := 12) hx hb dX1_review_56 (by decide) ?_
      refine lv_iload_n hx hb dX1_review_58 rfl (lv_at hl 1 rfl) ?_
      refine lv_imul hx hb dX1_review_59 ?_
      refine lv_iload_n hx hb dX1_review_60 rfl (lv_at hl 2 rfl) ?_
      refine lv_iadd hx hb dX1_review_61 ?_
      obtain ⟨h_6, h⟩ := ix_some h
      refine va_iald hx hb hK hP 2 0 rfl rfl h_6 dX1_review_62 ?_
      refine lv_isub hx hb dX1_review_63 ?_
      refine lv_istore_n (lv' := [(3, .int (ti - (si (Int32.toNatClampNeg ((12 * a1) + a2))))), (0, .ref y0), (1, .int a1), (2, .int a2)]) hx hb dX1_review_64 rfl hl (by decide) rfl (fun ls hl => ?_)
      refine lv_aload_n hx hb dX1_review_65 rfl (lv_at hl 1 rfl) ?_
      refine va_get (D := D) (ci := 1) (v := .ref y2) (C := RX1) (T := TX1) (N := 16) hx hb hts hin hown hK hP 0 rfl rfl 1 (by decide) hw_1 (fun _ h9 => h9) rfl dX1_review_66 ?_
      refine lv_bipush (v := 12) hx hb dX1_review_69 (by decide) ?_
      refine lv_iload_n hx hb dX1_review_71 rfl (lv_at hl 2 rfl) ?_
      refine lv_imul hx hb dX1_review_72 ?_
      refine lv_iload_n hx hb dX1_review_73 rfl (lv_at hl 3 rfl) ?_
      refine lv_iadd hx hb dX1_review_74 ?_
      refine lv_aload_n hx hb dX1_review_75 rfl (lv_at hl 1 rfl) ?_
      refine va_get (D := D) (ci := 1) (v := .int ti) (C := RX1) (T := TX1) (N := 16) hx hb hts hin hown hK hP 0 rfl rfl 12 (by decide) hw_0 (fun _ h9 => h9) rfl dX1_review_76 ?_
      refine va_iast hx hb hK hP hD hS 2 0 rfl rfl h_6 dX1_review_79 (fun H locs hP hD hS => ?_)
      have hP : va_P D vwCl (wY cI cJ y0 y1 y2 y3 y4 y5 y6 y7 y8 hs (upd si (Int32.toNatClampNeg ((12 * a1) + a2)) ti) ag la fo co cv ta rc ec su pe ti mn nu th_3) H := hP
      have hD : va_D A (wY cI cJ y0 y1 y2 y3 y4 y5 y6 y7 y8 hs (upd si (Int32.toNatClampNeg ((12 * a1) + a2)) ti) ag la fo co cv ta rc ec su pe ti mn nu th_3) := hD
      refine lv_iload_n hx hb dX1_review_80 rfl (lv_at hl 0 rfl) ?_
      cases h
      exact W.iret hx hb hr (fun t ht hW => ⟨⟨_, (), rfl, rfl, by rw [ht]; exact hP, va_K.moved hW.alike hK, hD⟩, hS.F ht⟩) hS.2.2 dX1_review_81
    · replace h := (if_neg c_5).symm.trans h
      refine lv_iconst (v := (-1)) hx hb dX1_review_46 (by decide) ?_
      cases h
      exact W.iret hx hb hr (fun t ht hW => ⟨⟨_, (), rfl, rfl, by rw [ht]; exact hP, va_K.moved hW.alike hK, hD⟩, hS.F ht⟩) hS.2.2 dX1_review_47
  · replace h := (if_neg c_1).symm.trans h
    refine lv_aload_n hx hb dX1_review_9 rfl (lv_at hl 0 rfl) ?_
    refine lv_iload_n hx hb dX1_review_10 rfl (lv_at hl 2 rfl) ?_
    refine cl_Vi (As := [.int a2]) (rest := [.ref y0]) (wc := wY cI cJ y0 y1 y2 y3 y4 y5 y6 y7 y8 hs si ag la fo co cv ta rc ec su pe ti mn nu th) (w1 := wY cI cJ y0 y1 y2 y3 y4 y5 y6 y7 y8 hs si ag la fo co cv ta rc ec su pe ti mn nu th) (wr := []) ⟨hx, hb, hml, hown, hts⟩ (c_X1_isPermission l D cI cJ y0 y1 y2 y3 y4 y5 y6 y7 y8 _ hs si ag la fo co cv ta rc ec su pe ti mn nu th a2) (cwV 1 hts gX1_review_X1_isPermission rfl rfl rfl (by decide +kernel) ⟨Nat.le_of_ble_eq_true rfl, Nat.le_of_ble_eq_true rfl⟩) hK hP hD hS hA [0, 1, 2, 3, 4, 5, 6, 7, 8] [] rfl rfl (by decide) (by decide) rfl rfl rfl rfl rfl hl.1 rfl (lv_room (Nat.le_of_ble_eq_true rfl)) dX1_review_11 (fun H locs hP hD hS => ?_)
    have hP : va_P D vwCl (wY cI cJ y0 y1 y2 y3 y4 y5 y6 y7 y8 hs si ag la fo co cv ta rc ec su pe ti mn nu th) H := hP
    have hD : va_D A (wY cI cJ y0 y1 y2 y3 y4 y5 y6 y7 y8 hs si ag la fo co cv ta rc ec su pe ti mn nu th) := hD
    refine lv_if_ne (tgt := 21) hx hb dX1_review_14 (by decide) (fun c_7 => ?_) (fun c_7 => ?_)
    · replace h := (if_neg c_7).symm.trans h
      refine lv_aload_n hx hb dX1_review_21 rfl (lv_at hl 0 rfl) ?_
      refine lv_aload_n hx hb dX1_review_22 rfl (lv_at hl 0 rfl) ?_
      refine va_get (D := D) (ci := 1) (v := .ref y1) (C := RX1) (T := TX1) (N := 16) hx hb hts hin hown hK hP 0 rfl rfl 0 (by decide) hw_2 (fun _ h9 => h9) rfl dX1_review_23 ?_
      refine lv_iload_n hx hb dX1_review_26 rfl (lv_at hl 1 rfl) ?_
      obtain ⟨h_8, h⟩ := ix_some h
      refine va_iald hx hb hK hP 1 0 rfl rfl h_8 dX1_review_27 ?_
      refine lv_iload_n hx hb dX1_review_28 rfl (lv_at hl 2 rfl) ?_
      refine cl_Vi (As := [.int (hs (Int32.toNatClampNeg a1)), .int a2]) (rest := [.ref y0]) (wc := wY cI cJ y0 y1 y2 y3 y4 y5 y6 y7 y8 hs si ag la fo co cv ta rc ec su pe ti mn nu th) (w1 := wY cI cJ y0 y1 y2 y3 y4 y5 y6 y7 y8 hs si ag la fo co cv ta rc ec su pe ti mn nu th) (wr := []) ⟨hx, hb, hml, hown, hts⟩ (c_X1_isIn l D cI cJ y0 y1 y2 y3 y4 y5 y6 y7 y8 _ hs si ag la fo co cv ta rc ec su pe ti mn nu th (hs (Int32.toNatClampNeg a1)) a2) (cwV 2 hts gX1_review_X1_isIn rfl rfl rfl (by decide +kernel) ⟨Nat.le_of_ble_eq_true rfl, Nat.le_of_ble_eq_true rfl⟩) hK hP hD hS hA [0, 1, 2, 3, 4, 5, 6, 7, 8] [] rfl rfl (by decide) (by decide) rfl rfl rfl rfl rfl hl.1 rfl (lv_room (Nat.le_of_ble_eq_true rfl)) dX1_review_29 (fun H locs hP hD hS => ?_)
      have hP : va_P D vwCl (wY cI cJ y0 y1 y2 y3 y4 y5 y6 y7 y8 hs si ag la fo co cv ta rc ec su pe ti mn nu th) H := hP
      have hD : va_D A (wY cI cJ y0 y1 y2 y3 y4 y5 y6 y7 y8 hs si ag la fo co cv ta rc ec su pe ti mn nu th) := hD
      refine lv_if_eq (tgt := 39) hx hb dX1_review_32 (by decide) (fun c_9 => ?_) (fun c_9 => ?_)
      · replace h := (if_pos c_9).symm.trans h
        refine lv_iconst (v := 2) hx hb dX1_review_39 (by decide) ?_
        obtain ⟨r_10, th_11, e_12, h⟩ := bnd2_some h
        refine cl_Vi (As := [.int 2]) (rest := []) (wc := wY cI cJ y0 y1 y2 y3 y4 y5 y6 y7 y8 hs si ag la fo co cv ta rc ec su pe ti mn nu th) (w1 := wY cI cJ y0 y1 y2 y3 y4 y5 y6 y7 y8 hs si ag la fo co cv ta rc ec su pe ti mn nu th_11) (wr := []) ⟨hx, hb, hml, hown, hts⟩ (c_X1_holds l D cI cJ y0 y1 y2 y3 y4 y5 y6 y7 y8 _ hs si ag la fo co cv ta rc ec su pe ti mn nu th 2 r_10 th_11 e_12) (cwV 1 hts gX1_review_X1_holds rfl rfl rfl (by decide +kernel) ⟨Nat.le_of_ble_eq_true rfl, Nat.le_of_ble_eq_true rfl⟩) hK hP hD hS hA [0, 1, 2, 3, 4, 5, 6, 7, 8] [] rfl rfl (by decide) (by decide) rfl rfl rfl rfl rfl hl.1 rfl (lv_room (Nat.le_of_ble_eq_true rfl)) dX1_review_40 (fun H locs hP hD hS => ?_)
        have hP : va_P D vwCl (wY cI cJ y0 y1 y2 y3 y4 y5 y6 y7 y8 hs si ag la fo co cv ta rc ec su pe ti mn nu th_11) H := hP
        have hD : va_D A (wY cI cJ y0 y1 y2 y3 y4 y5 y6 y7 y8 hs si ag la fo co cv ta rc ec su pe ti mn nu th_11) := hD
        refine lv_if_eq (tgt := 48) hx hb dX1_review_43 (by decide) (fun c_13 => ?_) (fun c_13 => ?_)
        · replace h := (if_pos c_13).symm.trans h
          refine lv_aload_n hx hb dX1_review_48 rfl (lv_at hl 0 rfl) ?_
          refine va_get (D := D) (ci := 1) (v := .int ti) (C := RX1) (T := TX1) (N := 16) hx hb hts hin hown hK hP 0 rfl rfl 12 (by decide) hw_0 (fun _ h9 => h9) rfl dX1_review_49 ?_
          refine lv_aload_n hx hb dX1_review_52 rfl (lv_at hl 0 rfl) ?_
          refine va_get (D := D) (ci := 1) (v := .ref y2) (C := RX1) (T := TX1) (N := 16) hx hb hts hin hown hK hP 0 rfl rfl 1 (by decide) hw_1 (fun _ h9 => h9) rfl dX1_review_53 ?_
          refine lv_bipush (v := 12) hx hb dX1_review_56 (by decide) ?_
          refine lv_iload_n hx hb dX1_review_58 rfl (lv_at hl 1 rfl) ?_
          refine lv_imul hx hb dX1_review_59 ?_
          refine lv_iload_n hx hb dX1_review_60 rfl (lv_at hl 2 rfl) ?_
          refine lv_iadd hx hb dX1_review_61 ?_
          obtain ⟨h_14, h⟩ := ix_some h
          refine va_iald hx hb hK hP 2 0 rfl rfl h_14 dX1_review_62 ?_
          refine lv_isub hx hb dX1_review_63 ?_
          refine lv_istore_n (lv' := [(3, .int (ti - (si (Int32.toNatClampNeg ((12 * a1) + a2))))), (0, .ref y0), (1, .int a1), (2, .int a2)]) hx hb dX1_review_64 rfl hl (by decide) rfl (fun ls hl => ?_)
          refine lv_aload_n hx hb dX1_review_65 rfl (lv_at hl 1 rfl) ?_
          refine va_get (D := D) (ci := 1) (v := .ref y2) (C := RX1) (T := TX1) (N := 16) hx hb hts hin hown hK hP 0 rfl rfl 1 (by decide) hw_1 (fun _ h9 => h9) rfl dX1_review_66 ?_
          refine lv_bipush (v := 12) hx hb dX1_review_69 (by decide) ?_
          refine lv_iload_n hx hb dX1_review_71 rfl (lv_at hl 2 rfl) ?_
          refine lv_imul hx hb dX1_review_72 ?_
          refine lv_iload_n hx hb dX1_review_73 rfl (lv_at hl 3 rfl) ?_
          refine lv_iadd hx hb dX1_review_74 ?_
          refine lv_aload_n hx hb dX1_review_75 rfl (lv_at hl 1 rfl) ?_
          refine va_get (D := D) (ci := 1) (v := .int ti) (C := RX1) (T := TX1) (N := 16) hx hb hts hin hown hK hP 0 rfl rfl 12 (by decide) hw_0 (fun _ h9 => h9) rfl dX1_review_76 ?_
          refine va_iast hx hb hK hP hD hS 2 0 rfl rfl h_14 dX1_review_79 (fun H locs hP hD hS => ?_)
          have hP : va_P D vwCl (wY cI cJ y0 y1 y2 y3 y4 y5 y6 y7 y8 hs (upd si (Int32.toNatClampNeg ((12 * a1) + a2)) ti) ag la fo co cv ta rc ec su pe ti mn nu th_11) H := hP
          have hD : va_D A (wY cI cJ y0 y1 y2 y3 y4 y5 y6 y7 y8 hs (upd si (Int32.toNatClampNeg ((12 * a1) + a2)) ti) ag la fo co cv ta rc ec su pe ti mn nu th_11) := hD
          refine lv_iload_n hx hb dX1_review_80 rfl (lv_at hl 0 rfl) ?_
          cases h
          exact W.iret hx hb hr (fun t ht hW => ⟨⟨_, (), rfl, rfl, by rw [ht]; exact hP, va_K.moved hW.alike hK, hD⟩, hS.F ht⟩) hS.2.2 dX1_review_81
        · replace h := (if_neg c_13).symm.trans h
          refine lv_iconst (v := (-1)) hx hb dX1_review_46 (by decide) ?_
          cases h
          exact W.iret hx hb hr (fun t ht hW => ⟨⟨_, (), rfl, rfl, by rw [ht]; exact hP, va_K.moved hW.alike hK, hD⟩, hS.F ht⟩) hS.2.2 dX1_review_47
      · replace h := (if_neg c_9).symm.trans h
        refine lv_iconst (v := 0) hx hb dX1_review_35 (by decide) ?_
        refine lv_goto (tgt := 40) hx hb dX1_review_36 (by decide) ?_
        obtain ⟨r_15, th_16, e_17, h⟩ := bnd2_some h
        refine cl_Vi (As := [.int 0]) (rest := []) (wc := wY cI cJ y0 y1 y2 y3 y4 y5 y6 y7 y8 hs si ag la fo co cv ta rc ec su pe ti mn nu th) (w1 := wY cI cJ y0 y1 y2 y3 y4 y5 y6 y7 y8 hs si ag la fo co cv ta rc ec su pe ti mn nu th_16) (wr := []) ⟨hx, hb, hml, hown, hts⟩ (c_X1_holds l D cI cJ y0 y1 y2 y3 y4 y5 y6 y7 y8 _ hs si ag la fo co cv ta rc ec su pe ti mn nu th 0 r_15 th_16 e_17) (cwV 1 hts gX1_review_X1_holds rfl rfl rfl (by decide +kernel) ⟨Nat.le_of_ble_eq_true rfl, Nat.le_of_ble_eq_true rfl⟩) hK hP hD hS hA [0, 1, 2, 3, 4, 5, 6, 7, 8] [] rfl rfl (by decide) (by decide) rfl rfl rfl rfl rfl hl.1 rfl (lv_room (Nat.le_of_ble_eq_true rfl)) dX1_review_40 (fun H locs hP hD hS => ?_)
        have hP : va_P D vwCl (wY cI cJ y0 y1 y2 y3 y4 y5 y6 y7 y8 hs si ag la fo co cv ta rc ec su pe ti mn nu th_16) H := hP
        have hD : va_D A (wY cI cJ y0 y1 y2 y3 y4 y5 y6 y7 y8 hs si ag la fo co cv ta rc ec su pe ti mn nu th_16) := hD
        refine lv_if_eq (tgt := 48) hx hb dX1_review_43 (by decide) (fun c_18 => ?_) (fun c_18 => ?_)
        · replace h := (if_pos c_18).symm.trans h
          refine lv_aload_n hx hb dX1_review_48 rfl (lv_at hl 0 rfl) ?_
          refine va_get (D := D) (ci := 1) (v := .int ti) (C := RX1) (T := TX1) (N := 16) hx hb hts hin hown hK hP 0 rfl rfl 12 (by decide) hw_0 (fun _ h9 => h9) rfl dX1_review_49 ?_
          refine lv_aload_n hx hb dX1_review_52 rfl (lv_at hl 0 rfl) ?_
          refine va_get (D := D) (ci := 1) (v := .ref y2) (C := RX1) (T := TX1) (N := 16) hx hb hts hin hown hK hP 0 rfl rfl 1 (by decide) hw_1 (fun _ h9 => h9) rfl dX1_review_53 ?_
          refine lv_bipush (v := 12) hx hb dX1_review_56 (by decide) ?_
          refine lv_iload_n hx hb dX1_review_58 rfl (lv_at hl 1 rfl) ?_
          refine lv_imul hx hb dX1_review_59 ?_
          refine lv_iload_n hx hb dX1_review_60 rfl (lv_at hl 2 rfl) ?_
          refine lv_iadd hx hb dX1_review_61 ?_
          obtain ⟨h_19, h⟩ := ix_some h
          refine va_iald hx hb hK hP 2 0 rfl rfl h_19 dX1_review_62 ?_
          refine lv_isub hx hb dX1_review_63 ?_
          refine lv_istore_n (lv' := [(3, .int (ti - (si (Int32.toNatClampNeg ((12 * a1) + a2))))), (0, .ref y0), (1, .int a1), (2, .int a2)]) hx hb dX1_review_64 rfl hl (by decide) rfl (fun ls hl => ?_)
          refine lv_aload_n hx hb dX1_review_65 rfl (lv_at hl 1 rfl) ?_
          refine va_get (D := D) (ci := 1) (v := .ref y2) (C := RX1) (T := TX1) (N := 16) hx hb hts hin hown hK hP 0 rfl rfl 1 (by decide) hw_1 (fun _ h9 => h9) rfl dX1_review_66 ?_
          refine lv_bipush (v := 12) hx hb dX1_review_69 (by decide) ?_
          refine lv_iload_n hx hb dX1_review_71 rfl (lv_at hl 2 rfl) ?_
          refine lv_imul hx hb dX1_review_72 ?_
          refine lv_iload_n hx hb dX1_review_73 rfl (lv_at hl 3 rfl) ?_
          refine lv_iadd hx hb dX1_review_74 ?_
          refine lv_aload_n hx hb dX1_review_75 rfl (lv_at hl 1 rfl) ?_
          refine va_get (D := D) (ci := 1) (v := .int ti) (C := RX1) (T := TX1) (N := 16) hx hb hts hin hown hK hP 0 rfl rfl 12 (by decide) hw_0 (fun _ h9 => h9) rfl dX1_review_76 ?_
          refine va_iast hx hb hK hP hD hS 2 0 rfl rfl h_19 dX1_review_79 (fun H locs hP hD hS => ?_)
          have hP : va_P D vwCl (wY cI cJ y0 y1 y2 y3 y4 y5 y6 y7 y8 hs (upd si (Int32.toNatClampNeg ((12 * a1) + a2)) ti) ag la fo co cv ta rc ec su pe ti mn nu th_16) H := hP
          have hD : va_D A (wY cI cJ y0 y1 y2 y3 y4 y5 y6 y7 y8 hs (upd si (Int32.toNatClampNeg ((12 * a1) + a2)) ti) ag la fo co cv ta rc ec su pe ti mn nu th_16) := hD
          refine lv_iload_n hx hb dX1_review_80 rfl (lv_at hl 0 rfl) ?_
          cases h
          exact W.iret hx hb hr (fun t ht hW => ⟨⟨_, (), rfl, rfl, by rw [ht]; exact hP, va_K.moved hW.alike hK, hD⟩, hS.F ht⟩) hS.2.2 dX1_review_81
        · replace h := (if_neg c_18).symm.trans h
          refine lv_iconst (v := (-1)) hx hb dX1_review_46 (by decide) ?_
          cases h
          exact W.iret hx hb hr (fun t ht hW => ⟨⟨_, (), rfl, rfl, by rw [ht]; exact hP, va_K.moved hW.alike hK, hD⟩, hS.F ht⟩) hS.2.2 dX1_review_47
    · replace h := (if_pos c_7).symm.trans h
      refine lv_iconst (v := 1) hx hb dX1_review_17 (by decide) ?_
      refine lv_goto (tgt := 40) hx hb dX1_review_18 (by decide) ?_
      obtain ⟨r_20, th_21, e_22, h⟩ := bnd2_some h
      refine cl_Vi (As := [.int 1]) (rest := []) (wc := wY cI cJ y0 y1 y2 y3 y4 y5 y6 y7 y8 hs si ag la fo co cv ta rc ec su pe ti mn nu th) (w1 := wY cI cJ y0 y1 y2 y3 y4 y5 y6 y7 y8 hs si ag la fo co cv ta rc ec su pe ti mn nu th_21) (wr := []) ⟨hx, hb, hml, hown, hts⟩ (c_X1_holds l D cI cJ y0 y1 y2 y3 y4 y5 y6 y7 y8 _ hs si ag la fo co cv ta rc ec su pe ti mn nu th 1 r_20 th_21 e_22) (cwV 1 hts gX1_review_X1_holds rfl rfl rfl (by decide +kernel) ⟨Nat.le_of_ble_eq_true rfl, Nat.le_of_ble_eq_true rfl⟩) hK hP hD hS hA [0, 1, 2, 3, 4, 5, 6, 7, 8] [] rfl rfl (by decide) (by decide) rfl rfl rfl rfl rfl hl.1 rfl (lv_room (Nat.le_of_ble_eq_true rfl)) dX1_review_40 (fun H locs hP hD hS => ?_)
      have hP : va_P D vwCl (wY cI cJ y0 y1 y2 y3 y4 y5 y6 y7 y8 hs si ag la fo co cv ta rc ec su pe ti mn nu th_21) H := hP
      have hD : va_D A (wY cI cJ y0 y1 y2 y3 y4 y5 y6 y7 y8 hs si ag la fo co cv ta rc ec su pe ti mn nu th_21) := hD
      refine lv_if_eq (tgt := 48) hx hb dX1_review_43 (by decide) (fun c_23 => ?_) (fun c_23 => ?_)
      · replace h := (if_pos c_23).symm.trans h
        refine lv_aload_n hx hb dX1_review_48 rfl (lv_at hl 0 rfl) ?_
        refine va_get (D := D) (ci := 1) (v := .int ti) (C := RX1) (T := TX1) (N := 16) hx hb hts hin hown hK hP 0 rfl rfl 12 (by decide) hw_0 (fun _ h9 => h9) rfl dX1_review_49 ?_
        refine lv_aload_n hx hb dX1_review_52 rfl (lv_at hl 0 rfl) ?_
        refine va_get (D := D) (ci := 1) (v := .ref y2) (C := RX1) (T := TX1) (N := 16) hx hb hts hin hown hK hP 0 rfl rfl 1 (by decide) hw_1 (fun _ h9 => h9) rfl dX1_review_53 ?_
        refine lv_bipush (v := 12) hx hb dX1_review_56 (by decide) ?_
        refine lv_iload_n hx hb dX1_review_58 rfl (lv_at hl 1 rfl) ?_
        refine lv_imul hx hb dX1_review_59 ?_
        refine lv_iload_n hx hb dX1_review_60 rfl (lv_at hl 2 rfl) ?_
        refine lv_iadd hx hb dX1_review_61 ?_
        obtain ⟨h_24, h⟩ := ix_some h
        refine va_iald hx hb hK hP 2 0 rfl rfl h_24 dX1_review_62 ?_
        refine lv_isub hx hb dX1_review_63 ?_
        refine lv_istore_n (lv' := [(3, .int (ti - (si (Int32.toNatClampNeg ((12 * a1) + a2))))), (0, .ref y0), (1, .int a1), (2, .int a2)]) hx hb dX1_review_64 rfl hl (by decide) rfl (fun ls hl => ?_)
        refine lv_aload_n hx hb dX1_review_65 rfl (lv_at hl 1 rfl) ?_
        refine va_get (D := D) (ci := 1) (v := .ref y2) (C := RX1) (T := TX1) (N := 16) hx hb hts hin hown hK hP 0 rfl rfl 1 (by decide) hw_1 (fun _ h9 => h9) rfl dX1_review_66 ?_
        refine lv_bipush (v := 12) hx hb dX1_review_69 (by decide) ?_
        refine lv_iload_n hx hb dX1_review_71 rfl (lv_at hl 2 rfl) ?_
        refine lv_imul hx hb dX1_review_72 ?_
        refine lv_iload_n hx hb dX1_review_73 rfl (lv_at hl 3 rfl) ?_
        refine lv_iadd hx hb dX1_review_74 ?_
        refine lv_aload_n hx hb dX1_review_75 rfl (lv_at hl 1 rfl) ?_
        refine va_get (D := D) (ci := 1) (v := .int ti) (C := RX1) (T := TX1) (N := 16) hx hb hts hin hown hK hP 0 rfl rfl 12 (by decide) hw_0 (fun _ h9 => h9) rfl dX1_review_76 ?_
        refine va_iast hx hb hK hP hD hS 2 0 rfl rfl h_24 dX1_review_79 (fun H locs hP hD hS => ?_)
        have hP : va_P D vwCl (wY cI cJ y0 y1 y2 y3 y4 y5 y6 y7 y8 hs (upd si (Int32.toNatClampNeg ((12 * a1) + a2)) ti) ag la fo co cv ta rc ec su pe ti mn nu th_21) H := hP
        have hD : va_D A (wY cI cJ y0 y1 y2 y3 y4 y5 y6 y7 y8 hs (upd si (Int32.toNatClampNeg ((12 * a1) + a2)) ti) ag la fo co cv ta rc ec su pe ti mn nu th_21) := hD
        refine lv_iload_n hx hb dX1_review_80 rfl (lv_at hl 0 rfl) ?_
        cases h
        exact W.iret hx hb hr (fun t ht hW => ⟨⟨_, (), rfl, rfl, by rw [ht]; exact hP, va_K.moved hW.alike hK, hD⟩, hS.F ht⟩) hS.2.2 dX1_review_81
      · replace h := (if_neg c_23).symm.trans h
        refine lv_iconst (v := (-1)) hx hb dX1_review_46 (by decide) ?_
        cases h
        exact W.iret hx hb hr (fun t ht hW => ⟨⟨_, (), rfl, rfl, by rw [ht]; exact hP, va_K.moved hW.alike hK, hD⟩, hS.F ht⟩) hS.2.2 dX1_review_47
-- X1_old
def m_X1_old_5 (fu : Nat) (hs : Nat → Int32) (si : Nat → Int32) (pe : Int32) (a1 : Int32) (a2 : Int32) : Nat → Int32 → Int32 → Option ((Int32))
  | 0, _, _ => none
  | n + 1, v3, v4 => (if 12 ≤ v4 then some v3 else (ix a1 8 (if (m_X1_isIn (hs (Int32.toNatClampNeg a1)) v4) = 0 then (m_X1_old_5 fu hs si pe a1 a2 n (v3 ||| 0) (v4 + 1)) else (ix ((12 * a1) + v4) 96 (if (a2 - (si (Int32.toNatClampNeg ((12 * a1) + v4)))) < pe then (m_X1_old_5 fu hs si pe a1 a2 n (v3 ||| 0) (v4 + 1)) else (m_X1_old_5 fu hs si pe a1 a2 n (v3 ||| (1 <<< (v4 &&& 31))) (v4 + 1)))))))
def m_X1_old (fu : Nat) (hs : Nat → Int32) (si : Nat → Int32) (pe : Int32) (a1 : Int32) (a2 : Int32) : Option ((Int32)) := (m_X1_old_5 fu hs si pe a1 a2 fu 0 0)
set_option maxHeartbeats 4000000 in
set_option maxRecDepth 100000 in
theorem c_X1_old (l : Launch) (D : va_G) (cI cJ : ClassId) (y0 y1 y2 y3 y4 y5 y6 y7 y8 : Nat) (sz : Nat) (hs : Nat → Int32) (si : Nat → Int32) (ag : Nat → Int32) (la : Nat → Int32) (fo : Nat → Int32) (co : Nat → Int32) (cv : Nat → Int32) (ta : Nat → Int32) (rc : Int32) (ec : Int32) (su : Int32) (pe : Int32) (ti : Int32) (mn : Int32) (nu : Int32) (th : Int32) (fu : Nat) (a1 : Int32) (a2 : Int32) (r0 : Int32) (h : m_X1_old fu hs si pe a1 a2 = some r0) : Met l yX1_old wsX1_old ({ frames := 1, cells := 0, slots := 0, locals := 22 }) (va_Pc [.ref y0, .int a1, .int a2] (bx_Pre D [(cI, .int), (cJ, .long)] (wY cI cJ y0 y1 y2 y3 y4 y5 y6 y7 y8 hs si ag la fo co cv ta rc ec su pe ti mn nu th) sz)) (va_Qi (fun (r : Int32) (_ : Unit) => r = r0) (fun (_ : Unit) t => bx_Post D [(cI, .int), (cJ, .long)] (wY cI cJ y0 y1 y2 y3 y4 y5 y6 y7 y8 hs si ag la fo co cv ta rc ec su pe ti mn nu th) (va_A (wY cI cJ y0 y1 y2 y3 y4 y5 y6 y7 y8 hs si ag la fo co cv ta rc ec su pe ti mn nu th) sz) t) (va_A (wY cI cJ y0 y1 y2 y3 y4 y5 y6 y7 y8 hs si ag la fo co cv ta rc ec su pe ti mn nu th) sz)) 0 0 (va_A (wY cI cJ y0 y1 y2 y3 y4 y5 y6 y7 y8 hs si ag la fo co cv ta rc ec su pe ti mn nu th) sz) := by
  refine Met.ofW (cc := cX1_old) (maxL := 5) (ret := (some .int)) (by decide) rfl ?_
  intro p e s m args below meth c s₁ B hml hv
  obtain ⟨rfl, hsz, hP, hK, hD0⟩ := hv
  have hx := B.exec
  have hb := B.bytes
  have hr := B.returns
  have hts := atoms_spec (ws := wsX1_old) B.pre
  have hown : s.vm.findClass RX1 = some m.cls := findClass_of_methodNamed B.named
  have hlocks := B.notSynchronized
  subst hsz
  have hD := hD0.self (sz := s.heap.size)
  generalize hAe : va_A (wY cI cJ y0 y1 y2 y3 y4 y5 y6 y7 y8 hs si ag la fo co cv ta rc ec su pe ti mn nu th) s.heap.size = A at hD ⊢
  have hA : ∀ q : Nat, s.heap.size ≤ q → A q := fun q h9 => by rw [← hAe]; exact Or.inr h9
  have hS : va_S A s.heap s.heap [] := va_S.rf
  have hin : ∀ w ∈ wsX10, w ∈ wsX1_old := fun _ h9 => List.mem_cons_of_mem _ (List.mem_append_right _ h9)
  have hw_0 := hts (.fieldLink RX1 7 "RoleMinerModel" "has" "[I") (by decide +kernel)
  have hw_1 := hts (.fieldLink RX1 13 "RoleMinerModel" "since" "[I") (by decide +kernel)
  have hw_2 := hts (.fieldLink RX1 44 "RoleMinerModel" "period" "I") (by decide +kernel)
  have hl := lv_entry ([.ref y0, .int a1, .int a2]) (n := 5) (Nat.le_of_ble_eq_true rfl)
  rw [lg_entry_eq]
  generalize (lg_sl ([.ref y0, .int a1, .int a2]) ++ List.replicate (5 - (lg_sl ([.ref y0, .int a1, .int a2])).length) Slot.unset).toArray = ls at hl ⊢
  have hl : lv_has ls 5 [(0, .ref y0), (1, .int a1), (2, .int a2)] := hl
  have L5 : ∀ (n : Nat) (v3 : Int32) (v4 : Int32) (H : Heap) (locs : List Loc) (ls : Array Slot), m_X1_old_5 fu hs si pe a1 a2 n v3 v4 = some r0 → va_P D vwCl (wY cI cJ y0 y1 y2 y3 y4 y5 y6 y7 y8 hs si ag la fo co cv ta rc ec su pe ti mn nu th) H → va_D A (wY cI cJ y0 y1 y2 y3 y4 y5 y6 y7 y8 hs si ag la fo co cv ta rc ec su pe ti mn nu th) → va_S A s.heap H locs → lv_has ls 5 [(0, .ref y0), (1, .int a1), (2, .int a2), (3, .int v3), (4, .int v4)] → W p l e (headSpec wsX1_old ({ frames := 1, cells := 0, slots := 0, locals := 22 })).room s m ([.ref y0, .int a1, .int a2] : List Value).toArray below meth c H locs 0 0 (MQ below (va_Qi (fun (r : Int32) (_ : Unit) => r = r0) (fun (_ : Unit) t => bx_Post D [(cI, .int), (cJ, .long)] (wY cI cJ y0 y1 y2 y3 y4 y5 y6 y7 y8 hs si ag la fo co cv ta rc ec su pe ti mn nu th) A t) A) ([.ref y0, .int a1, .int a2] : List Value).toArray s 0 0 A) (F0 m 5 ls []) := by
    intro n
    induction n with
    | zero =>
      intro v3 v4 H locs ls h
      rw [m_X1_old_5] at h
      cases h
    | succ n ih =>
      intro v3 v4 H locs ls h hP hD hS hl
      rw [m_X1_old_5] at h
      refine lv_iload hx hb dX1_old_5 (lv_at hl 4 rfl) ?_
      refine lv_bipush (v := 12) hx hb dX1_old_7 (by decide) ?_
      refine lv_icmp_ge (tgt := 65) hx hb dX1_old_9 (by decide) (fun c_1 => ?_) (fun c_1 => ?_)
      · replace h := (if_pos c_1).symm.trans h
        refine lv_iload_n hx hb dX1_old_65 rfl (lv_at hl 3 rfl) ?_
        cases h
        exact W.iret hx hb hr (fun t ht hW => ⟨⟨_, (), rfl, rfl, by rw [ht]; exact hP, va_K.moved hW.alike hK, hD⟩, hS.F ht⟩) hS.2.2 dX1_old_66
      · replace h := (if_neg c_1).symm.trans h
        refine lv_iload_n hx hb dX1_old_12 rfl (lv_at hl 3 rfl) ?_
        refine lv_aload_n hx hb dX1_old_13 rfl (lv_at hl 0 rfl) ?_
        refine lv_aload_n hx hb dX1_old_14 rfl (lv_at hl 0 rfl) ?_
        refine va_get (D := D) (ci := 1) (v := .ref y1) (C := RX1) (T := TX1) (N := 16) hx hb hts hin hown hK hP 0 rfl rfl 0 (by decide) hw_0 (fun _ h9 => h9) rfl dX1_old_15 ?_
        refine lv_iload_n hx hb dX1_old_18 rfl (lv_at hl 1 rfl) ?_
        obtain ⟨h_2, h⟩ := ix_some h
        refine va_iald hx hb hK hP 1 0 rfl rfl h_2 dX1_old_19 ?_
        refine lv_iload hx hb dX1_old_20 (lv_at hl 4 rfl) ?_
        refine cl_Vi (As := [.int (hs (Int32.toNatClampNeg a1)), .int v4]) (rest := [.int v3]) (wc := wY cI cJ y0 y1 y2 y3 y4 y5 y6 y7 y8 hs si ag la fo co cv ta rc ec su pe ti mn nu th) (w1 := wY cI cJ y0 y1 y2 y3 y4 y5 y6 y7 y8 hs si ag la fo co cv ta rc ec su pe ti mn nu th) (wr := []) ⟨hx, hb, hml, hown, hts⟩ (c_X1_isIn l D cI cJ y0 y1 y2 y3 y4 y5 y6 y7 y8 _ hs si ag la fo co cv ta rc ec su pe ti mn nu th (hs (Int32.toNatClampNeg a1)) v4) (cwV 2 hts gX1_old_X1_isIn rfl rfl rfl (by decide +kernel) ⟨Nat.le_of_ble_eq_true rfl, Nat.le_of_ble_eq_true rfl⟩) hK hP hD hS hA [0, 1, 2, 3, 4, 5, 6, 7, 8] [] rfl rfl (by decide) (by decide) rfl rfl rfl rfl rfl hl.1 rfl (lv_room (Nat.le_of_ble_eq_true rfl)) dX1_old_22 (fun H locs hP hD hS => ?_)
        have hP : va_P D vwCl (wY cI cJ y0 y1 y2 y3 y4 y5 y6 y7 y8 hs si ag la fo co cv ta rc ec su pe ti mn nu th) H := hP
        have hD : va_D A (wY cI cJ y0 y1 y2 y3 y4 y5 y6 y7 y8 hs si ag la fo co cv ta rc ec su pe ti mn nu th) := hD
        refine lv_if_eq (tgt := 56) hx hb dX1_old_25 (by decide) (fun c_3 => ?_) (fun c_3 => ?_)
        · replace h := (if_pos c_3).symm.trans h
          refine lv_iconst (v := 0) hx hb dX1_old_56 (by decide) ?_
          refine lv_ior hx hb dX1_old_57 ?_
          refine lv_istore_n (lv' := [(3, .int (v3 ||| 0)), (0, .ref y0), (1, .int a1), (2, .int a2), (4, .int v4)]) hx hb dX1_old_58 rfl hl (by decide) rfl (fun ls hl => ?_)
          refine lv_iinc (v := (v4 + 1)) (lv' := [(4, .int (v4 + 1)), (3, .int (v3 ||| 0)), (0, .ref y0), (1, .int a1), (2, .int a2)]) hx hb dX1_old_59 hl (k := 4) rfl rfl (by decide) rfl (fun ls hl => ?_)
          refine lv_goto (tgt := 5) hx hb dX1_old_62 (by decide) ?_
          exact ih (v3 ||| 0) (v4 + 1) _ _ _ h hP hD hS (lv_sub hl [2, 3, 4, 1, 0] rfl)
        · replace h := (if_neg c_3).symm.trans h
          refine lv_iload_n hx hb dX1_old_28 rfl (lv_at hl 2 rfl) ?_
          refine lv_aload_n hx hb dX1_old_29 rfl (lv_at hl 0 rfl) ?_
          refine va_get (D := D) (ci := 1) (v := .ref y2) (C := RX1) (T := TX1) (N := 16) hx hb hts hin hown hK hP 0 rfl rfl 1 (by decide) hw_1 (fun _ h9 => h9) rfl dX1_old_30 ?_
          refine lv_bipush (v := 12) hx hb dX1_old_33 (by decide) ?_
          refine lv_iload_n hx hb dX1_old_35 rfl (lv_at hl 1 rfl) ?_
          refine lv_imul hx hb dX1_old_36 ?_
          refine lv_iload hx hb dX1_old_37 (lv_at hl 4 rfl) ?_
          refine lv_iadd hx hb dX1_old_39 ?_
          obtain ⟨h_4, h⟩ := ix_some h
          refine va_iald hx hb hK hP 2 0 rfl rfl h_4 dX1_old_40 ?_
          refine lv_isub hx hb dX1_old_41 ?_
          refine lv_aload_n hx hb dX1_old_42 rfl (lv_at hl 0 rfl) ?_
          refine va_get (D := D) (ci := 1) (v := .int pe) (C := RX1) (T := TX1) (N := 16) hx hb hts hin hown hK hP 0 rfl rfl 11 (by decide) hw_2 (fun _ h9 => h9) rfl dX1_old_43 ?_
          refine lv_icmp_lt (tgt := 56) hx hb dX1_old_46 (by decide) (fun c_5 => ?_) (fun c_5 => ?_)
          · replace h := (if_pos c_5).symm.trans h
            refine lv_iconst (v := 0) hx hb dX1_old_56 (by decide) ?_
            refine lv_ior hx hb dX1_old_57 ?_
            refine lv_istore_n (lv' := [(3, .int (v3 ||| 0)), (0, .ref y0), (1, .int a1), (2, .int a2), (4, .int v4)]) hx hb dX1_old_58 rfl hl (by decide) rfl (fun ls hl => ?_)
            refine lv_iinc (v := (v4 + 1)) (lv' := [(4, .int (v4 + 1)), (3, .int (v3 ||| 0)), (0, .ref y0), (1, .int a1), (2, .int a2)]) hx hb dX1_old_59 hl (k := 4) rfl rfl (by decide) rfl (fun ls hl => ?_)
            refine lv_goto (tgt := 5) hx hb dX1_old_62 (by decide) ?_
            exact ih (v3 ||| 0) (v4 + 1) _ _ _ h hP hD hS (lv_sub hl [2, 3, 4, 1, 0] rfl)
          · replace h := (if_neg c_5).symm.trans h
            refine lv_iconst (v := 1) hx hb dX1_old_49 (by decide) ?_
            refine lv_iload hx hb dX1_old_50 (lv_at hl 4 rfl) ?_
            refine lv_ishl hx hb dX1_old_52 ?_
            refine lv_goto (tgt := 57) hx hb dX1_old_53 (by decide) ?_
            refine lv_ior hx hb dX1_old_57 ?_
            refine lv_istore_n (lv' := [(3, .int (v3 ||| (1 <<< (v4 &&& 31)))), (0, .ref y0), (1, .int a1), (2, .int a2), (4, .int v4)]) hx hb dX1_old_58 rfl hl (by decide) rfl (fun ls hl => ?_)
            refine lv_iinc (v := (v4 + 1)) (lv' := [(4, .int (v4 + 1)), (3, .int (v3 ||| (1 <<< (v4 &&& 31)))), (0, .ref y0), (1, .int a1), (2, .int a2)]) hx hb dX1_old_59 hl (k := 4) rfl rfl (by decide) rfl (fun ls hl => ?_)
            refine lv_goto (tgt := 5) hx hb dX1_old_62 (by decide) ?_
            exact ih (v3 ||| (1 <<< (v4 &&& 31))) (v4 + 1) _ _ _ h hP hD hS (lv_sub hl [2, 3, 4, 1, 0] rfl)
  rw [m_X1_old] at h
  refine lv_iconst (v := 0) hx hb dX1_old_0 (by decide) ?_
  refine lv_istore_n (lv' := [(3, .int 0), (0, .ref y0), (1, .int a1), (2, .int a2)]) hx hb dX1_old_1 rfl hl (by decide) rfl (fun ls hl => ?_)
  refine lv_iconst (v := 0) hx hb dX1_old_2 (by decide) ?_
  refine lv_istore (lv' := [(4, .int 0), (3, .int 0), (0, .ref y0), (1, .int a1), (2, .int a2)]) hx hb dX1_old_3 hl (by decide) rfl (fun ls hl => ?_)
  exact L5 fu 0 0 _ _ _ h hP hD hS (lv_sub hl [2, 3, 4, 1, 0] rfl)
-- X1_nextQuarter
def m_X1_nextQuarter_37 (fu : Nat) (si : Nat → Int32) (pe : Int32) : Nat → Int32 → Int32 → (Nat → Int32) → (Int32) → (Int32) → Option ((Int32) × ((Nat → Int32)) × ((Int32)) × ((Int32)))
  | 0, _, _, _, _, _ => none
  | n + 1, v1, v2, hs, ti, th => (if 8 ≤ v2 then some (v1, hs, ti, th) else (bnd1 (m_X1_old fu hs si pe v2 ti) (fun r_11 => (bnd1 (m_X1_size fu r_11) (fun r_13 => (ix v2 8 (m_X1_nextQuarter_37 fu si pe n (v1 + r_13) (v2 + 1) (upd hs (Int32.toNatClampNeg v2) ((hs (Int32.toNatClampNeg v2)) &&& (r_11 ^^^ (-1)))) ti th)))))))
def m_X1_nextQuarter (fu : Nat) (hs : Nat → Int32) (si : Nat → Int32) (pe : Int32) (ti : Int32) (th : Int32) : Option ((Int32) × ((Nat → Int32)) × ((Int32)) × ((Int32))) := (if ti = 100 then (bnd2 (m_X1_holds th 1) (fun r_6 th_7 => (if r_6 = 0 then (m_X1_nextQuarter_37 fu si pe fu 0 0 hs (ti + 1) th_7) else some ((-1), hs, ti, th_7)))) else (bnd2 (m_X1_holds th 0) (fun r_2 th_3 => (if r_2 = 0 then (m_X1_nextQuarter_37 fu si pe fu 0 0 hs (ti + 1) th_3) else some ((-1), hs, ti, th_3)))))
set_option maxHeartbeats 4000000 in
set_option maxRecDepth 100000 in
theorem c_X1_nextQuarter (l : Launch) (D : va_G) (cI cJ : ClassId) (y0 y1 y2 y3 y4 y5 y6 y7 y8 : Nat) (sz : Nat) (hs : Nat → Int32) (si : Nat → Int32) (ag : Nat → Int32) (la : Nat → Int32) (fo : Nat → Int32) (co : Nat → Int32) (cv : Nat → Int32) (ta : Nat → Int32) (rc : Int32) (ec : Int32) (su : Int32) (pe : Int32) (ti : Int32) (mn : Int32) (nu : Int32) (th : Int32) (fu : Nat) (r0 : Int32) (hs' : Nat → Int32) (ti' : Int32) (th' : Int32) (h : m_X1_nextQuarter fu hs si pe ti th = some (r0, hs', ti', th')) : Met l yX1_nextQuarter wsX1_nextQuarter ({ frames := 2, cells := 0, slots := 0, locals := 46 }) (va_Pc [.ref y0] (bx_Pre D [(cI, .int), (cJ, .long)] (wY cI cJ y0 y1 y2 y3 y4 y5 y6 y7 y8 hs si ag la fo co cv ta rc ec su pe ti mn nu th) sz)) (va_Qi (fun (r : Int32) (_ : Unit) => r = r0) (fun (_ : Unit) t => bx_Post D [(cI, .int), (cJ, .long)] (wY cI cJ y0 y1 y2 y3 y4 y5 y6 y7 y8 hs' si ag la fo co cv ta rc ec su pe ti' mn nu th') (va_A (wY cI cJ y0 y1 y2 y3 y4 y5 y6 y7 y8 hs si ag la fo co cv ta rc ec su pe ti mn nu th) sz) t) (va_A (wY cI cJ y0 y1 y2 y3 y4 y5 y6 y7 y8 hs si ag la fo co cv ta rc ec su pe ti mn nu th) sz)) 0 0 (va_A (wY cI cJ y0 y1 y2 y3 y4 y5 y6 y7 y8 hs si ag la fo co cv ta rc ec su pe ti mn nu th) sz) := by
  refine Met.ofW (cc := cX1_nextQuarter) (maxL := 4) (ret := (some .int)) (by decide) rfl ?_
  intro p e s m args below meth c s₁ B hml hv
  obtain ⟨rfl, hsz, hP, hK, hD0⟩ := hv
  have hx := B.exec
  have hb := B.bytes
  have hr := B.returns
  have hts := atoms_spec (ws := wsX1_nextQuarter) B.pre
  have hown : s.vm.findClass RX1 = some m.cls := findClass_of_methodNamed B.named
  have hlocks := B.notSynchronized
  subst hsz
  have hD := hD0.self (sz := s.heap.size)
  generalize hAe : va_A (wY cI cJ y0 y1 y2 y3 y4 y5 y6 y7 y8 hs si ag la fo co cv ta rc ec su pe ti mn nu th) s.heap.size = A at hD ⊢
  have hA : ∀ q : Nat, s.heap.size ≤ q → A q := fun q h9 => by rw [← hAe]; exact Or.inr h9
  have hS : va_S A s.heap s.heap [] := va_S.rf
  have hin : ∀ w ∈ wsX10, w ∈ wsX1_nextQuarter := fun _ h9 => List.mem_cons_of_mem _ (List.mem_append_right _ h9)
  have hw_0 := hts (.fieldLink RX1 61 "RoleMinerModel" "time" "I") (by decide +kernel)
  have hw_1 := hts (.fieldLink RX1 7 "RoleMinerModel" "has" "[I") (by decide +kernel)
  have hl := lv_entry ([.ref y0]) (n := 4) (Nat.le_of_ble_eq_true rfl)
  rw [lg_entry_eq]
  generalize (lg_sl ([.ref y0]) ++ List.replicate (4 - (lg_sl ([.ref y0])).length) Slot.unset).toArray = ls at hl ⊢
  have hl : lv_has ls 4 [(0, .ref y0)] := hl
  have L37 : ∀ (n : Nat) (v1 : Int32) (v2 : Int32) (hs : Nat → Int32) (ti : Int32) (th : Int32) (H : Heap) (locs : List Loc) (ls : Array Slot), m_X1_nextQuarter_37 fu si pe n v1 v2 hs ti th = some (r0, hs', ti', th') → va_P D vwCl (wY cI cJ y0 y1 y2 y3 y4 y5 y6 y7 y8 hs si ag la fo co cv ta rc ec su pe ti mn nu th) H → va_D A (wY cI cJ y0 y1 y2 y3 y4 y5 y6 y7 y8 hs si ag la fo co cv ta rc ec su pe ti mn nu th) → va_S A s.heap H locs → lv_has ls 4 [(0, .ref y0), (1, .int v1), (2, .int v2)] → W p l e (headSpec wsX1_nextQuarter ({ frames := 2, cells := 0, slots := 0, locals := 46 })).room s m ([.ref y0] : List Value).toArray below meth c H locs 0 0 (MQ below (va_Qi (fun (r : Int32) (_ : Unit) => r = r0) (fun (_ : Unit) t => bx_Post D [(cI, .int), (cJ, .long)] (wY cI cJ y0 y1 y2 y3 y4 y5 y6 y7 y8 hs' si ag la fo co cv ta rc ec su pe ti' mn nu th') A t) A) ([.ref y0] : List Value).toArray s 0 0 A) (F0 m 37 ls []) := by
    intro n
    induction n with
    | zero =>
      intro v1 v2 hs ti th H locs ls h
      rw [m_X1_nextQuarter_37] at h
      cases h
    | succ n ih =>
      intro v1 v2 hs ti th H locs ls h hP hD hS hl
      rw [m_X1_nextQuarter_37] at h
      refine lv_iload_n hx hb dX1_nextQuarter_37 rfl (lv_at hl 2 rfl) ?_
      refine lv_bipush (v := 8) hx hb dX1_nextQuarter_38 (by decide) ?_
      refine lv_icmp_ge (tgt := 79) hx hb dX1_nextQuarter_40 (by decide) (fun c_10 => ?_) (fun c_10 => ?_)
      · replace h := (if_pos c_10).symm.trans h
        refine lv_iload_n hx hb dX1_nextQuarter_79 rfl (lv_at hl 1 rfl) ?_
        cases h
        exact W.iret hx hb hr (fun t ht hW => ⟨⟨_, (), rfl, rfl, by rw [ht]; exact hP, va_K.moved hW.alike hK, hD⟩, hS.F ht⟩) hS.2.2 dX1_nextQuarter_80
      · replace h := (if_neg c_10).symm.trans h
        refine lv_aload_n hx hb dX1_nextQuarter_43 rfl (lv_at hl 0 rfl) ?_
        refine lv_iload_n hx hb dX1_nextQuarter_44 rfl (lv_at hl 2 rfl) ?_
        refine lv_aload_n hx hb dX1_nextQuarter_45 rfl (lv_at hl 0 rfl) ?_
        refine va_get (D := D) (ci := 1) (v := .int ti) (C := RX1) (T := TX1) (N := 16) hx hb hts hin hown hK hP 0 rfl rfl 12 (by decide) hw_0 (fun _ h9 => h9) rfl dX1_nextQuarter_46 ?_
        obtain ⟨r_11, e_12, h⟩ := bnd1_some h
        refine cl_Vi (As := [.int v2, .int ti]) (rest := []) (wc := wY cI cJ y0 y1 y2 y3 y4 y5 y6 y7 y8 hs si ag la fo co cv ta rc ec su pe ti mn nu th) (w1 := wY cI cJ y0 y1 y2 y3 y4 y5 y6 y7 y8 hs si ag la fo co cv ta rc ec su pe ti mn nu th) (wr := []) ⟨hx, hb, hml, hown, hts⟩ (c_X1_old l D cI cJ y0 y1 y2 y3 y4 y5 y6 y7 y8 _ hs si ag la fo co cv ta rc ec su pe ti mn nu th fu v2 ti r_11 e_12) (cwV 2 hts gX1_nextQuarter_X1_old rfl rfl rfl (by decide +kernel) ⟨Nat.le_of_ble_eq_true rfl, Nat.le_of_ble_eq_true rfl⟩) hK hP hD hS hA [0, 1, 2, 3, 4, 5, 6, 7, 8] [] rfl rfl (by decide) (by decide) rfl rfl rfl rfl rfl hl.1 rfl (lv_room (Nat.le_of_ble_eq_true rfl)) dX1_nextQuarter_49 (fun H locs hP hD hS => ?_)
        have hP : va_P D vwCl (wY cI cJ y0 y1 y2 y3 y4 y5 y6 y7 y8 hs si ag la fo co cv ta rc ec su pe ti mn nu th) H := hP
        have hD : va_D A (wY cI cJ y0 y1 y2 y3 y4 y5 y6 y7 y8 hs si ag la fo co cv ta rc ec su pe ti mn nu th) := hD
        refine lv_istore_n (lv' := [(3, .int r_11), (0, .ref y0), (1, .int v1), (2, .int v2)]) hx hb dX1_nextQuarter_52 rfl hl (by decide) rfl (fun ls hl => ?_)
        refine lv_iload_n hx hb dX1_nextQuarter_53 rfl (lv_at hl 2 rfl) ?_
        refine lv_aload_n hx hb dX1_nextQuarter_54 rfl (lv_at hl 1 rfl) ?_
        refine lv_iload_n hx hb dX1_nextQuarter_55 rfl (lv_at hl 0 rfl) ?_
        obtain ⟨r_13, e_14, h⟩ := bnd1_some h
        refine cl_Vi (As := [.int r_11]) (rest := [.int v1]) (wc := wY cI cJ y0 y1 y2 y3 y4 y5 y6 y7 y8 hs si ag la fo co cv ta rc ec su pe ti mn nu th) (w1 := wY cI cJ y0 y1 y2 y3 y4 y5 y6 y7 y8 hs si ag la fo co cv ta rc ec su pe ti mn nu th) (wr := []) ⟨hx, hb, hml, hown, hts⟩ (c_X1_size l D cI cJ y0 y1 y2 y3 y4 y5 y6 y7 y8 _ hs si ag la fo co cv ta rc ec su pe ti mn nu th fu r_11 r_13 e_14) (cwV 1 hts gX1_nextQuarter_X1_size rfl rfl rfl (by decide +kernel) ⟨Nat.le_of_ble_eq_true rfl, Nat.le_of_ble_eq_true rfl⟩) hK hP hD hS hA [0, 1, 2, 3, 4, 5, 6, 7, 8] [] rfl rfl (by decide) (by decide) rfl rfl rfl rfl rfl hl.1 rfl (lv_room (Nat.le_of_ble_eq_true rfl)) dX1_nextQuarter_56 (fun H locs hP hD hS => ?_)
        have hP : va_P D vwCl (wY cI cJ y0 y1 y2 y3 y4 y5 y6 y7 y8 hs si ag la fo co cv ta rc ec su pe ti mn nu th) H := hP
        have hD : va_D A (wY cI cJ y0 y1 y2 y3 y4 y5 y6 y7 y8 hs si ag la fo co cv ta rc ec su pe ti mn nu th) := hD
        refine lv_iadd hx hb dX1_nextQuarter_59 ?_
        refine lv_istore_n (lv' := [(1, .int (v1 + r_13)), (3, .int r_11), (0, .ref y0), (2, .int v2)]) hx hb dX1_nextQuarter_60 rfl hl (by decide) rfl (fun ls hl => ?_)
        refine lv_aload_n hx hb dX1_nextQuarter_61 rfl (lv_at hl 2 rfl) ?_
        refine va_get (D := D) (ci := 1) (v := .ref y1) (C := RX1) (T := TX1) (N := 16) hx hb hts hin hown hK hP 0 rfl rfl 0 (by decide) hw_1 (fun _ h9 => h9) rfl dX1_nextQuarter_62 ?_
        refine lv_iload_n hx hb dX1_nextQuarter_65 rfl (lv_at hl 3 rfl) ?_
        refine lv_dup2_11 hx hb dX1_nextQuarter_66 rfl rfl ?_
        obtain ⟨h_15, h⟩ := ix_some h
        refine va_iald hx hb hK hP 1 0 rfl rfl h_15 dX1_nextQuarter_67 ?_
        refine lv_iload_n hx hb dX1_nextQuarter_68 rfl (lv_at hl 1 rfl) ?_
        refine lv_iconst (v := (-1)) hx hb dX1_nextQuarter_69 (by decide) ?_
        refine lv_ixor hx hb dX1_nextQuarter_70 ?_
        refine lv_iand hx hb dX1_nextQuarter_71 ?_
        refine va_iast hx hb hK hP hD hS 1 0 rfl rfl h_15 dX1_nextQuarter_72 (fun H locs hP hD hS => ?_)
        have hP : va_P D vwCl (wY cI cJ y0 y1 y2 y3 y4 y5 y6 y7 y8 (upd hs (Int32.toNatClampNeg v2) ((hs (Int32.toNatClampNeg v2)) &&& (r_11 ^^^ (-1)))) si ag la fo co cv ta rc ec su pe ti mn nu th) H := hP
        have hD : va_D A (wY cI cJ y0 y1 y2 y3 y4 y5 y6 y7 y8 (upd hs (Int32.toNatClampNeg v2) ((hs (Int32.toNatClampNeg v2)) &&& (r_11 ^^^ (-1)))) si ag la fo co cv ta rc ec su pe ti mn nu th) := hD
        refine lv_iinc (v := (v2 + 1)) (lv' := [(2, .int (v2 + 1)), (1, .int (v1 + r_13)), (3, .int r_11), (0, .ref y0)]) hx hb dX1_nextQuarter_73 hl (k := 3) rfl rfl (by decide) rfl (fun ls hl => ?_)
        refine lv_goto (tgt := 37) hx hb dX1_nextQuarter_76 (by decide) ?_
        exact ih (v1 + r_13) (v2 + 1) (upd hs (Int32.toNatClampNeg v2) ((hs (Int32.toNatClampNeg v2)) &&& (r_11 ^^^ (-1)))) ti th _ _ _ h hP hD hS (lv_sub hl [3, 1, 0] rfl)
  rw [m_X1_nextQuarter] at h
  refine lv_aload_n hx hb dX1_nextQuarter_0 rfl (lv_at hl 0 rfl) ?_
  refine lv_aload_n hx hb dX1_nextQuarter_1 rfl (lv_at hl 0 rfl) ?_
  refine va_get (D := D) (ci := 1) (v := .int ti) (C := RX1) (T := TX1) (N := 16) hx hb hts hin hown hK hP 0 rfl rfl 12 (by decide) hw_0 (fun _ h9 => h9) rfl dX1_nextQuarter_2 ?_
  refine lv_bipush (v := 100) hx hb dX1_nextQuarter_5 (by decide) ?_
  refine lv_icmp_ne (tgt := 14) hx hb dX1_nextQuarter_7 (by decide) (fun c_1 => ?_) (fun c_1 => ?_)
  · replace h := (if_neg c_1).symm.trans h
    refine lv_iconst (v := 0) hx hb dX1_nextQuarter_14 (by decide) ?_
    obtain ⟨r_2, th_3, e_4, h⟩ := bnd2_some h
    refine cl_Vi (As := [.int 0]) (rest := []) (wc := wY cI cJ y0 y1 y2 y3 y4 y5 y6 y7 y8 hs si ag la fo co cv ta rc ec su pe ti mn nu th) (w1 := wY cI cJ y0 y1 y2 y3 y4 y5 y6 y7 y8 hs si ag la fo co cv ta rc ec su pe ti mn nu th_3) (wr := []) ⟨hx, hb, hml, hown, hts⟩ (c_X1_holds l D cI cJ y0 y1 y2 y3 y4 y5 y6 y7 y8 _ hs si ag la fo co cv ta rc ec su pe ti mn nu th 0 r_2 th_3 e_4) (cwV 1 hts gX1_nextQuarter_X1_holds rfl rfl rfl (by decide +kernel) ⟨Nat.le_of_ble_eq_true rfl, Nat.le_of_ble_eq_true rfl⟩) hK hP hD hS hA [0, 1, 2, 3, 4, 5, 6, 7, 8] [] rfl rfl (by decide) (by decide) rfl rfl rfl rfl rfl hl.1 rfl (lv_room (Nat.le_of_ble_eq_true rfl)) dX1_nextQuarter_15 (fun H locs hP hD hS => ?_)
    have hP : va_P D vwCl (wY cI cJ y0 y1 y2 y3 y4 y5 y6 y7 y8 hs si ag la fo co cv ta rc ec su pe ti mn nu th_3) H := hP
    have hD : va_D A (wY cI cJ y0 y1 y2 y3 y4 y5 y6 y7 y8 hs si ag la fo co cv ta rc ec su pe ti mn nu th_3) := hD
    refine lv_if_eq (tgt := 23) hx hb dX1_nextQuarter_18 (by decide) (fun c_5 => ?_) (fun c_5 => ?_)
    · replace h := (if_pos c_5).symm.trans h
      refine lv_aload_n hx hb dX1_nextQuarter_23 rfl (lv_at hl 0 rfl) ?_
      refine lv_dup hx hb dX1_nextQuarter_24 rfl ?_
      refine va_get (D := D) (ci := 1) (v := .int ti) (C := RX1) (T := TX1) (N := 16) hx hb hts hin hown hK hP 0 rfl rfl 12 (by decide) hw_0 (fun _ h9 => h9) rfl dX1_nextQuarter_25 ?_
      refine lv_iconst (v := 1) hx hb dX1_nextQuarter_28 (by decide) ?_
      refine lv_iadd hx hb dX1_nextQuarter_29 ?_
      refine va_put (D := D) (ci := 1) (v := .int (ti + 1)) (ty := .int) (C := RX1) (T := TX1) (N := 16) hx hb hts hin tyX1 tyX1_ok nmX1 hown hK hP hD hS 0 rfl rfl 12 (by decide) hw_0 (fun _ h9 => h9) rfl (by decide +kernel) rfl rfl (Nat.le_of_ble_eq_true rfl) dX1_nextQuarter_30 (fun H locs hP hD hS => ?_)
      have hP : va_P D vwCl (wY cI cJ y0 y1 y2 y3 y4 y5 y6 y7 y8 hs si ag la fo co cv ta rc ec su pe (ti + 1) mn nu th_3) H := hP
      have hD : va_D A (wY cI cJ y0 y1 y2 y3 y4 y5 y6 y7 y8 hs si ag la fo co cv ta rc ec su pe (ti + 1) mn nu th_3) := hD
      refine lv_iconst (v := 0) hx hb dX1_nextQuarter_33 (by decide) ?_
      refine lv_istore_n (lv' := [(1, .int 0), (0, .ref y0)]) hx hb dX1_nextQuarter_34 rfl hl (by decide) rfl (fun ls hl => ?_)
      refine lv_iconst (v := 0) hx hb dX1_nextQuarter_35 (by decide) ?_
      refine lv_istore_n (lv' := [(2, .int 0), (1, .int 0), (0, .ref y0)]) hx hb dX1_nextQuarter_36 rfl hl (by decide) rfl (fun ls hl => ?_)
      exact L37 fu 0 0 hs (ti + 1) th_3 _ _ _ h hP hD hS (lv_sub hl [2, 1, 0] rfl)
    · replace h := (if_neg c_5).symm.trans h
      refine lv_iconst (v := (-1)) hx hb dX1_nextQuarter_21 (by decide) ?_
      cases h
      exact W.iret hx hb hr (fun t ht hW => ⟨⟨_, (), rfl, rfl, by rw [ht]; exact hP, va_K.moved hW.alike hK, hD⟩, hS.F ht⟩) hS.2.2 dX1_nextQuarter_22
  · replace h := (if_pos c_1).symm.trans h
    refine lv_iconst (v := 1) hx hb dX1_nextQuarter_10 (by decide) ?_
    refine lv_goto (tgt := 15) hx hb dX1_nextQuarter_11 (by decide) ?_
    obtain ⟨r_6, th_7, e_8, h⟩ := bnd2_some h
    refine cl_Vi (As := [.int 1]) (rest := []) (wc := wY cI cJ y0 y1 y2 y3 y4 y5 y6 y7 y8 hs si ag la fo co cv ta rc ec su pe ti mn nu th) (w1 := wY cI cJ y0 y1 y2 y3 y4 y5 y6 y7 y8 hs si ag la fo co cv ta rc ec su pe ti mn nu th_7) (wr := []) ⟨hx, hb, hml, hown, hts⟩ (c_X1_holds l D cI cJ y0 y1 y2 y3 y4 y5 y6 y7 y8 _ hs si ag la fo co cv ta rc ec su pe ti mn nu th 1 r_6 th_7 e_8) (cwV 1 hts gX1_nextQuarter_X1_holds rfl rfl rfl (by decide +kernel) ⟨Nat.le_of_ble_eq_true rfl, Nat.le_of_ble_eq_true rfl⟩) hK hP hD hS hA [0, 1, 2, 3, 4, 5, 6, 7, 8] [] rfl rfl (by decide) (by decide) rfl rfl rfl rfl rfl hl.1 rfl (lv_room (Nat.le_of_ble_eq_true rfl)) dX1_nextQuarter_15 (fun H locs hP hD hS => ?_)
    have hP : va_P D vwCl (wY cI cJ y0 y1 y2 y3 y4 y5 y6 y7 y8 hs si ag la fo co cv ta rc ec su pe ti mn nu th_7) H := hP
    have hD : va_D A (wY cI cJ y0 y1 y2 y3 y4 y5 y6 y7 y8 hs si ag la fo co cv ta rc ec su pe ti mn nu th_7) := hD
    refine lv_if_eq (tgt := 23) hx hb dX1_nextQuarter_18 (by decide) (fun c_9 => ?_) (fun c_9 => ?_)
    · replace h := (if_pos c_9).symm.trans h
      refine lv_aload_n hx hb dX1_nextQuarter_23 rfl (lv_at hl 0 rfl) ?_
      refine lv_dup hx hb dX1_nextQuarter_24 rfl ?_
      refine va_get (D := D) (ci := 1) (v := .int ti) (C := RX1) (T := TX1) (N := 16) hx hb hts hin hown hK hP 0 rfl rfl 12 (by decide) hw_0 (fun _ h9 => h9) rfl dX1_nextQuarter_25 ?_
      refine lv_iconst (v := 1) hx hb dX1_nextQuarter_28 (by decide) ?_
      refine lv_iadd hx hb dX1_nextQuarter_29 ?_
      refine va_put (D := D) (ci := 1) (v := .int (ti + 1)) (ty := .int) (C := RX1) (T := TX1) (N := 16) hx hb hts hin tyX1 tyX1_ok nmX1 hown hK hP hD hS 0 rfl rfl 12 (by decide) hw_0 (fun _ h9 => h9) rfl (by decide +kernel) rfl rfl (Nat.le_of_ble_eq_true rfl) dX1_nextQuarter_30 (fun H locs hP hD hS => ?_)
      have hP : va_P D vwCl (wY cI cJ y0 y1 y2 y3 y4 y5 y6 y7 y8 hs si ag la fo co cv ta rc ec su pe (ti + 1) mn nu th_7) H := hP
      have hD : va_D A (wY cI cJ y0 y1 y2 y3 y4 y5 y6 y7 y8 hs si ag la fo co cv ta rc ec su pe (ti + 1) mn nu th_7) := hD
      refine lv_iconst (v := 0) hx hb dX1_nextQuarter_33 (by decide) ?_
      refine lv_istore_n (lv' := [(1, .int 0), (0, .ref y0)]) hx hb dX1_nextQuarter_34 rfl hl (by decide) rfl (fun ls hl => ?_)
      refine lv_iconst (v := 0) hx hb dX1_nextQuarter_35 (by decide) ?_
      refine lv_istore_n (lv' := [(2, .int 0), (1, .int 0), (0, .ref y0)]) hx hb dX1_nextQuarter_36 rfl hl (by decide) rfl (fun ls hl => ?_)
      exact L37 fu 0 0 hs (ti + 1) th_7 _ _ _ h hP hD hS (lv_sub hl [2, 1, 0] rfl)
    · replace h := (if_neg c_9).symm.trans h
      refine lv_iconst (v := (-1)) hx hb dX1_nextQuarter_21 (by decide) ?_
      cases h
      exact W.iret hx hb hr (fun t ht hW => ⟨⟨_, (), rfl, rfl, by rw [ht]; exact hP, va_K.moved hW.alike hK, hD⟩, hS.F ht⟩) hS.2.2 dX1_nextQuarter_22
-- X1_find
def m_X1_find_93 (fu : Nat) (hs : Nat → Int32) (ag : Nat → Int32) (su : Int32) : Nat → Int32 → (Nat → Int32) → (Nat → Int32) → (Int32) → Option (((Nat → Int32)) × ((Nat → Int32)) × ((Int32)))
  | 0, _, _, _, _ => none
  | n + 1, v1, fo, co, nu => (if 4096 ≤ v1 then some (fo, co, nu) else (ix v1 4096 (if (co (Int32.toNatClampNeg v1)) = 1 then (bnd1 (m_X1_isProper fu ag v1) (fun r_11 => (if r_11 = 0 then (m_X1_find_93 fu hs ag su n (v1 + 1) fo co nu) else (bnd1 (m_X1_whoHas fu hs v1) (fun r_14 => (bnd1 (m_X1_size fu r_14) (fun r_16 => (if r_16 < su then (m_X1_find_93 fu hs ag su n (v1 + 1) fo co nu) else (ix nu 256 (m_X1_find_93 fu hs ag su n (v1 + 1) (upd fo (Int32.toNatClampNeg nu) v1) co (nu + 1))))))))))) else (m_X1_find_93 fu hs ag su n (v1 + 1) fo co nu))))
def m_X1_find_24 (fu : Nat) (hs : Nat → Int32) (ag : Nat → Int32) (su : Int32) : Nat → Nat → Int32 → Int32 → Int32 → (Nat → Int32) → (Nat → Int32) → (Int32) → Option (((Nat → Int32)) × ((Nat → Int32)) × ((Int32)))
  | 0, _, _, _, _, _, _, _ => none
  | n + 1, tg, v1, v2, v3, fo, co, nu => if tg = 0 then (if 256 ≤ v1 then (m_X1_find_93 fu hs ag su fu 1 fo co 0) else (m_X1_find_24 fu hs ag su n 1 v1 4095 0 fo co nu)) else (if 8 ≤ v3 then (ix v2 4096 (m_X1_find_24 fu hs ag su n 0 (v1 + 1) 0 0 fo (upd co (Int32.toNatClampNeg v2) 1) nu)) else (if (m_X1_isIn v1 v3) = 0 then (m_X1_find_24 fu hs ag su n 1 v1 (v2 &&& 4095) (v3 + 1) fo co nu) else (ix v3 8 (m_X1_find_24 fu hs ag su n 1 v1 (v2 &&& (hs (Int32.toNatClampNeg v3))) (v3 + 1) fo co nu))))
def m_X1_find_2 (fu : Nat) (hs : Nat → Int32) (ag : Nat → Int32) (su : Int32) : Nat → Int32 → (Nat → Int32) → (Nat → Int32) → (Int32) → Option (((Nat → Int32)) × ((Nat → Int32)) × ((Int32)))
  | 0, _, _, _, _ => none
  | n + 1, v1, fo, co, nu => (if 4096 ≤ v1 then (m_X1_find_24 fu hs ag su fu 0 1 0 0 fo co nu) else (ix v1 4096 (m_X1_find_2 fu hs ag su n (v1 + 1) fo (upd co (Int32.toNatClampNeg v1) 0) nu)))
def m_X1_find (fu : Nat) (hs : Nat → Int32) (ag : Nat → Int32) (fo : Nat → Int32) (co : Nat → Int32) (su : Int32) (nu : Int32) : Option (((Nat → Int32)) × ((Nat → Int32)) × ((Int32))) := (m_X1_find_2 fu hs ag su fu 0 fo co nu)
set_option maxHeartbeats 4000000 in
set_option maxRecDepth 100000 in
theorem c_X1_find (l : Launch) (D : va_G) (cI cJ : ClassId) (y0 y1 y2 y3 y4 y5 y6 y7 y8 : Nat) (sz : Nat) (hs : Nat → Int32) (si : Nat → Int32) (ag : Nat → Int32) (la : Nat → Int32) (fo : Nat → Int32) (co : Nat → Int32) (cv : Nat → Int32) (ta : Nat → Int32) (rc : Int32) (ec : Int32) (su : Int32) (pe : Int32) (ti : Int32) (mn : Int32) (nu : Int32) (th : Int32) (fu : Nat) (fo' : Nat → Int32) (co' : Nat → Int32) (nu' : Int32) (h : m_X1_find fu hs ag fo co su nu = some (fo', co', nu')) : Met l yX1_find wsX1_find ({ frames := 2, cells := 0, slots := 0, locals := 45 }) (va_Pc [.ref y0] (bx_Pre D [(cI, .int), (cJ, .long)] (wY cI cJ y0 y1 y2 y3 y4 y5 y6 y7 y8 hs si ag la fo co cv ta rc ec su pe ti mn nu th) sz)) (va_Qv (fun (_ : Unit) => True) (fun (_ : Unit) t => bx_Post D [(cI, .int), (cJ, .long)] (wY cI cJ y0 y1 y2 y3 y4 y5 y6 y7 y8 hs si ag la fo' co' cv ta rc ec su pe ti mn nu' th) (va_A (wY cI cJ y0 y1 y2 y3 y4 y5 y6 y7 y8 hs si ag la fo co cv ta rc ec su pe ti mn nu th) sz) t) (va_A (wY cI cJ y0 y1 y2 y3 y4 y5 y6 y7 y8 hs si ag la fo co cv ta rc ec su pe ti mn nu th) sz)) 0 0 (va_A (wY cI cJ y0 y1 y2 y3 y4 y5 y6 y7 y8 hs si ag la fo co cv ta rc ec su pe ti mn nu th) sz) := by
  refine Met.ofW (cc := cX1_find) (maxL := 4) (ret := none) (by decide) rfl ?_
  intro p e s m args below meth c s₁ B hml hv
  obtain ⟨rfl, hsz, hP, hK, hD0⟩ := hv
  have hx := B.exec
  have hb := B.bytes
  have hr := B.returns
  have hts := atoms_spec (ws := wsX1_find) B.pre
  have hown : s.vm.findClass RX1 = some m.cls := findClass_of_methodNamed B.named
  have hlocks := B.notSynchronized
  subst hsz
  have hD := hD0.self (sz := s.heap.size)
  generalize hAe : va_A (wY cI cJ y0 y1 y2 y3 y4 y5 y6 y7 y8 hs si ag la fo co cv ta rc ec su pe ti mn nu th) s.heap.size = A at hD ⊢
  have hA : ∀ q : Nat, s.heap.size ≤ q → A q := fun q h9 => by rw [← hAe]; exact Or.inr h9
  have hS : va_S A s.heap s.heap [] := va_S.rf
  have hin : ∀ w ∈ wsX10, w ∈ wsX1_find := fun _ h9 => List.mem_cons_of_mem _ (List.mem_append_right _ h9)
  have hw_0 := hts (.fieldLink RX1 25 "RoleMinerModel" "common" "[I") (by decide +kernel)
  have hw_1 := hts (.fieldLink RX1 86 "RoleMinerModel" "number" "I") (by decide +kernel)
  have hw_2 := hts (.fieldLink RX1 7 "RoleMinerModel" "has" "[I") (by decide +kernel)
  have hw_3 := hts (.fieldLink RX1 41 "RoleMinerModel" "support" "I") (by decide +kernel)
  have hw_4 := hts (.fieldLink RX1 22 "RoleMinerModel" "found" "[I") (by decide +kernel)
  have hl := lv_entry ([.ref y0]) (n := 4) (Nat.le_of_ble_eq_true rfl)
  rw [lg_entry_eq]
  generalize (lg_sl ([.ref y0]) ++ List.replicate (4 - (lg_sl ([.ref y0])).length) Slot.unset).toArray = ls at hl ⊢
  have hl : lv_has ls 4 [(0, .ref y0)] := hl
  have L93 : ∀ (n : Nat) (v1 : Int32) (fo : Nat → Int32) (co : Nat → Int32) (nu : Int32) (H : Heap) (locs : List Loc) (ls : Array Slot), m_X1_find_93 fu hs ag su n v1 fo co nu = some (fo', co', nu') → va_P D vwCl (wY cI cJ y0 y1 y2 y3 y4 y5 y6 y7 y8 hs si ag la fo co cv ta rc ec su pe ti mn nu th) H → va_D A (wY cI cJ y0 y1 y2 y3 y4 y5 y6 y7 y8 hs si ag la fo co cv ta rc ec su pe ti mn nu th) → va_S A s.heap H locs → lv_has ls 4 [(0, .ref y0), (1, .int v1)] → W p l e (headSpec wsX1_find ({ frames := 2, cells := 0, slots := 0, locals := 45 })).room s m ([.ref y0] : List Value).toArray below meth c H locs 0 0 (MQ below (va_Qv (fun (_ : Unit) => True) (fun (_ : Unit) t => bx_Post D [(cI, .int), (cJ, .long)] (wY cI cJ y0 y1 y2 y3 y4 y5 y6 y7 y8 hs si ag la fo' co' cv ta rc ec su pe ti mn nu' th) A t) A) ([.ref y0] : List Value).toArray s 0 0 A) (F0 m 93 ls []) := by
    intro n
    induction n with
    | zero =>
      intro v1 fo co nu H locs ls h
      rw [m_X1_find_93] at h
      cases h
    | succ n ih =>
      intro v1 fo co nu H locs ls h hP hD hS hl
      rw [m_X1_find_93] at h
      refine lv_iload_n hx hb dX1_find_93 rfl (lv_at hl 1 rfl) ?_
      refine lv_sipush (v := 4096) hx hb dX1_find_94 (by decide) ?_
      refine lv_icmp_ge (tgt := 160) hx hb dX1_find_97 (by decide) (fun c_8 => ?_) (fun c_8 => ?_)
      · replace h := (if_pos c_8).symm.trans h
        cases h
        exact W.vret hx hb hr (fun t ht hW => ⟨⟨(), rfl, trivial, by rw [ht]; exact hP, va_K.moved hW.alike hK, hD⟩, hS.F ht⟩) hS.2.2 dX1_find_160
      · replace h := (if_neg c_8).symm.trans h
        refine lv_aload_n hx hb dX1_find_100 rfl (lv_at hl 0 rfl) ?_
        refine va_get (D := D) (ci := 1) (v := .ref y6) (C := RX1) (T := TX1) (N := 16) hx hb hts hin hown hK hP 0 rfl rfl 5 (by decide) hw_0 (fun _ h9 => h9) rfl dX1_find_101 ?_
        refine lv_iload_n hx hb dX1_find_104 rfl (lv_at hl 1 rfl) ?_
        obtain ⟨h_9, h⟩ := ix_some h
        refine va_iald hx hb hK hP 6 0 rfl rfl h_9 dX1_find_105 ?_
        refine lv_iconst (v := 1) hx hb dX1_find_106 (by decide) ?_
        refine lv_icmp_ne (tgt := 154) hx hb dX1_find_107 (by decide) (fun c_10 => ?_) (fun c_10 => ?_)
        · replace h := (if_neg c_10).symm.trans h
          refine lv_iinc (v := (v1 + 1)) (lv' := [(1, .int (v1 + 1)), (0, .ref y0)]) hx hb dX1_find_154 hl (k := 1) rfl rfl (by decide) rfl (fun ls hl => ?_)
          refine lv_goto (tgt := 93) hx hb dX1_find_157 (by decide) ?_
          exact ih (v1 + 1) fo co nu _ _ _ h hP hD hS (lv_sub hl [1, 0] rfl)
        · replace h := (if_pos c_10).symm.trans h
          refine lv_aload_n hx hb dX1_find_110 rfl (lv_at hl 0 rfl) ?_
          refine lv_iload_n hx hb dX1_find_111 rfl (lv_at hl 1 rfl) ?_
          obtain ⟨r_11, e_12, h⟩ := bnd1_some h
          refine cl_Vi (As := [.int v1]) (rest := []) (wc := wY cI cJ y0 y1 y2 y3 y4 y5 y6 y7 y8 hs si ag la fo co cv ta rc ec su pe ti mn nu th) (w1 := wY cI cJ y0 y1 y2 y3 y4 y5 y6 y7 y8 hs si ag la fo co cv ta rc ec su pe ti mn nu th) (wr := []) ⟨hx, hb, hml, hown, hts⟩ (c_X1_isProper l D cI cJ y0 y1 y2 y3 y4 y5 y6 y7 y8 _ hs si ag la fo co cv ta rc ec su pe ti mn nu th fu v1 r_11 e_12) (cwV 1 hts gX1_find_X1_isProper rfl rfl rfl (by decide +kernel) ⟨Nat.le_of_ble_eq_true rfl, Nat.le_of_ble_eq_true rfl⟩) hK hP hD hS hA [0, 1, 2, 3, 4, 5, 6, 7, 8] [] rfl rfl (by decide) (by decide) rfl rfl rfl rfl rfl hl.1 rfl (lv_room (Nat.le_of_ble_eq_true rfl)) dX1_find_112 (fun H locs hP hD hS => ?_)
          have hP : va_P D vwCl (wY cI cJ y0 y1 y2 y3 y4 y5 y6 y7 y8 hs si ag la fo co cv ta rc ec su pe ti mn nu th) H := hP
          have hD : va_D A (wY cI cJ y0 y1 y2 y3 y4 y5 y6 y7 y8 hs si ag la fo co cv ta rc ec su pe ti mn nu th) := hD
          refine lv_if_eq (tgt := 154) hx hb dX1_find_115 (by decide) (fun c_13 => ?_) (fun c_13 => ?_)
          · replace h := (if_pos c_13).symm.trans h
            refine lv_iinc (v := (v1 + 1)) (lv' := [(1, .int (v1 + 1)), (0, .ref y0)]) hx hb dX1_find_154 hl (k := 1) rfl rfl (by decide) rfl (fun ls hl => ?_)
            refine lv_goto (tgt := 93) hx hb dX1_find_157 (by decide) ?_
            exact ih (v1 + 1) fo co nu _ _ _ h hP hD hS (lv_sub hl [1, 0] rfl)
          · replace h := (if_neg c_13).symm.trans h
            refine lv_aload_n hx hb dX1_find_118 rfl (lv_at hl 0 rfl) ?_
            refine lv_aload_n hx hb dX1_find_119 rfl (lv_at hl 0 rfl) ?_
            refine lv_iload_n hx hb dX1_find_120 rfl (lv_at hl 1 rfl) ?_
            obtain ⟨r_14, e_15, h⟩ := bnd1_some h
            refine cl_Vi (As := [.int v1]) (rest := [.ref y0]) (wc := wY cI cJ y0 y1 y2 y3 y4 y5 y6 y7 y8 hs si ag la fo co cv ta rc ec su pe ti mn nu th) (w1 := wY cI cJ y0 y1 y2 y3 y4 y5 y6 y7 y8 hs si ag la fo co cv ta rc ec su pe ti mn nu th) (wr := []) ⟨hx, hb, hml, hown, hts⟩ (c_X1_whoHas l D cI cJ y0 y1 y2 y3 y4 y5 y6 y7 y8 _ hs si ag la fo co cv ta rc ec su pe ti mn nu th fu v1 r_14 e_15) (cwV 1 hts gX1_find_X1_whoHas rfl rfl rfl (by decide +kernel) ⟨Nat.le_of_ble_eq_true rfl, Nat.le_of_ble_eq_true rfl⟩) hK hP hD hS hA [0, 1, 2, 3, 4, 5, 6, 7, 8] [] rfl rfl (by decide) (by decide) rfl rfl rfl rfl rfl hl.1 rfl (lv_room (Nat.le_of_ble_eq_true rfl)) dX1_find_121 (fun H locs hP hD hS => ?_)
            have hP : va_P D vwCl (wY cI cJ y0 y1 y2 y3 y4 y5 y6 y7 y8 hs si ag la fo co cv ta rc ec su pe ti mn nu th) H := hP
            have hD : va_D A (wY cI cJ y0 y1 y2 y3 y4 y5 y6 y7 y8 hs si ag la fo co cv ta rc ec su pe ti mn nu th) := hD
            obtain ⟨r_16, e_17, h⟩ := bnd1_some h
            refine cl_Vi (As := [.int r_14]) (rest := []) (wc := wY cI cJ y0 y1 y2 y3 y4 y5 y6 y7 y8 hs si ag la fo co cv ta rc ec su pe ti mn nu th) (w1 := wY cI cJ y0 y1 y2 y3 y4 y5 y6 y7 y8 hs si ag la fo co cv ta rc ec su pe ti mn nu th) (wr := []) ⟨hx, hb, hml, hown, hts⟩ (c_X1_size l D cI cJ y0 y1 y2 y3 y4 y5 y6 y7 y8 _ hs si ag la fo co cv ta rc ec su pe ti mn nu th fu r_14 r_16 e_17) (cwV 1 hts gX1_find_X1_size rfl rfl rfl (by decide +kernel) ⟨Nat.le_of_ble_eq_true rfl, Nat.le_of_ble_eq_true rfl⟩) hK hP hD hS hA [0, 1, 2, 3, 4, 5, 6, 7, 8] [] rfl rfl (by decide) (by decide) rfl rfl rfl rfl rfl hl.1 rfl (lv_room (Nat.le_of_ble_eq_true rfl)) dX1_find_124 (fun H locs hP hD hS => ?_)
            have hP : va_P D vwCl (wY cI cJ y0 y1 y2 y3 y4 y5 y6 y7 y8 hs si ag la fo co cv ta rc ec su pe ti mn nu th) H := hP
            have hD : va_D A (wY cI cJ y0 y1 y2 y3 y4 y5 y6 y7 y8 hs si ag la fo co cv ta rc ec su pe ti mn nu th) := hD
            refine lv_aload_n hx hb dX1_find_127 rfl (lv_at hl 0 rfl) ?_
            refine va_get (D := D) (ci := 1) (v := .int su) (C := RX1) (T := TX1) (N := 16) hx hb hts hin hown hK hP 0 rfl rfl 10 (by decide) hw_3 (fun _ h9 => h9) rfl dX1_find_128 ?_
            refine lv_icmp_lt (tgt := 154) hx hb dX1_find_131 (by decide) (fun c_18 => ?_) (fun c_18 => ?_)
            · replace h := (if_pos c_18).symm.trans h
              refine lv_iinc (v := (v1 + 1)) (lv' := [(1, .int (v1 + 1)), (0, .ref y0)]) hx hb dX1_find_154 hl (k := 1) rfl rfl (by decide) rfl (fun ls hl => ?_)
              refine lv_goto (tgt := 93) hx hb dX1_find_157 (by decide) ?_
              exact ih (v1 + 1) fo co nu _ _ _ h hP hD hS (lv_sub hl [1, 0] rfl)
            · replace h := (if_neg c_18).symm.trans h
              refine lv_aload_n hx hb dX1_find_134 rfl (lv_at hl 0 rfl) ?_
              refine va_get (D := D) (ci := 1) (v := .ref y5) (C := RX1) (T := TX1) (N := 16) hx hb hts hin hown hK hP 0 rfl rfl 4 (by decide) hw_4 (fun _ h9 => h9) rfl dX1_find_135 ?_
              refine lv_aload_n hx hb dX1_find_138 rfl (lv_at hl 0 rfl) ?_
              refine va_get (D := D) (ci := 1) (v := .int nu) (C := RX1) (T := TX1) (N := 16) hx hb hts hin hown hK hP 0 rfl rfl 14 (by decide) hw_1 (fun _ h9 => h9) rfl dX1_find_139 ?_
              refine lv_iload_n hx hb dX1_find_142 rfl (lv_at hl 1 rfl) ?_
              obtain ⟨h_19, h⟩ := ix_some h
              refine va_iast hx hb hK hP hD hS 5 0 rfl rfl h_19 dX1_find_143 (fun H locs hP hD hS => ?_)
              have hP : va_P D vwCl (wY cI cJ y0 y1 y2 y3 y4 y5 y6 y7 y8 hs si ag la (upd fo (Int32.toNatClampNeg nu) v1) co cv ta rc ec su pe ti mn nu th) H := hP
              have hD : va_D A (wY cI cJ y0 y1 y2 y3 y4 y5 y6 y7 y8 hs si ag la (upd fo (Int32.toNatClampNeg nu) v1) co cv ta rc ec su pe ti mn nu th) := hD
              refine lv_aload_n hx hb dX1_find_144 rfl (lv_at hl 0 rfl) ?_
              refine lv_dup hx hb dX1_find_145 rfl ?_
              refine va_get (D := D) (ci := 1) (v := .int nu) (C := RX1) (T := TX1) (N := 16) hx hb hts hin hown hK hP 0 rfl rfl 14 (by decide) hw_1 (fun _ h9 => h9) rfl dX1_find_146 ?_
              refine lv_iconst (v := 1) hx hb dX1_find_149 (by decide) ?_
              refine lv_iadd hx hb dX1_find_150 ?_
              refine va_put (D := D) (ci := 1) (v := .int (nu + 1)) (ty := .int) (C := RX1) (T := TX1) (N := 16) hx hb hts hin tyX1 tyX1_ok nmX1 hown hK hP hD hS 0 rfl rfl 14 (by decide) hw_1 (fun _ h9 => h9) rfl (by decide +kernel) rfl rfl (Nat.le_of_ble_eq_true rfl) dX1_find_151 (fun H locs hP hD hS => ?_)
              have hP : va_P D vwCl (wY cI cJ y0 y1 y2 y3 y4 y5 y6 y7 y8 hs si ag la (upd fo (Int32.toNatClampNeg nu) v1) co cv ta rc ec su pe ti mn (nu + 1) th) H := hP
              have hD : va_D A (wY cI cJ y0 y1 y2 y3 y4 y5 y6 y7 y8 hs si ag la (upd fo (Int32.toNatClampNeg nu) v1) co cv ta rc ec su pe ti mn (nu + 1) th) := hD
              refine lv_iinc (v := (v1 + 1)) (lv' := [(1, .int (v1 + 1)), (0, .ref y0)]) hx hb dX1_find_154 hl (k := 1) rfl rfl (by decide) rfl (fun ls hl => ?_)
              refine lv_goto (tgt := 93) hx hb dX1_find_157 (by decide) ?_
              exact ih (v1 + 1) (upd fo (Int32.toNatClampNeg nu) v1) co (nu + 1) _ _ _ h hP hD hS (lv_sub hl [1, 0] rfl)
  have L24 : ∀ (n : Nat), (∀ (v1 : Int32) (fo : Nat → Int32) (co : Nat → Int32) (nu : Int32) (H : Heap) (locs : List Loc) (ls : Array Slot), m_X1_find_24 fu hs ag su n 0 v1 0 0 fo co nu = some (fo', co', nu') → va_P D vwCl (wY cI cJ y0 y1 y2 y3 y4 y5 y6 y7 y8 hs si ag la fo co cv ta rc ec su pe ti mn nu th) H → va_D A (wY cI cJ y0 y1 y2 y3 y4 y5 y6 y7 y8 hs si ag la fo co cv ta rc ec su pe ti mn nu th) → va_S A s.heap H locs → lv_has ls 4 [(0, .ref y0), (1, .int v1)] → W p l e (headSpec wsX1_find ({ frames := 2, cells := 0, slots := 0, locals := 45 })).room s m ([.ref y0] : List Value).toArray below meth c H locs 0 0 (MQ below (va_Qv (fun (_ : Unit) => True) (fun (_ : Unit) t => bx_Post D [(cI, .int), (cJ, .long)] (wY cI cJ y0 y1 y2 y3 y4 y5 y6 y7 y8 hs si ag la fo' co' cv ta rc ec su pe ti mn nu' th) A t) A) ([.ref y0] : List Value).toArray s 0 0 A) (F0 m 24 ls [])) ∧ (∀ (v1 : Int32) (v2 : Int32) (v3 : Int32) (fo : Nat → Int32) (co : Nat → Int32) (nu : Int32) (H : Heap) (locs : List Loc) (ls : Array Slot), m_X1_find_24 fu hs ag su n 1 v1 v2 v3 fo co nu = some (fo', co', nu') → va_P D vwCl (wY cI cJ y0 y1 y2 y3 y4 y5 y6 y7 y8 hs si ag la fo co cv ta rc ec su pe ti mn nu th) H → va_D A (wY cI cJ y0 y1 y2 y3 y4 y5 y6 y7 y8 hs si ag la fo co cv ta rc ec su pe ti mn nu th) → va_S A s.heap H locs → lv_has ls 4 [(0, .ref y0), (1, .int v1), (2, .int v2), (3, .int v3)] → W p l e (headSpec wsX1_find ({ frames := 2, cells := 0, slots := 0, locals := 45 })).room s m ([.ref y0] : List Value).toArray below meth c H locs 0 0 (MQ below (va_Qv (fun (_ : Unit) => True) (fun (_ : Unit) t => bx_Post D [(cI, .int), (cJ, .long)] (wY cI cJ y0 y1 y2 y3 y4 y5 y6 y7 y8 hs si ag la fo' co' cv ta rc ec su pe ti mn nu' th) A t) A) ([.ref y0] : List Value).toArray s 0 0 A) (F0 m 37 ls [])) := by
    intro n
    induction n with
    | zero =>
      refine ⟨?_, ?_⟩
      · intro v1 fo co nu H locs ls h
        rw [m_X1_find_24] at h
        cases h
      · intro v1 v2 v3 fo co nu H locs ls h
        rw [m_X1_find_24] at h
        cases h
    | succ n ih =>
      refine ⟨?_, ?_⟩
      · intro v1 fo co nu H locs ls h hP hD hS hl
        rw [m_X1_find_24] at h
        replace h := (if_pos rfl).symm.trans h
        refine lv_iload_n hx hb dX1_find_24 rfl (lv_at hl 1 rfl) ?_
        refine lv_sipush (v := 256) hx hb dX1_find_25 (by decide) ?_
        refine lv_icmp_ge (tgt := 86) hx hb dX1_find_28 (by decide) (fun c_3 => ?_) (fun c_3 => ?_)
        · replace h := (if_pos c_3).symm.trans h
          refine lv_aload_n hx hb dX1_find_86 rfl (lv_at hl 0 rfl) ?_
          refine lv_iconst (v := 0) hx hb dX1_find_87 (by decide) ?_
          refine va_put (D := D) (ci := 1) (v := .int 0) (ty := .int) (C := RX1) (T := TX1) (N := 16) hx hb hts hin tyX1 tyX1_ok nmX1 hown hK hP hD hS 0 rfl rfl 14 (by decide) hw_1 (fun _ h9 => h9) rfl (by decide +kernel) rfl rfl (Nat.le_of_ble_eq_true rfl) dX1_find_88 (fun H locs hP hD hS => ?_)
          have hP : va_P D vwCl (wY cI cJ y0 y1 y2 y3 y4 y5 y6 y7 y8 hs si ag la fo co cv ta rc ec su pe ti mn 0 th) H := hP
          have hD : va_D A (wY cI cJ y0 y1 y2 y3 y4 y5 y6 y7 y8 hs si ag la fo co cv ta rc ec su pe ti mn 0 th) := hD
          refine lv_iconst (v := 1) hx hb dX1_find_91 (by decide) ?_
          refine lv_istore_n (lv' := [(1, .int 1), (0, .ref y0)]) hx hb dX1_find_92 rfl hl (by decide) rfl (fun ls hl => ?_)
          exact L93 fu 1 fo co 0 _ _ _ h hP hD hS (lv_sub hl [1, 0] rfl)
        · replace h := (if_neg c_3).symm.trans h
          refine lv_sipush (v := 4095) hx hb dX1_find_31 (by decide) ?_
          refine lv_istore_n (lv' := [(2, .int 4095), (0, .ref y0), (1, .int v1)]) hx hb dX1_find_34 rfl hl (by decide) rfl (fun ls hl => ?_)
          refine lv_iconst (v := 0) hx hb dX1_find_35 (by decide) ?_
          refine lv_istore_n (lv' := [(3, .int 0), (2, .int 4095), (0, .ref y0), (1, .int v1)]) hx hb dX1_find_36 rfl hl (by decide) rfl (fun ls hl => ?_)
          exact ih.2 v1 4095 0 fo co nu _ _ _ h hP hD hS (lv_sub hl [2, 3, 1, 0] rfl)
      · intro v1 v2 v3 fo co nu H locs ls h hP hD hS hl
        rw [m_X1_find_24] at h
        replace h := (if_neg (by decide)).symm.trans h
        refine lv_iload_n hx hb dX1_find_37 rfl (lv_at hl 3 rfl) ?_
        refine lv_bipush (v := 8) hx hb dX1_find_38 (by decide) ?_
        refine lv_icmp_ge (tgt := 73) hx hb dX1_find_40 (by decide) (fun c_4 => ?_) (fun c_4 => ?_)
        · replace h := (if_pos c_4).symm.trans h
          refine lv_aload_n hx hb dX1_find_73 rfl (lv_at hl 0 rfl) ?_
          refine va_get (D := D) (ci := 1) (v := .ref y6) (C := RX1) (T := TX1) (N := 16) hx hb hts hin hown hK hP 0 rfl rfl 5 (by decide) hw_0 (fun _ h9 => h9) rfl dX1_find_74 ?_
          refine lv_iload_n hx hb dX1_find_77 rfl (lv_at hl 2 rfl) ?_
          refine lv_iconst (v := 1) hx hb dX1_find_78 (by decide) ?_
          obtain ⟨h_5, h⟩ := ix_some h
          refine va_iast hx hb hK hP hD hS 6 0 rfl rfl h_5 dX1_find_79 (fun H locs hP hD hS => ?_)
          have hP : va_P D vwCl (wY cI cJ y0 y1 y2 y3 y4 y5 y6 y7 y8 hs si ag la fo (upd co (Int32.toNatClampNeg v2) 1) cv ta rc ec su pe ti mn nu th) H := hP
          have hD : va_D A (wY cI cJ y0 y1 y2 y3 y4 y5 y6 y7 y8 hs si ag la fo (upd co (Int32.toNatClampNeg v2) 1) cv ta rc ec su pe ti mn nu th) := hD
          refine lv_iinc (v := (v1 + 1)) (lv' := [(1, .int (v1 + 1)), (0, .ref y0), (2, .int v2), (3, .int v3)]) hx hb dX1_find_80 hl (k := 1) rfl rfl (by decide) rfl (fun ls hl => ?_)
          refine lv_goto (tgt := 24) hx hb dX1_find_83 (by decide) ?_
          exact ih.1 (v1 + 1) fo (upd co (Int32.toNatClampNeg v2) 1) nu _ _ _ h hP hD hS (lv_sub hl [1, 0] rfl)
        · replace h := (if_neg c_4).symm.trans h
          refine lv_iload_n hx hb dX1_find_43 rfl (lv_at hl 2 rfl) ?_
          refine lv_aload_n hx hb dX1_find_44 rfl (lv_at hl 0 rfl) ?_
          refine lv_iload_n hx hb dX1_find_45 rfl (lv_at hl 1 rfl) ?_
          refine lv_iload_n hx hb dX1_find_46 rfl (lv_at hl 3 rfl) ?_
          refine cl_Vi (As := [.int v1, .int v3]) (rest := [.int v2]) (wc := wY cI cJ y0 y1 y2 y3 y4 y5 y6 y7 y8 hs si ag la fo co cv ta rc ec su pe ti mn nu th) (w1 := wY cI cJ y0 y1 y2 y3 y4 y5 y6 y7 y8 hs si ag la fo co cv ta rc ec su pe ti mn nu th) (wr := []) ⟨hx, hb, hml, hown, hts⟩ (c_X1_isIn l D cI cJ y0 y1 y2 y3 y4 y5 y6 y7 y8 _ hs si ag la fo co cv ta rc ec su pe ti mn nu th v1 v3) (cwV 2 hts gX1_find_X1_isIn rfl rfl rfl (by decide +kernel) ⟨Nat.le_of_ble_eq_true rfl, Nat.le_of_ble_eq_true rfl⟩) hK hP hD hS hA [0, 1, 2, 3, 4, 5, 6, 7, 8] [] rfl rfl (by decide) (by decide) rfl rfl rfl rfl rfl hl.1 rfl (lv_room (Nat.le_of_ble_eq_true rfl)) dX1_find_47 (fun H locs hP hD hS => ?_)
          have hP : va_P D vwCl (wY cI cJ y0 y1 y2 y3 y4 y5 y6 y7 y8 hs si ag la fo co cv ta rc ec su pe ti mn nu th) H := hP
          have hD : va_D A (wY cI cJ y0 y1 y2 y3 y4 y5 y6 y7 y8 hs si ag la fo co cv ta rc ec su pe ti mn nu th) := hD
          refine lv_if_eq (tgt := 62) hx hb dX1_find_50 (by decide) (fun c_6 => ?_) (fun c_6 => ?_)
          · replace h := (if_pos c_6).symm.trans h
            refine lv_sipush (v := 4095) hx hb dX1_find_62 (by decide) ?_
            refine lv_iand hx hb dX1_find_65 ?_
            refine lv_istore_n (lv' := [(2, .int (v2 &&& 4095)), (0, .ref y0), (1, .int v1), (3, .int v3)]) hx hb dX1_find_66 rfl hl (by decide) rfl (fun ls hl => ?_)
            refine lv_iinc (v := (v3 + 1)) (lv' := [(3, .int (v3 + 1)), (2, .int (v2 &&& 4095)), (0, .ref y0), (1, .int v1)]) hx hb dX1_find_67 hl (k := 3) rfl rfl (by decide) rfl (fun ls hl => ?_)
            refine lv_goto (tgt := 37) hx hb dX1_find_70 (by decide) ?_
            exact ih.2 v1 (v2 &&& 4095) (v3 + 1) fo co nu _ _ _ h hP hD hS (lv_sub hl [2, 3, 1, 0] rfl)
          · replace h := (if_neg c_6).symm.trans h
            refine lv_aload_n hx hb dX1_find_53 rfl (lv_at hl 0 rfl) ?_
            refine va_get (D := D) (ci := 1) (v := .ref y1) (C := RX1) (T := TX1) (N := 16) hx hb hts hin hown hK hP 0 rfl rfl 0 (by decide) hw_2 (fun _ h9 => h9) rfl dX1_find_54 ?_
            refine lv_iload_n hx hb dX1_find_57 rfl (lv_at hl 3 rfl) ?_
            obtain ⟨h_7, h⟩ := ix_some h
            refine va_iald hx hb hK hP 1 0 rfl rfl h_7 dX1_find_58 ?_
            refine lv_goto (tgt := 65) hx hb dX1_find_59 (by decide) ?_
            refine lv_iand hx hb dX1_find_65 ?_
            refine lv_istore_n (lv' := [(2, .int (v2 &&& (hs (Int32.toNatClampNeg v3)))), (0, .ref y0), (1, .int v1), (3, .int v3)]) hx hb dX1_find_66 rfl hl (by decide) rfl (fun ls hl => ?_)
            refine lv_iinc (v := (v3 + 1)) (lv' := [(3, .int (v3 + 1)), (2, .int (v2 &&& (hs (Int32.toNatClampNeg v3)))), (0, .ref y0), (1, .int v1)]) hx hb dX1_find_67 hl (k := 3) rfl rfl (by decide) rfl (fun ls hl => ?_)
            refine lv_goto (tgt := 37) hx hb dX1_find_70 (by decide) ?_
            exact ih.2 v1 (v2 &&& (hs (Int32.toNatClampNeg v3))) (v3 + 1) fo co nu _ _ _ h hP hD hS (lv_sub hl [2, 3, 1, 0] rfl)
  have L2 : ∀ (n : Nat) (v1 : Int32) (fo : Nat → Int32) (co : Nat → Int32) (nu : Int32) (H : Heap) (locs : List Loc) (ls : Array Slot), m_X1_find_2 fu hs ag su n v1 fo co nu = some (fo', co', nu') → va_P D vwCl (wY cI cJ y0 y1 y2 y3 y4 y5 y6 y7 y8 hs si ag la fo co cv ta rc ec su pe ti mn nu th) H → va_D A (wY cI cJ y0 y1 y2 y3 y4 y5 y6 y7 y8 hs si ag la fo co cv ta rc ec su pe ti mn nu th) → va_S A s.heap H locs → lv_has ls 4 [(0, .ref y0), (1, .int v1)] → W p l e (headSpec wsX1_find ({ frames := 2, cells := 0, slots := 0, locals := 45 })).room s m ([.ref y0] : List Value).toArray below meth c H locs 0 0 (MQ below (va_Qv (fun (_ : Unit) => True) (fun (_ : Unit) t => bx_Post D [(cI, .int), (cJ, .long)] (wY cI cJ y0 y1 y2 y3 y4 y5 y6 y7 y8 hs si ag la fo' co' cv ta rc ec su pe ti mn nu' th) A t) A) ([.ref y0] : List Value).toArray s 0 0 A) (F0 m 2 ls []) := by
    intro n
    induction n with
    | zero =>
      intro v1 fo co nu H locs ls h
      rw [m_X1_find_2] at h
      cases h
    | succ n ih =>
      intro v1 fo co nu H locs ls h hP hD hS hl
      rw [m_X1_find_2] at h
      refine lv_iload_n hx hb dX1_find_2 rfl (lv_at hl 1 rfl) ?_
      refine lv_sipush (v := 4096) hx hb dX1_find_3 (by decide) ?_
      refine lv_icmp_ge (tgt := 22) hx hb dX1_find_6 (by decide) (fun c_1 => ?_) (fun c_1 => ?_)
      · replace h := (if_pos c_1).symm.trans h
        refine lv_iconst (v := 1) hx hb dX1_find_22 (by decide) ?_
        refine lv_istore_n (lv' := [(1, .int 1), (0, .ref y0)]) hx hb dX1_find_23 rfl hl (by decide) rfl (fun ls hl => ?_)
        exact (L24 fu).1 1 fo co nu _ _ _ h hP hD hS (lv_sub hl [1, 0] rfl)
      · replace h := (if_neg c_1).symm.trans h
        refine lv_aload_n hx hb dX1_find_9 rfl (lv_at hl 0 rfl) ?_
        refine va_get (D := D) (ci := 1) (v := .ref y6) (C := RX1) (T := TX1) (N := 16) hx hb hts hin hown hK hP 0 rfl rfl 5 (by decide) hw_0 (fun _ h9 => h9) rfl dX1_find_10 ?_
        refine lv_iload_n hx hb dX1_find_13 rfl (lv_at hl 1 rfl) ?_
        refine lv_iconst (v := 0) hx hb dX1_find_14 (by decide) ?_
        obtain ⟨h_2, h⟩ := ix_some h
        refine va_iast hx hb hK hP hD hS 6 0 rfl rfl h_2 dX1_find_15 (fun H locs hP hD hS => ?_)
        have hP : va_P D vwCl (wY cI cJ y0 y1 y2 y3 y4 y5 y6 y7 y8 hs si ag la fo (upd co (Int32.toNatClampNeg v1) 0) cv ta rc ec su pe ti mn nu th) H := hP
        have hD : va_D A (wY cI cJ y0 y1 y2 y3 y4 y5 y6 y7 y8 hs si ag la fo (upd co (Int32.toNatClampNeg v1) 0) cv ta rc ec su pe ti mn nu th) := hD
        refine lv_iinc (v := (v1 + 1)) (lv' := [(1, .int (v1 + 1)), (0, .ref y0)]) hx hb dX1_find_16 hl (k := 1) rfl rfl (by decide) rfl (fun ls hl => ?_)
        refine lv_goto (tgt := 2) hx hb dX1_find_19 (by decide) ?_
        exact ih (v1 + 1) fo (upd co (Int32.toNatClampNeg v1) 0) nu _ _ _ h hP hD hS (lv_sub hl [1, 0] rfl)
  rw [m_X1_find] at h
  refine lv_iconst (v := 0) hx hb dX1_find_0 (by decide) ?_
  refine lv_istore_n (lv' := [(1, .int 0), (0, .ref y0)]) hx hb dX1_find_1 rfl hl (by decide) rfl (fun ls hl => ?_)
  exact L2 fu 0 fo co nu _ _ _ h hP hD hS (lv_sub hl [1, 0] rfl)
-- X1_uncover
def m_X1_uncover_2 (fu : Nat)  : Nat → Int32 → (Nat → Int32) → Option (((Nat → Int32)))
  | 0, _, _ => none
  | n + 1, v1, cv => (if 8 ≤ v1 then some cv else (ix v1 8 (m_X1_uncover_2 fu n (v1 + 1) (upd cv (Int32.toNatClampNeg v1) 0))))
def m_X1_uncover (fu : Nat) (cv : Nat → Int32) : Option (((Nat → Int32))) := (m_X1_uncover_2 fu fu 0 cv)
set_option maxHeartbeats 4000000 in
set_option maxRecDepth 100000 in
theorem c_X1_uncover (l : Launch) (D : va_G) (cI cJ : ClassId) (y0 y1 y2 y3 y4 y5 y6 y7 y8 : Nat) (sz : Nat) (hs : Nat → Int32) (si : Nat → Int32) (ag : Nat → Int32) (la : Nat → Int32) (fo : Nat → Int32) (co : Nat → Int32) (cv : Nat → Int32) (ta : Nat → Int32) (rc : Int32) (ec : Int32) (su : Int32) (pe : Int32) (ti : Int32) (mn : Int32) (nu : Int32) (th : Int32) (fu : Nat) (cv' : Nat → Int32) (h : m_X1_uncover fu cv = some cv') : Met l yX1_uncover wsX1_uncover ({ frames := 0, cells := 0, slots := 0, locals := 0 }) (va_Pc [.ref y0] (bx_Pre D [(cI, .int), (cJ, .long)] (wY cI cJ y0 y1 y2 y3 y4 y5 y6 y7 y8 hs si ag la fo co cv ta rc ec su pe ti mn nu th) sz)) (va_Qv (fun (_ : Unit) => True) (fun (_ : Unit) t => bx_Post D [(cI, .int), (cJ, .long)] (wY cI cJ y0 y1 y2 y3 y4 y5 y6 y7 y8 hs si ag la fo co cv' ta rc ec su pe ti mn nu th) (va_A (wY cI cJ y0 y1 y2 y3 y4 y5 y6 y7 y8 hs si ag la fo co cv ta rc ec su pe ti mn nu th) sz) t) (va_A (wY cI cJ y0 y1 y2 y3 y4 y5 y6 y7 y8 hs si ag la fo co cv ta rc ec su pe ti mn nu th) sz)) 0 0 (va_A (wY cI cJ y0 y1 y2 y3 y4 y5 y6 y7 y8 hs si ag la fo co cv ta rc ec su pe ti mn nu th) sz) := by
  refine Met.ofW (cc := cX1_uncover) (maxL := 2) (ret := none) (by decide) rfl ?_
  intro p e s m args below meth c s₁ B hml hv
  obtain ⟨rfl, hsz, hP, hK, hD0⟩ := hv
  have hx := B.exec
  have hb := B.bytes
  have hr := B.returns
  have hts := atoms_spec (ws := wsX1_uncover) B.pre
  have hown : s.vm.findClass RX1 = some m.cls := findClass_of_methodNamed B.named
  have hlocks := B.notSynchronized
  subst hsz
  have hD := hD0.self (sz := s.heap.size)
  generalize hAe : va_A (wY cI cJ y0 y1 y2 y3 y4 y5 y6 y7 y8 hs si ag la fo co cv ta rc ec su pe ti mn nu th) s.heap.size = A at hD ⊢
  have hA : ∀ q : Nat, s.heap.size ≤ q → A q := fun q h9 => by rw [← hAe]; exact Or.inr h9
  have hS : va_S A s.heap s.heap [] := va_S.rf
  have hin : ∀ w ∈ wsX10, w ∈ wsX1_uncover := fun _ h9 => List.mem_cons_of_mem _ (List.mem_append_right _ h9)
  have hw_0 := hts (.fieldLink RX1 28 "RoleMinerModel" "cover" "[I") (by decide +kernel)
  have hl := lv_entry ([.ref y0]) (n := 2) (Nat.le_of_ble_eq_true rfl)
  rw [lg_entry_eq]
  generalize (lg_sl ([.ref y0]) ++ List.replicate (2 - (lg_sl ([.ref y0])).length) Slot.unset).toArray = ls at hl ⊢
  have hl : lv_has ls 2 [(0, .ref y0)] := hl
  have L2 : ∀ (n : Nat) (v1 : Int32) (cv : Nat → Int32) (H : Heap) (locs : List Loc) (ls : Array Slot), m_X1_uncover_2 fu n v1 cv = some cv' → va_P D vwCl (wY cI cJ y0 y1 y2 y3 y4 y5 y6 y7 y8 hs si ag la fo co cv ta rc ec su pe ti mn nu th) H → va_D A (wY cI cJ y0 y1 y2 y3 y4 y5 y6 y7 y8 hs si ag la fo co cv ta rc ec su pe ti mn nu th) → va_S A s.heap H locs → lv_has ls 2 [(0, .ref y0), (1, .int v1)] → W p l e (headSpec wsX1_uncover ({ frames := 0, cells := 0, slots := 0, locals := 0 })).room s m ([.ref y0] : List Value).toArray below meth c H locs 0 0 (MQ below (va_Qv (fun (_ : Unit) => True) (fun (_ : Unit) t => bx_Post D [(cI, .int), (cJ, .long)] (wY cI cJ y0 y1 y2 y3 y4 y5 y6 y7 y8 hs si ag la fo co cv' ta rc ec su pe ti mn nu th) A t) A) ([.ref y0] : List Value).toArray s 0 0 A) (F0 m 2 ls []) := by
    intro n
    induction n with
    | zero =>
      intro v1 cv H locs ls h
      rw [m_X1_uncover_2] at h
      cases h
    | succ n ih =>
      intro v1 cv H locs ls h hP hD hS hl
      rw [m_X1_uncover_2] at h
      refine lv_iload_n hx hb dX1_uncover_2 rfl (lv_at hl 1 rfl) ?_
      refine lv_bipush (v := 8) hx hb dX1_uncover_3 (by decide) ?_
      refine lv_icmp_ge (tgt := 21) hx hb dX1_uncover_5 (by decide) (fun c_1 => ?_) (fun c_1 => ?_)
      · replace h := (if_pos c_1).symm.trans h
        cases h
        exact W.vret hx hb hr (fun t ht hW => ⟨⟨(), rfl, trivial, by rw [ht]; exact hP, va_K.moved hW.alike hK, hD⟩, hS.F ht⟩) hS.2.2 dX1_uncover_21
      · replace h := (if_neg c_1).symm.trans h
        refine lv_aload_n hx hb dX1_uncover_8 rfl (lv_at hl 0 rfl) ?_
        refine va_get (D := D) (ci := 1) (v := .ref y7) (C := RX1) (T := TX1) (N := 16) hx hb hts hin hown hK hP 0 rfl rfl 6 (by decide) hw_0 (fun _ h9 => h9) rfl dX1_uncover_9 ?_
        refine lv_iload_n hx hb dX1_uncover_12 rfl (lv_at hl 1 rfl) ?_
        refine lv_iconst (v := 0) hx hb dX1_uncover_13 (by decide) ?_
        obtain ⟨h_2, h⟩ := ix_some h
        refine va_iast hx hb hK hP hD hS 7 0 rfl rfl h_2 dX1_uncover_14 (fun H locs hP hD hS => ?_)
        have hP : va_P D vwCl (wY cI cJ y0 y1 y2 y3 y4 y5 y6 y7 y8 hs si ag la fo co (upd cv (Int32.toNatClampNeg v1) 0) ta rc ec su pe ti mn nu th) H := hP
        have hD : va_D A (wY cI cJ y0 y1 y2 y3 y4 y5 y6 y7 y8 hs si ag la fo co (upd cv (Int32.toNatClampNeg v1) 0) ta rc ec su pe ti mn nu th) := hD
        refine lv_iinc (v := (v1 + 1)) (lv' := [(1, .int (v1 + 1)), (0, .ref y0)]) hx hb dX1_uncover_15 hl (k := 1) rfl rfl (by decide) rfl (fun ls hl => ?_)
        refine lv_goto (tgt := 2) hx hb dX1_uncover_18 (by decide) ?_
        exact ih (v1 + 1) (upd cv (Int32.toNatClampNeg v1) 0) _ _ _ h hP hD hS (lv_sub hl [1, 0] rfl)
  rw [m_X1_uncover] at h
  refine lv_iconst (v := 0) hx hb dX1_uncover_0 (by decide) ?_
  refine lv_istore_n (lv' := [(1, .int 0), (0, .ref y0)]) hx hb dX1_uncover_1 rfl hl (by decide) rfl (fun ls hl => ?_)
  exact L2 fu 0 cv _ _ _ h hP hD hS (lv_sub hl [1, 0] rfl)
-- X1_add
def m_X1_add_2 (fu : Nat) (hs : Nat → Int32) (a1 : Int32) : Nat → Int32 → (Nat → Int32) → Option (((Nat → Int32)))
  | 0, _, _ => none
  | n + 1, v2, cv => (if 8 ≤ v2 then some cv else (ix v2 8 (bnd1 (m_X1_isWithin hs a1 v2) (fun r_3 => (if r_3 = 0 then (m_X1_add_2 fu hs a1 n (v2 + 1) (upd cv (Int32.toNatClampNeg v2) ((cv (Int32.toNatClampNeg v2)) ||| 0))) else (m_X1_add_2 fu hs a1 n (v2 + 1) (upd cv (Int32.toNatClampNeg v2) ((cv (Int32.toNatClampNeg v2)) ||| a1))))))))
def m_X1_add (fu : Nat) (hs : Nat → Int32) (cv : Nat → Int32) (a1 : Int32) : Option (((Nat → Int32))) := (m_X1_add_2 fu hs a1 fu 0 cv)
set_option maxHeartbeats 4000000 in
set_option maxRecDepth 100000 in
theorem c_X1_add (l : Launch) (D : va_G) (cI cJ : ClassId) (y0 y1 y2 y3 y4 y5 y6 y7 y8 : Nat) (sz : Nat) (hs : Nat → Int32) (si : Nat → Int32) (ag : Nat → Int32) (la : Nat → Int32) (fo : Nat → Int32) (co : Nat → Int32) (cv : Nat → Int32) (ta : Nat → Int32) (rc : Int32) (ec : Int32) (su : Int32) (pe : Int32) (ti : Int32) (mn : Int32) (nu : Int32) (th : Int32) (fu : Nat) (a1 : Int32) (cv' : Nat → Int32) (h : m_X1_add fu hs cv a1 = some cv') : Met l yX1_add wsX1_add ({ frames := 1, cells := 0, slots := 0, locals := 22 }) (va_Pc [.ref y0, .int a1] (bx_Pre D [(cI, .int), (cJ, .long)] (wY cI cJ y0 y1 y2 y3 y4 y5 y6 y7 y8 hs si ag la fo co cv ta rc ec su pe ti mn nu th) sz)) (va_Qv (fun (_ : Unit) => True) (fun (_ : Unit) t => bx_Post D [(cI, .int), (cJ, .long)] (wY cI cJ y0 y1 y2 y3 y4 y5 y6 y7 y8 hs si ag la fo co cv' ta rc ec su pe ti mn nu th) (va_A (wY cI cJ y0 y1 y2 y3 y4 y5 y6 y7 y8 hs si ag la fo co cv ta rc ec su pe ti mn nu th) sz) t) (va_A (wY cI cJ y0 y1 y2 y3 y4 y5 y6 y7 y8 hs si ag la fo co cv ta rc ec su pe ti mn nu th) sz)) 0 0 (va_A (wY cI cJ y0 y1 y2 y3 y4 y5 y6 y7 y8 hs si ag la fo co cv ta rc ec su pe ti mn nu th) sz) := by
  refine Met.ofW (cc := cX1_add) (maxL := 3) (ret := none) (by decide) rfl ?_
  intro p e s m args below meth c s₁ B hml hv
  obtain ⟨rfl, hsz, hP, hK, hD0⟩ := hv
  have hx := B.exec
  have hb := B.bytes
  have hr := B.returns
  have hts := atoms_spec (ws := wsX1_add) B.pre
  have hown : s.vm.findClass RX1 = some m.cls := findClass_of_methodNamed B.named
  have hlocks := B.notSynchronized
  subst hsz
  have hD := hD0.self (sz := s.heap.size)
  generalize hAe : va_A (wY cI cJ y0 y1 y2 y3 y4 y5 y6 y7 y8 hs si ag la fo co cv ta rc ec su pe ti mn nu th) s.heap.size = A at hD ⊢
  have hA : ∀ q : Nat, s.heap.size ≤ q → A q := fun q h9 => by rw [← hAe]; exact Or.inr h9
  have hS : va_S A s.heap s.heap [] := va_S.rf
  have hin : ∀ w ∈ wsX10, w ∈ wsX1_add := fun _ h9 => List.mem_cons_of_mem _ (List.mem_append_right _ h9)
  have hw_0 := hts (.fieldLink RX1 28 "RoleMinerModel" "cover" "[I") (by decide +kernel)
  have hl := lv_entry ([.ref y0, .int a1]) (n := 3) (Nat.le_of_ble_eq_true rfl)
  rw [lg_entry_eq]
  generalize (lg_sl ([.ref y0, .int a1]) ++ List.replicate (3 - (lg_sl ([.ref y0, .int a1])).length) Slot.unset).toArray = ls at hl ⊢
  have hl : lv_has ls 3 [(0, .ref y0), (1, .int a1)] := hl
  have L2 : ∀ (n : Nat) (v2 : Int32) (cv : Nat → Int32) (H : Heap) (locs : List Loc) (ls : Array Slot), m_X1_add_2 fu hs a1 n v2 cv = some cv' → va_P D vwCl (wY cI cJ y0 y1 y2 y3 y4 y5 y6 y7 y8 hs si ag la fo co cv ta rc ec su pe ti mn nu th) H → va_D A (wY cI cJ y0 y1 y2 y3 y4 y5 y6 y7 y8 hs si ag la fo co cv ta rc ec su pe ti mn nu th) → va_S A s.heap H locs → lv_has ls 3 [(0, .ref y0), (1, .int a1), (2, .int v2)] → W p l e (headSpec wsX1_add ({ frames := 1, cells := 0, slots := 0, locals := 22 })).room s m ([.ref y0, .int a1] : List Value).toArray below meth c H locs 0 0 (MQ below (va_Qv (fun (_ : Unit) => True) (fun (_ : Unit) t => bx_Post D [(cI, .int), (cJ, .long)] (wY cI cJ y0 y1 y2 y3 y4 y5 y6 y7 y8 hs si ag la fo co cv' ta rc ec su pe ti mn nu th) A t) A) ([.ref y0, .int a1] : List Value).toArray s 0 0 A) (F0 m 2 ls []) := by
    intro n
    induction n with
    | zero =>
      intro v2 cv H locs ls h
      rw [m_X1_add_2] at h
      cases h
    | succ n ih =>
      intro v2 cv H locs ls h hP hD hS hl
      rw [m_X1_add_2] at h
      refine lv_iload_n hx hb dX1_add_2 rfl (lv_at hl 2 rfl) ?_
      refine lv_bipush (v := 8) hx hb dX1_add_3 (by decide) ?_
      refine lv_icmp_ge (tgt := 37) hx hb dX1_add_5 (by decide) (fun c_1 => ?_) (fun c_1 => ?_)
      · replace h := (if_pos c_1).symm.trans h
        cases h
        exact W.vret hx hb hr (fun t ht hW => ⟨⟨(), rfl, trivial, by rw [ht]; exact hP, va_K.moved hW.alike hK, hD⟩, hS.F ht⟩) hS.2.2 dX1_add_37
      · replace h := (if_neg c_1).symm.trans h
        refine lv_aload_n hx hb dX1_add_8 rfl (lv_at hl 0 rfl) ?_
        refine va_get (D := D) (ci := 1) (v := .ref y7) (C := RX1) (T := TX1) (N := 16) hx hb hts hin hown hK hP 0 rfl rfl 6 (by decide) hw_0 (fun _ h9 => h9) rfl dX1_add_9 ?_
        refine lv_iload_n hx hb dX1_add_12 rfl (lv_at hl 2 rfl) ?_
        refine lv_dup2_11 hx hb dX1_add_13 rfl rfl ?_
        obtain ⟨h_2, h⟩ := ix_some h
        refine va_iald hx hb hK hP 7 0 rfl rfl h_2 dX1_add_14 ?_
        refine lv_aload_n hx hb dX1_add_15 rfl (lv_at hl 0 rfl) ?_
        refine lv_iload_n hx hb dX1_add_16 rfl (lv_at hl 1 rfl) ?_
        refine lv_iload_n hx hb dX1_add_17 rfl (lv_at hl 2 rfl) ?_
        obtain ⟨r_3, e_4, h⟩ := bnd1_some h
        refine cl_Vi (As := [.int a1, .int v2]) (rest := [.int (cv (Int32.toNatClampNeg v2)), .int v2, .ref y7]) (wc := wY cI cJ y0 y1 y2 y3 y4 y5 y6 y7 y8 hs si ag la fo co cv ta rc ec su pe ti mn nu th) (w1 := wY cI cJ y0 y1 y2 y3 y4 y5 y6 y7 y8 hs si ag la fo co cv ta rc ec su pe ti mn nu th) (wr := []) ⟨hx, hb, hml, hown, hts⟩ (c_X1_isWithin l D cI cJ y0 y1 y2 y3 y4 y5 y6 y7 y8 _ hs si ag la fo co cv ta rc ec su pe ti mn nu th a1 v2 r_3 e_4) (cwV 2 hts gX1_add_X1_isWithin rfl rfl rfl (by decide +kernel) ⟨Nat.le_of_ble_eq_true rfl, Nat.le_of_ble_eq_true rfl⟩) hK hP hD hS hA [0, 1, 2, 3, 4, 5, 6, 7, 8] [] rfl rfl (by decide) (by decide) rfl rfl rfl rfl rfl hl.1 rfl (lv_room (Nat.le_of_ble_eq_true rfl)) dX1_add_18 (fun H locs hP hD hS => ?_)
        have hP : va_P D vwCl (wY cI cJ y0 y1 y2 y3 y4 y5 y6 y7 y8 hs si ag la fo co cv ta rc ec su pe ti mn nu th) H := hP
        have hD : va_D A (wY cI cJ y0 y1 y2 y3 y4 y5 y6 y7 y8 hs si ag la fo co cv ta rc ec su pe ti mn nu th) := hD
        refine lv_if_eq (tgt := 28) hx hb dX1_add_21 (by decide) (fun c_5 => ?_) (fun c_5 => ?_)
        · replace h := (if_pos c_5).symm.trans h
          refine lv_iconst (v := 0) hx hb dX1_add_28 (by decide) ?_
          refine lv_ior hx hb dX1_add_29 ?_
          refine va_iast hx hb hK hP hD hS 7 0 rfl rfl h_2 dX1_add_30 (fun H locs hP hD hS => ?_)
          have hP : va_P D vwCl (wY cI cJ y0 y1 y2 y3 y4 y5 y6 y7 y8 hs si ag la fo co (upd cv (Int32.toNatClampNeg v2) ((cv (Int32.toNatClampNeg v2)) ||| 0)) ta rc ec su pe ti mn nu th) H := hP
          have hD : va_D A (wY cI cJ y0 y1 y2 y3 y4 y5 y6 y7 y8 hs si ag la fo co (upd cv (Int32.toNatClampNeg v2) ((cv (Int32.toNatClampNeg v2)) ||| 0)) ta rc ec su pe ti mn nu th) := hD
          refine lv_iinc (v := (v2 + 1)) (lv' := [(2, .int (v2 + 1)), (0, .ref y0), (1, .int a1)]) hx hb dX1_add_31 hl (k := 2) rfl rfl (by decide) rfl (fun ls hl => ?_)
          refine lv_goto (tgt := 2) hx hb dX1_add_34 (by decide) ?_
          exact ih (v2 + 1) (upd cv (Int32.toNatClampNeg v2) ((cv (Int32.toNatClampNeg v2)) ||| 0)) _ _ _ h hP hD hS (lv_sub hl [1, 2, 0] rfl)
        · replace h := (if_neg c_5).symm.trans h
          refine lv_iload_n hx hb dX1_add_24 rfl (lv_at hl 1 rfl) ?_
          refine lv_goto (tgt := 29) hx hb dX1_add_25 (by decide) ?_
          refine lv_ior hx hb dX1_add_29 ?_
          refine va_iast hx hb hK hP hD hS 7 0 rfl rfl h_2 dX1_add_30 (fun H locs hP hD hS => ?_)
          have hP : va_P D vwCl (wY cI cJ y0 y1 y2 y3 y4 y5 y6 y7 y8 hs si ag la fo co (upd cv (Int32.toNatClampNeg v2) ((cv (Int32.toNatClampNeg v2)) ||| a1)) ta rc ec su pe ti mn nu th) H := hP
          have hD : va_D A (wY cI cJ y0 y1 y2 y3 y4 y5 y6 y7 y8 hs si ag la fo co (upd cv (Int32.toNatClampNeg v2) ((cv (Int32.toNatClampNeg v2)) ||| a1)) ta rc ec su pe ti mn nu th) := hD
          refine lv_iinc (v := (v2 + 1)) (lv' := [(2, .int (v2 + 1)), (0, .ref y0), (1, .int a1)]) hx hb dX1_add_31 hl (k := 2) rfl rfl (by decide) rfl (fun ls hl => ?_)
          refine lv_goto (tgt := 2) hx hb dX1_add_34 (by decide) ?_
          exact ih (v2 + 1) (upd cv (Int32.toNatClampNeg v2) ((cv (Int32.toNatClampNeg v2)) ||| a1)) _ _ _ h hP hD hS (lv_sub hl [1, 2, 0] rfl)
  rw [m_X1_add] at h
  refine lv_iconst (v := 0) hx hb dX1_add_0 (by decide) ?_
  refine lv_istore_n (lv' := [(2, .int 0), (0, .ref y0), (1, .int a1)]) hx hb dX1_add_1 rfl hl (by decide) rfl (fun ls hl => ?_)
  exact L2 fu 0 cv _ _ _ h hP hD hS (lv_sub hl [1, 2, 0] rfl)
-- X1_uncovered
def m_X1_uncovered_4 (fu : Nat) (hs : Nat → Int32) (cv : Nat → Int32) : Nat → Int32 → Int32 → Option ((Int32))
  | 0, _, _ => none
  | n + 1, v1, v2 => (if 8 ≤ v2 then some v1 else (ix v2 8 (bnd1 (m_X1_size fu ((hs (Int32.toNatClampNeg v2)) &&& ((cv (Int32.toNatClampNeg v2)) ^^^ (-1)))) (fun r_3 => (m_X1_uncovered_4 fu hs cv n (v1 + r_3) (v2 + 1))))))
def m_X1_uncovered (fu : Nat) (hs : Nat → Int32) (cv : Nat → Int32) : Option ((Int32)) := (m_X1_uncovered_4 fu hs cv fu 0 0)
set_option maxHeartbeats 4000000 in
set_option maxRecDepth 100000 in
theorem c_X1_uncovered (l : Launch) (D : va_G) (cI cJ : ClassId) (y0 y1 y2 y3 y4 y5 y6 y7 y8 : Nat) (sz : Nat) (hs : Nat → Int32) (si : Nat → Int32) (ag : Nat → Int32) (la : Nat → Int32) (fo : Nat → Int32) (co : Nat → Int32) (cv : Nat → Int32) (ta : Nat → Int32) (rc : Int32) (ec : Int32) (su : Int32) (pe : Int32) (ti : Int32) (mn : Int32) (nu : Int32) (th : Int32) (fu : Nat) (r0 : Int32) (h : m_X1_uncovered fu hs cv = some r0) : Met l yX1_uncovered wsX1_uncovered ({ frames := 1, cells := 0, slots := 0, locals := 23 }) (va_Pc [.ref y0] (bx_Pre D [(cI, .int), (cJ, .long)] (wY cI cJ y0 y1 y2 y3 y4 y5 y6 y7 y8 hs si ag la fo co cv ta rc ec su pe ti mn nu th) sz)) (va_Qi (fun (r : Int32) (_ : Unit) => r = r0) (fun (_ : Unit) t => bx_Post D [(cI, .int), (cJ, .long)] (wY cI cJ y0 y1 y2 y3 y4 y5 y6 y7 y8 hs si ag la fo co cv ta rc ec su pe ti mn nu th) (va_A (wY cI cJ y0 y1 y2 y3 y4 y5 y6 y7 y8 hs si ag la fo co cv ta rc ec su pe ti mn nu th) sz) t) (va_A (wY cI cJ y0 y1 y2 y3 y4 y5 y6 y7 y8 hs si ag la fo co cv ta rc ec su pe ti mn nu th) sz)) 0 0 (va_A (wY cI cJ y0 y1 y2 y3 y4 y5 y6 y7 y8 hs si ag la fo co cv ta rc ec su pe ti mn nu th) sz) := by
  refine Met.ofW (cc := cX1_uncovered) (maxL := 3) (ret := (some .int)) (by decide) rfl ?_
  intro p e s m args below meth c s₁ B hml hv
  obtain ⟨rfl, hsz, hP, hK, hD0⟩ := hv
  have hx := B.exec
  have hb := B.bytes
  have hr := B.returns
  have hts := atoms_spec (ws := wsX1_uncovered) B.pre
  have hown : s.vm.findClass RX1 = some m.cls := findClass_of_methodNamed B.named
  have hlocks := B.notSynchronized
  subst hsz
  have hD := hD0.self (sz := s.heap.size)
  generalize hAe : va_A (wY cI cJ y0 y1 y2 y3 y4 y5 y6 y7 y8 hs si ag la fo co cv ta rc ec su pe ti mn nu th) s.heap.size = A at hD ⊢
  have hA : ∀ q : Nat, s.heap.size ≤ q → A q := fun q h9 => by rw [← hAe]; exact Or.inr h9
  have hS : va_S A s.heap s.heap [] := va_S.rf
  have hin : ∀ w ∈ wsX10, w ∈ wsX1_uncovered := fun _ h9 => List.mem_cons_of_mem _ (List.mem_append_right _ h9)
  have hw_0 := hts (.fieldLink RX1 7 "RoleMinerModel" "has" "[I") (by decide +kernel)
  have hw_1 := hts (.fieldLink RX1 28 "RoleMinerModel" "cover" "[I") (by decide +kernel)
  have hl := lv_entry ([.ref y0]) (n := 3) (Nat.le_of_ble_eq_true rfl)
  rw [lg_entry_eq]
  generalize (lg_sl ([.ref y0]) ++ List.replicate (3 - (lg_sl ([.ref y0])).length) Slot.unset).toArray = ls at hl ⊢
  have hl : lv_has ls 3 [(0, .ref y0)] := hl
  have L4 : ∀ (n : Nat) (v1 : Int32) (v2 : Int32) (H : Heap) (locs : List Loc) (ls : Array Slot), m_X1_uncovered_4 fu hs cv n v1 v2 = some r0 → va_P D vwCl (wY cI cJ y0 y1 y2 y3 y4 y5 y6 y7 y8 hs si ag la fo co cv ta rc ec su pe ti mn nu th) H → va_D A (wY cI cJ y0 y1 y2 y3 y4 y5 y6 y7 y8 hs si ag la fo co cv ta rc ec su pe ti mn nu th) → va_S A s.heap H locs → lv_has ls 3 [(0, .ref y0), (1, .int v1), (2, .int v2)] → W p l e (headSpec wsX1_uncovered ({ frames := 1, cells := 0, slots := 0, locals := 23 })).room s m ([.ref y0] : List Value).toArray below meth c H locs 0 0 (MQ below (va_Qi (fun (r : Int32) (_ : Unit) => r = r0) (fun (_ : Unit) t => bx_Post D [(cI, .int), (cJ, .long)] (wY cI cJ y0 y1 y2 y3 y4 y5 y6 y7 y8 hs si ag la fo co cv ta rc ec su pe ti mn nu th) A t) A) ([.ref y0] : List Value).toArray s 0 0 A) (F0 m 4 ls []) := by
    intro n
    induction n with
    | zero =>
      intro v1 v2 H locs ls h
      rw [m_X1_uncovered_4] at h
      cases h
    | succ n ih =>
      intro v1 v2 H locs ls h hP hD hS hl
      rw [m_X1_uncovered_4] at h
      refine lv_iload_n hx hb dX1_uncovered_4 rfl (lv_at hl 2 rfl) ?_
      refine lv_bipush (v := 8) hx hb dX1_uncovered_5 (by decide) ?_
      refine lv_icmp_ge (tgt := 38) hx hb dX1_uncovered_7 (by decide) (fun c_1 => ?_) (fun c_1 => ?_)
      · replace h := (if_pos c_1).symm.trans h
        refine lv_iload_n hx hb dX1_uncovered_38 rfl (lv_at hl 1 rfl) ?_
        cases h
        exact W.iret hx hb hr (fun t ht hW => ⟨⟨_, (), rfl, rfl, by rw [ht]; exact hP, va_K.moved hW.alike hK, hD⟩, hS.F ht⟩) hS.2.2 dX1_uncovered_39
      · replace h := (if_neg c_1).symm.trans h
        refine lv_iload_n hx hb dX1_uncovered_10 rfl (lv_at hl 1 rfl) ?_
        refine lv_aload_n hx hb dX1_uncovered_11 rfl (lv_at hl 0 rfl) ?_
        refine lv_aload_n hx hb dX1_uncovered_12 rfl (lv_at hl 0 rfl) ?_
        refine va_get (D := D) (ci := 1) (v := .ref y1) (C := RX1) (T := TX1) (N := 16) hx hb hts hin hown hK hP 0 rfl rfl 0 (by decide) hw_0 (fun _ h9 => h9) rfl dX1_uncovered_13 ?_
        refine lv_iload_n hx hb dX1_uncovered_16 rfl (lv_at hl 2 rfl) ?_
        obtain ⟨h_2, h⟩ := ix_some h
        refine va_iald hx hb hK hP 1 0 rfl rfl h_2 dX1_uncovered_17 ?_
        refine lv_aload_n hx hb dX1_uncovered_18 rfl (lv_at hl 0 rfl) ?_
        refine va_get (D := D) (ci := 1) (v := .ref y7) (C := RX1) (T := TX1) (N := 16) hx hb hts hin hown hK hP 0 rfl rfl 6 (by decide) hw_1 (fun _ h9 => h9) rfl dX1_uncovered_19 ?_
        refine lv_iload_n hx hb dX1_uncovered_22 rfl (lv_at hl 2 rfl) ?_
        refine va_iald hx hb hK hP 7 0 rfl rfl h_2 dX1_uncovered_23 ?_
        refine lv_iconst (v := (-1)) hx hb dX1_uncovered_24 (by decide) ?_
        refine lv_ixor hx hb dX1_uncovered_25 ?_
        refine lv_iand hx hb dX1_uncovered_26 ?_
        obtain ⟨r_3, e_4, h⟩ := bnd1_some h
        refine cl_Vi (As := [.int ((hs (Int32.toNatClampNeg v2)) &&& ((cv (Int32.toNatClampNeg v2)) ^^^ (-1)))]) (rest := [.int v1]) (wc := wY cI cJ y0 y1 y2 y3 y4 y5 y6 y7 y8 hs si ag la fo co cv ta rc ec su pe ti mn nu th) (w1 := wY cI cJ y0 y1 y2 y3 y4 y5 y6 y7 y8 hs si ag la fo co cv ta rc ec su pe ti mn nu th) (wr := []) ⟨hx, hb, hml, hown, hts⟩ (c_X1_size l D cI cJ y0 y1 y2 y3 y4 y5 y6 y7 y8 _ hs si ag la fo co cv ta rc ec su pe ti mn nu th fu ((hs (Int32.toNatClampNeg v2)) &&& ((cv (Int32.toNatClampNeg v2)) ^^^ (-1))) r_3 e_4) (cwV 1 hts gX1_uncovered_X1_size rfl rfl rfl (by decide +kernel) ⟨Nat.le_of_ble_eq_true rfl, Nat.le_of_ble_eq_true rfl⟩) hK hP hD hS hA [0, 1, 2, 3, 4, 5, 6, 7, 8] [] rfl rfl (by decide) (by decide) rfl rfl rfl rfl rfl hl.1 rfl (lv_room (Nat.le_of_ble_eq_true rfl)) dX1_uncovered_27 (fun H locs hP hD hS => ?_)
        have hP : va_P D vwCl (wY cI cJ y0 y1 y2 y3 y4 y5 y6 y7 y8 hs si ag la fo co cv ta rc ec su pe ti mn nu th) H := hP
        have hD : va_D A (wY cI cJ y0 y1 y2 y3 y4 y5 y6 y7 y8 hs si ag la fo co cv ta rc ec su pe ti mn nu th) := hD
        refine lv_iadd hx hb dX1_uncovered_30 ?_
        refine lv_istore_n (lv' := [(1, .int (v1 + r_3)), (0, .ref y0), (2, .int v2)]) hx hb dX1_uncovered_31 rfl hl (by decide) rfl (fun ls hl => ?_)
        refine lv_iinc (v := (v2 + 1)) (lv' := [(2, .int (v2 + 1)), (1, .int (v1 + r_3)), (0, .ref y0)]) hx hb dX1_uncovered_32 hl (k := 2) rfl rfl (by decide) rfl (fun ls hl => ?_)
        refine lv_goto (tgt := 4) hx hb dX1_uncovered_35 (by decide) ?_
        exact ih (v1 + r_3) (v2 + 1) _ _ _ h hP hD hS (lv_sub hl [2, 1, 0] rfl)
  rw [m_X1_uncovered] at h
  refine lv_iconst (v := 0) hx hb dX1_uncovered_0 (by decide) ?_
  refine lv_istore_n (lv' := [(1, .int 0), (0, .ref y0)]) hx hb dX1_uncovered_1 rfl hl (by decide) rfl (fun ls hl => ?_)
  refine lv_iconst (v := 0) hx hb dX1_uncovered_2 (by decide) ?_
  refine lv_istore_n (lv' := [(2, .int 0), (1, .int 0), (0, .ref y0)]) hx hb dX1_uncovered_3 rfl hl (by decide) rfl (fun ls hl => ?_)
  exact L4 fu 0 0 _ _ _ h hP hD hS (lv_sub hl [2, 1, 0] rfl)
-- X1_gain
def m_X1_gain_4 (fu : Nat) (hs : Nat → Int32) (cv : Nat → Int32) (a1 : Int32) : Nat → Int32 → Int32 → Option ((Int32))
  | 0, _, _ => none
  | n + 1, v2, v3 => (if 8 ≤ v3 then some v2 else (bnd1 (m_X1_isWithin hs a1 v3) (fun r_2 => (if r_2 = 0 then (m_X1_gain_4 fu hs cv a1 n (v2 + 0) (v3 + 1)) else (ix v3 8 (bnd1 (m_X1_size fu (a1 &&& ((cv (Int32.toNatClampNeg v3)) ^^^ (-1)))) (fun r_6 => (m_X1_gain_4 fu hs cv a1 n (v2 + r_6) (v3 + 1)))))))))
def m_X1_gain (fu : Nat) (hs : Nat → Int32) (cv : Nat → Int32) (a1 : Int32) : Option ((Int32)) := (m_X1_gain_4 fu hs cv a1 fu 0 0)
set_option maxHeartbeats 4000000 in
set_option maxRecDepth 100000 in
theorem c_X1_gain (l : Launch) (D : va_G) (cI cJ : ClassId) (y0 y1 y2 y3 y4 y5 y6 y7 y8 : Nat) (sz : Nat) (hs : Nat → Int32) (si : Nat → Int32) (ag : Nat → Int32) (la : Nat → Int32) (fo : Nat → Int32) (co : Nat → Int32) (cv : Nat → Int32) (ta : Nat → Int32) (rc : Int32) (ec : Int32) (su : Int32) (pe : Int32) (ti : Int32) (mn : Int32) (nu : Int32) (th : Int32) (fu : Nat) (a1 : Int32) (r0 : Int32) (h : m_X1_gain fu hs cv a1 = some r0) : Met l yX1_gain wsX1_gain ({ frames := 1, cells := 0, slots := 0, locals := 23 }) (va_Pc [.ref y0, .int a1] (bx_Pre D [(cI, .int), (cJ, .long)] (wY cI cJ y0 y1 y2 y3 y4 y5 y6 y7 y8 hs si ag la fo co cv ta rc ec su pe ti mn nu th) sz)) (va_Qi (fun (r : Int32) (_ : Unit) => r = r0) (fun (_ : Unit) t => bx_Post D [(cI, .int), (cJ, .long)] (wY cI cJ y0 y1 y2 y3 y4 y5 y6 y7 y8 hs si ag la fo co cv ta rc ec su pe ti mn nu th) (va_A (wY cI cJ y0 y1 y2 y3 y4 y5 y6 y7 y8 hs si ag la fo co cv ta rc ec su pe ti mn nu th) sz) t) (va_A (wY cI cJ y0 y1 y2 y3 y4 y5 y6 y7 y8 hs si ag la fo co cv ta rc ec su pe ti mn nu th) sz)) 0 0 (va_A (wY cI cJ y0 y1 y2 y3 y4 y5 y6 y7 y8 hs si ag la fo co cv ta rc ec su pe ti mn nu th) sz) := by
  refine Met.ofW (cc := cX1_gain) (maxL := 4) (ret := (some .int)) (by decide) rfl ?_
  intro p e s m args below meth c s₁ B hml hv
  obtain ⟨rfl, hsz, hP, hK, hD0⟩ := hv
  have hx := B.exec
  have hb := B.bytes
  have hr := B.returns
  have hts := atoms_spec (ws := wsX1_gain) B.pre
  have hown : s.vm.findClass RX1 = some m.cls := findClass_of_methodNamed B.named
  have hlocks := B.notSynchronized
  subst hsz
  have hD := hD0.self (sz := s.heap.size)
  generalize hAe : va_A (wY cI cJ y0 y1 y2 y3 y4 y5 y6 y7 y8 hs si ag la fo co cv ta rc ec su pe ti mn nu th) s.heap.size = A at hD ⊢
  have hA : ∀ q : Nat, s.heap.size ≤ q → A q := fun q h9 => by rw [← hAe]; exact Or.inr h9
  have hS : va_S A s.heap s.heap [] := va_S.rf
  have hin : ∀ w ∈ wsX10, w ∈ wsX1_gain := fun _ h9 => List.mem_cons_of_mem _ (List.mem_append_right _ h9)
  have hw_0 := hts (.fieldLink RX1 28 "RoleMinerModel" "cover" "[I") (by decide +kernel)
  have hl := lv_entry ([.ref y0, .int a1]) (n := 4) (Nat.le_of_ble_eq_true rfl)
  rw [lg_entry_eq]
  generalize (lg_sl ([.ref y0, .int a1]) ++ List.replicate (4 - (lg_sl ([.ref y0, .int a1])).length) Slot.unset).toArray = ls at hl ⊢
  have hl : lv_has ls 4 [(0, .ref y0), (1, .int a1)] := hl
  have L4 : ∀ (n : Nat) (v2 : Int32) (v3 : Int32) (H : Heap) (locs : List Loc) (ls : Array Slot), m_X1_gain_4 fu hs cv a1 n v2 v3 = some r0 → va_P D vwCl (wY cI cJ y0 y1 y2 y3 y4 y5 y6 y7 y8 hs si ag la fo co cv ta rc ec su pe ti mn nu th) H → va_D A (wY cI cJ y0 y1 y2 y3 y4 y5 y6 y7 y8 hs si ag la fo co cv ta rc ec su pe ti mn nu th) → va_S A s.heap H locs → lv_has ls 4 [(0, .ref y0), (1, .int a1), (2, .int v2), (3, .int v3)] → W p l e (headSpec wsX1_gain ({ frames := 1, cells := 0, slots := 0, locals := 23 })).room s m ([.ref y0, .int a1] : List Value).toArray below meth c H locs 0 0 (MQ below (va_Qi (fun (r : Int32) (_ : Unit) => r = r0) (fun (_ : Unit) t => bx_Post D [(cI, .int), (cJ, .long)] (wY cI cJ y0 y1 y2 y3 y4 y5 y6 y7 y8 hs si ag la fo co cv ta rc ec su pe ti mn nu th) A t) A) ([.ref y0, .int a1] : List Value).toArray s 0 0 A) (F0 m 4 ls []) := by
    intro n
    induction n with
    | zero =>
      intro v2 v3 H locs ls h
      rw [m_X1_gain_4] at h
      cases h
    | succ n ih =>
      intro v2 v3 H locs ls h hP hD hS hl
      rw [m_X1_gain_4] at h
      refine lv_iload_n hx hb dX1_gain_4 rfl (lv_at hl 3 rfl) ?_
      refine lv_bipush (v := 8) hx hb dX1_gain_5 (by decide) ?_
      refine lv_icmp_ge (tgt := 46) hx hb dX1_gain_7 (by decide) (fun c_1 => ?_) (fun c_1 => ?_)
      · replace h := (if_pos c_1).symm.trans h
        refine lv_iload_n hx hb dX1_gain_46 rfl (lv_at hl 2 rfl) ?_
        cases h
        exact W.iret hx hb hr (fun t ht hW => ⟨⟨_, (), rfl, rfl, by rw [ht]; exact hP, va_K.moved hW.alike hK, hD⟩, hS.F ht⟩) hS.2.2 dX1_gain_47
      · replace h := (if_neg c_1).symm.trans h
        refine lv_iload_n hx hb dX1_gain_10 rfl (lv_at hl 2 rfl) ?_
        refine lv_aload_n hx hb dX1_gain_11 rfl (lv_at hl 0 rfl) ?_
        refine lv_iload_n hx hb dX1_gain_12 rfl (lv_at hl 1 rfl) ?_
        refine lv_iload_n hx hb dX1_gain_13 rfl (lv_at hl 3 rfl) ?_
        obtain ⟨r_2, e_3, h⟩ := bnd1_some h
        refine cl_Vi (As := [.int a1, .int v3]) (rest := [.int v2]) (wc := wY cI cJ y0 y1 y2 y3 y4 y5 y6 y7 y8 hs si ag la fo co cv ta rc ec su pe ti mn nu th) (w1 := wY cI cJ y0 y1 y2 y3 y4 y5 y6 y7 y8 hs si ag la fo co cv ta rc ec su pe ti mn nu th) (wr := []) ⟨hx, hb, hml, hown, hts⟩ (c_X1_isWithin l D cI cJ y0 y1 y2 y3 y4 y5 y6 y7 y8 _ hs si ag la fo co cv ta rc ec su pe ti mn nu th a1 v3 r_2 e_3) (cwV 2 hts gX1_gain_X1_isWithin rfl rfl rfl (by decide +kernel) ⟨Nat.le_of_ble_eq_true rfl, Nat.le_of_ble_eq_true rfl⟩) hK hP hD hS hA [0, 1, 2, 3, 4, 5, 6, 7, 8] [] rfl rfl (by decide) (by decide) rfl rfl rfl rfl rfl hl.1 rfl (lv_room (Nat.le_of_ble_eq_true rfl)) dX1_gain_14 (fun H locs hP hD hS => ?_)
        have hP : va_P D vwCl (wY cI cJ y0 y1 y2 y3 y4 y5 y6 y7 y8 hs si ag la fo co cv ta rc ec su pe ti mn nu th) H := hP
        have hD : va_D A (wY cI cJ y0 y1 y2 y3 y4 y5 y6 y7 y8 hs si ag la fo co cv ta rc ec su pe ti mn nu th) := hD
        refine lv_if_eq (tgt := 37) hx hb dX1_gain_17 (by decide) (fun c_4 => ?_) (fun c_4 => ?_)
        · replace h := (if_pos c_4).symm.trans h
          refine lv_iconst (v := 0) hx hb dX1_gain_37 (by decide) ?_
          refine lv_iadd hx hb dX1_gain_38 ?_
          refine lv_istore_n (lv' := [(2, .int (v2 + 0)), (0, .ref y0), (1, .int a1), (3, .int v3)]) hx hb dX1_gain_39 rfl hl (by decide) rfl (fun ls hl => ?_)
          refine lv_iinc (v := (v3 + 1)) (lv' := [(3, .int (v3 + 1)), (2, .int (v2 + 0)), (0, .ref y0), (1, .int a1)]) hx hb dX1_gain_40 hl (k := 3) rfl rfl (by decide) rfl (fun ls hl => ?_)
          refine lv_goto (tgt := 4) hx hb dX1_gain_43 (by decide) ?_
          exact ih (v2 + 0) (v3 + 1) _ _ _ h hP hD hS (lv_sub hl [2, 3, 1, 0] rfl)
        · replace h := (if_neg c_4).symm.trans h
          refine lv_aload_n hx hb dX1_gain_20 rfl (lv_at hl 0 rfl) ?_
          refine lv_iload_n hx hb dX1_gain_21 rfl (lv_at hl 1 rfl) ?_
          refine lv_aload_n hx hb dX1_gain_22 rfl (lv_at hl 0 rfl) ?_
          refine va_get (D := D) (ci := 1) (v := .ref y7) (C := RX1) (T := TX1) (N := 16) hx hb hts hin hown hK hP 0 rfl rfl 6 (by decide) hw_0 (fun _ h9 => h9) rfl dX1_gain_23 ?_
          refine lv_iload_n hx hb dX1_gain_26 rfl (lv_at hl 3 rfl) ?_
          obtain ⟨h_5, h⟩ := ix_some h
          refine va_iald hx hb hK hP 7 0 rfl rfl h_5 dX1_gain_27 ?_
          refine lv_iconst (v := (-1)) hx hb dX1_gain_28 (by decide) ?_
          refine lv_ixor hx hb dX1_gain_29 ?_
          refine lv_iand hx hb dX1_gain_30 ?_
          obtain ⟨r_6, e_7, h⟩ := bnd1_some h
          refine cl_Vi (As := [.int (a1 &&& ((cv (Int32.toNatClampNeg v3)) ^^^ (-1)))]) (rest := [.int v2]) (wc := wY cI cJ y0 y1 y2 y3 y4 y5 y6 y7 y8 hs si ag la fo co cv ta rc ec su pe ti mn nu th) (w1 := wY cI cJ y0 y1 y2 y3 y4 y5 y6 y7 y8 hs si ag la fo co cv ta rc ec su pe ti mn nu th) (wr := []) ⟨hx, hb, hml, hown, hts⟩ (c_X1_size l D cI cJ y0 y1 y2 y3 y4 y5 y6 y7 y8 _ hs si ag la fo co cv ta rc ec su pe ti mn nu th fu (a1 &&& ((cv (Int32.toNatClampNeg v3)) ^^^ (-1))) r_6 e_7) (cwV 1 hts gX1_gain_X1_size rfl rfl rfl (by decide +kernel) ⟨Nat.le_of_ble_eq_true rfl, Nat.le_of_ble_eq_true rfl⟩) hK hP hD hS hA [0, 1, 2, 3, 4, 5, 6, 7, 8] [] rfl rfl (by decide) (by decide) rfl rfl rfl rfl rfl hl.1 rfl (lv_room (Nat.le_of_ble_eq_true rfl)) dX1_gain_31 (fun H locs hP hD hS => ?_)
          have hP : va_P D vwCl (wY cI cJ y0 y1 y2 y3 y4 y5 y6 y7 y8 hs si ag la fo co cv ta rc ec su pe ti mn nu th) H := hP
          have hD : va_D A (wY cI cJ y0 y1 y2 y3 y4 y5 y6 y7 y8 hs si ag la fo co cv ta rc ec su pe ti mn nu th) := hD
          refine lv_goto (tgt := 38) hx hb dX1_gain_34 (by decide) ?_
          refine lv_iadd hx hb dX1_gain_38 ?_
          refine lv_istore_n (lv' := [(2, .int (v2 + r_6)), (0, .ref y0), (1, .int a1), (3, .int v3)]) hx hb dX1_gain_39 rfl hl (by decide) rfl (fun ls hl => ?_)
          refine lv_iinc (v := (v3 + 1)) (lv' := [(3, .int (v3 + 1)), (2, .int (v2 + r_6)), (0, .ref y0), (1, .int a1)]) hx hb dX1_gain_40 hl (k := 3) rfl rfl (by decide) rfl (fun ls hl => ?_)
          refine lv_goto (tgt := 4) hx hb dX1_gain_43 (by decide) ?_
          exact ih (v2 + r_6) (v3 + 1) _ _ _ h hP hD hS (lv_sub hl [2, 3, 1, 0] rfl)
  rw [m_X1_gain] at h
  refine lv_iconst (v := 0) hx hb dX1_gain_0 (by decide) ?_
  refine lv_istore_n (lv' := [(2, .int 0), (0, .ref y0), (1, .int a1)]) hx hb dX1_gain_1 rfl hl (by decide) rfl (fun ls hl => ?_)
  refine lv_iconst (v := 0) hx hb dX1_gain_2 (by decide) ?_
  refine lv_istore_n (lv' := [(3, .int 0), (2, .int 0), (0, .ref y0), (1, .int a1)]) hx hb dX1_gain_3 rfl hl (by decide) rfl (fun ls hl => ?_)
  exact L4 fu 0 0 _ _ _ h hP hD hS (lv_sub hl [2, 3, 1, 0] rfl)
-- X1_price
def m_X1_price_6 (fu : Nat) (hs : Nat → Int32) (fo : Nat → Int32) (rc : Int32) (ec : Int32) (nu : Int32) (a1 : Int32) : Nat → Int32 → (Nat → Int32) → Option ((Int32) × ((Nat → Int32)))
  | 0, _, _ => none
  | n + 1, v2, cv => (if nu ≤ v2 then (bnd1 (m_X1_size fu a1) (fun r_4 => (bnd1 (m_X1_uncovered fu hs cv) (fun r_6 => some (((rc * r_4) + (ec * r_6)), cv))))) else (if (m_X1_isIn a1 v2) = 0 then (m_X1_price_6 fu hs fo rc ec nu a1 n (v2 + 1) cv) else (ix v2 256 (bnd1 (m_X1_add fu hs cv (fo (Int32.toNatClampNeg v2))) (fun cv_10 => (m_X1_price_6 fu hs fo rc ec nu a1 n (v2 + 1) cv_10))))))
def m_X1_price (fu : Nat) (hs : Nat → Int32) (fo : Nat → Int32) (cv : Nat → Int32) (rc : Int32) (ec : Int32) (nu : Int32) (a1 : Int32) : Option ((Int32) × ((Nat → Int32))) := (bnd1 (m_X1_uncover fu cv) (fun cv_1 => (m_X1_price_6 fu hs fo rc ec nu a1 fu 0 cv_1)))
set_option maxHeartbeats 4000000 in
set_option maxRecDepth 100000 in
theorem c_X1_price (l : Launch) (D : va_G) (cI cJ : ClassId) (y0 y1 y2 y3 y4 y5 y6 y7 y8 : Nat) (sz : Nat) (hs : Nat → Int32) (si : Nat → Int32) (ag : Nat → Int32) (la : Nat → Int32) (fo : Nat → Int32) (co : Nat → Int32) (cv : Nat → Int32) (ta : Nat → Int32) (rc : Int32) (ec : Int32) (su : Int32) (pe : Int32) (ti : Int32) (mn : Int32) (nu : Int32) (th : Int32) (fu : Nat) (a1 : Int32) (r0 : Int32) (cv' : Nat → Int32) (h : m_X1_price fu hs fo cv rc ec nu a1 = some (r0, cv')) : Met l yX1_price wsX1_price ({ frames := 2, cells := 0, slots := 0, locals := 45 }) (va_Pc [.ref y0, .int a1] (bx_Pre D [(cI, .int), (cJ, .long)] (wY cI cJ y0 y1 y2 y3 y4 y5 y6 y7 y8 hs si ag la fo co cv ta rc ec su pe ti mn nu th) sz)) (va_Qi (fun (r : Int32) (_ : Unit) => r = r0) (fun (_ : Unit) t => bx_Post D [(cI, .int), (cJ, .long)] (wY cI cJ y0 y1 y2 y3 y4 y5 y6 y7 y8 hs si ag la fo co cv' ta rc ec su pe ti mn nu th) (va_A (wY cI cJ y0 y1 y2 y3 y4 y5 y6 y7 y8 hs si ag la fo co cv ta rc ec su pe ti mn nu th) sz) t) (va_A (wY cI cJ y0 y1 y2 y3 y4 y5 y6 y7 y8 hs si ag la fo co cv ta rc ec su pe ti mn nu th) sz)) 0 0 (va_A (wY cI cJ y0 y1 y2 y3 y4 y5 y6 y7 y8 hs si ag la fo co cv ta rc ec su pe ti mn nu th) sz) := by
  refine Met.ofW (cc := cX1_price) (maxL := 3) (ret := (some .int)) (by decide) rfl ?_
  intro p e s m args below meth c s₁ B hml hv
  obtain ⟨rfl, hsz, hP, hK, hD0⟩ := hv
  have hx := B.exec
  have hb := B.bytes
  have hr := B.returns
  have hts := atoms_spec (ws := wsX1_price) B.pre
  have hown : s.vm.findClass RX1 = some m.cls := findClass_of_methodNamed B.named
  have hlocks := B.notSynchronized
  subst hsz
  have hD := hD0.self (sz := s.heap.size)
  generalize hAe : va_A (wY cI cJ y0 y1 y2 y3 y4 y5 y6 y7 y8 hs si ag la fo co cv ta rc ec su pe ti mn nu th) s.heap.size = A at hD ⊢
  have hA : ∀ q : Nat, s.heap.size ≤ q → A q := fun q h9 => by rw [← hAe]; exact Or.inr h9
  have hS : va_S A s.heap s.heap [] := va_S.rf
  have hin : ∀ w ∈ wsX10, w ∈ wsX1_price := fun _ h9 => List.mem_cons_of_mem _ (List.mem_append_right _ h9)
  have hw_0 := hts (.fieldLink RX1 86 "RoleMinerModel" "number" "I") (by decide +kernel)
  have hw_1 := hts (.fieldLink RX1 34 "RoleMinerModel" "roleCost" "I") (by decide +kernel)
  have hw_2 := hts (.fieldLink RX1 38 "RoleMinerModel" "exceptionCost" "I") (by decide +kernel)
  have hw_3 := hts (.fieldLink RX1 22 "RoleMinerModel" "found" "[I") (by decide +kernel)
  have hl := lv_entry ([.ref y0, .int a1]) (n := 3) (Nat.le_of_ble_eq_true rfl)
  rw [lg_entry_eq]
  generalize (lg_sl ([.ref y0, .int a1]) ++ List.replicate (3 - (lg_sl ([.ref y0, .int a1])).length) Slot.unset).toArray = ls at hl ⊢
  have hl : lv_has ls 3 [(0, .ref y0), (1, .int a1)] := hl
  have L6 : ∀ (n : Nat) (v2 : Int32) (cv : Nat → Int32) (H : Heap) (locs : List Loc) (ls : Array Slot), m_X1_price_6 fu hs fo rc ec nu a1 n v2 cv = some (r0, cv') → va_P D vwCl (wY cI cJ y0 y1 y2 y3 y4 y5 y6 y7 y8 hs si ag la fo co cv ta rc ec su pe ti mn nu th) H → va_D A (wY cI cJ y0 y1 y2 y3 y4 y5 y6 y7 y8 hs si ag la fo co cv ta rc ec su pe ti mn nu th) → va_S A s.heap H locs → lv_has ls 3 [(0, .ref y0), (1, .int a1), (2, .int v2)] → W p l e (headSpec wsX1_price ({ frames := 2, cells := 0, slots := 0, locals := 45 })).room s m ([.ref y0, .int a1] : List Value).toArray below meth c H locs 0 0 (MQ below (va_Qi (fun (r : Int32) (_ : Unit) => r = r0) (fun (_ : Unit) t => bx_Post D [(cI, .int), (cJ, .long)] (wY cI cJ y0 y1 y2 y3 y4 y5 y6 y7 y8 hs si ag la fo co cv' ta rc ec su pe ti mn nu th) A t) A) ([.ref y0, .int a1] : List Value).toArray s 0 0 A) (F0 m 6 ls []) := by
    intro n
    induction n with
    | zero =>
      intro v2 cv H locs ls h
      rw [m_X1_price_6] at h
      cases h
    | succ n ih =>
      intro v2 cv H locs ls h hP hD hS hl
      rw [m_X1_price_6] at h
      refine lv_iload_n hx hb dX1_price_6 rfl (lv_at hl 2 rfl) ?_
      refine lv_aload_n hx hb dX1_price_7 rfl (lv_at hl 0 rfl) ?_
      refine va_get (D := D) (ci := 1) (v := .int nu) (C := RX1) (T := TX1) (N := 16) hx hb hts hin hown hK hP 0 rfl rfl 14 (by decide) hw_0 (fun _ h9 => h9) rfl dX1_price_8 ?_
      refine lv_icmp_ge (tgt := 39) hx hb dX1_price_11 (by decide) (fun c_3 => ?_) (fun c_3 => ?_)
      · replace h := (if_pos c_3).symm.trans h
        refine lv_aload_n hx hb dX1_price_39 rfl (lv_at hl 0 rfl) ?_
        refine va_get (D := D) (ci := 1) (v := .int rc) (C := RX1) (T := TX1) (N := 16) hx hb hts hin hown hK hP 0 rfl rfl 8 (by decide) hw_1 (fun _ h9 => h9) rfl dX1_price_40 ?_
        refine lv_aload_n hx hb dX1_price_43 rfl (lv_at hl 0 rfl) ?_
        refine lv_iload_n hx hb dX1_price_44 rfl (lv_at hl 1 rfl) ?_
        obtain ⟨r_4, e_5, h⟩ := bnd1_some h
        refine cl_Vi (As := [.int a1]) (rest := [.int rc]) (wc := wY cI cJ y0 y1 y2 y3 y4 y5 y6 y7 y8 hs si ag la fo co cv ta rc ec su pe ti mn nu th) (w1 := wY cI cJ y0 y1 y2 y3 y4 y5 y6 y7 y8 hs si ag la fo co cv ta rc ec su pe ti mn nu th) (wr := []) ⟨hx, hb, hml, hown, hts⟩ (c_X1_size l D cI cJ y0 y1 y2 y3 y4 y5 y6 y7 y8 _ hs si ag la fo co cv ta rc ec su pe ti mn nu th fu a1 r_4 e_5) (cwV 1 hts gX1_price_X1_size rfl rfl rfl (by decide +kernel) ⟨Nat.le_of_ble_eq_true rfl, Nat.le_of_ble_eq_true rfl⟩) hK hP hD hS hA [0, 1, 2, 3, 4, 5, 6, 7, 8] [] rfl rfl (by decide) (by decide) rfl rfl rfl rfl rfl hl.1 rfl (lv_room (Nat.le_of_ble_eq_true rfl)) dX1_price_45 (fun H locs hP hD hS => ?_)
        have hP : va_P D vwCl (wY cI cJ y0 y1 y2 y3 y4 y5 y6 y7 y8 hs si ag la fo co cv ta rc ec su pe ti mn nu th) H := hP
        have hD : va_D A (wY cI cJ y0 y1 y2 y3 y4 y5 y6 y7 y8 hs si ag la fo co cv ta rc ec su pe ti mn nu th) := hD
        refine lv_imul hx hb dX1_price_48 ?_
        refine lv_aload_n hx hb dX1_price_49 rfl (lv_at hl 0 rfl) ?_
        refine va_get (D := D) (ci := 1) (v := .int ec) (C := RX1) (T := TX1) (N := 16) hx hb hts hin hown hK hP 0 rfl rfl 9 (by decide) hw_2 (fun _ h9 => h9) rfl dX1_price_50 ?_
        refine lv_aload_n hx hb dX1_price_53 rfl (lv_at hl 0 rfl) ?_
        obtain ⟨r_6, e_7, h⟩ := bnd1_some h
        refine cl_Vi (As := []) (rest := [.int ec, .int (rc * r_4)]) (wc := wY cI cJ y0 y1 y2 y3 y4 y5 y6 y7 y8 hs si ag la fo co cv ta rc ec su pe ti mn nu th) (w1 := wY cI cJ y0 y1 y2 y3 y4 y5 y6 y7 y8 hs si ag la fo co cv ta rc ec su pe ti mn nu th) (wr := []) ⟨hx, hb, hml, hown, hts⟩ (c_X1_uncovered l D cI cJ y0 y1 y2 y3 y4 y5 y6 y7 y8 _ hs si ag la fo co cv ta rc ec su pe ti mn nu th fu  r_6 e_7) (cwV 0 hts gX1_price_X1_uncovered rfl rfl rfl (by decide +kernel) ⟨Nat.le_of_ble_eq_true rfl, Nat.le_of_ble_eq_true rfl⟩) hK hP hD hS hA [0, 1, 2, 3, 4, 5, 6, 7, 8] [] rfl rfl (by decide) (by decide) rfl rfl rfl rfl rfl hl.1 rfl (lv_room (Nat.le_of_ble_eq_true rfl)) dX1_price_54 (fun H locs hP hD hS => ?_)
        have hP : va_P D vwCl (wY cI cJ y0 y1 y2 y3 y4 y5 y6 y7 y8 hs si ag la fo co cv ta rc ec su pe ti mn nu th) H := hP
        have hD : va_D A (wY cI cJ y0 y1 y2 y3 y4 y5 y6 y7 y8 hs si ag la fo co cv ta rc ec su pe ti mn nu th) := hD
        refine lv_imul hx hb dX1_price_57 ?_
        refine lv_iadd hx hb dX1_price_58 ?_
        cases h
        exact W.iret hx hb hr (fun t ht hW => ⟨⟨_, (), rfl, rfl, by rw [ht]; exact hP, va_K.moved hW.alike hK, hD⟩, hS.F ht⟩) hS.2.2 dX1_price_59
      · replace h := (if_neg c_3).symm.trans h
        refine lv_aload_n hx hb dX1_price_14 rfl (lv_at hl 0 rfl) ?_
        refine lv_iload_n hx hb dX1_price_15 rfl (lv_at hl 1 rfl) ?_
        refine lv_iload_n hx hb dX1_price_16 rfl (lv_at hl 2 rfl) ?_
        refine cl_Vi (As := [.int a1, .int v2]) (rest := []) (wc := wY cI cJ y0 y1 y2 y3 y4 y5 y6 y7 y8 hs si ag la fo co cv ta rc ec su pe ti mn nu th) (w1 := wY cI cJ y0 y1 y2 y3 y4 y5 y6 y7 y8 hs si ag la fo co cv ta rc ec su pe ti mn nu th) (wr := []) ⟨hx, hb, hml, hown, hts⟩ (c_X1_isIn l D cI cJ y0 y1 y2 y3 y4 y5 y6 y7 y8 _ hs si ag la fo co cv ta rc ec su pe ti mn nu th a1 v2) (cwV 2 hts gX1_price_X1_isIn rfl rfl rfl (by decide +kernel) ⟨Nat.le_of_ble_eq_true rfl, Nat.le_of_ble_eq_true rfl⟩) hK hP hD hS hA [0, 1, 2, 3, 4, 5, 6, 7, 8] [] rfl rfl (by decide) (by decide) rfl rfl rfl rfl rfl hl.1 rfl (lv_room (Nat.le_of_ble_eq_true rfl)) dX1_price_17 (fun H locs hP hD hS => ?_)
        have hP : va_P D vwCl (wY cI cJ y0 y1 y2 y3 y4 y5 y6 y7 y8 hs si ag la fo co cv ta rc ec su pe ti mn nu th) H := hP
        have hD : va_D A (wY cI cJ y0 y1 y2 y3 y4 y5 y6 y7 y8 hs si ag la fo co cv ta rc ec su pe ti mn nu th) := hD
        refine lv_if_eq (tgt := 33) hx hb dX1_price_20 (by decide) (fun c_8 => ?_) (fun c_8 => ?_)
        · replace h := (if_pos c_8).symm.trans h
          refine lv_iinc (v := (v2 + 1)) (lv' := [(2, .int (v2 + 1)), (0, .ref y0), (1, .int a1)]) hx hb dX1_price_33 hl (k := 2) rfl rfl (by decide) rfl (fun ls hl => ?_)
          refine lv_goto (tgt := 6) hx hb dX1_price_36 (by decide) ?_
          exact ih (v2 + 1) cv _ _ _ h hP hD hS (lv_sub hl [1, 2, 0] rfl)
        · replace h := (if_neg c_8).symm.trans h
          refine lv_aload_n hx hb dX1_price_23 rfl (lv_at hl 0 rfl) ?_
          refine lv_aload_n hx hb dX1_price_24 rfl (lv_at hl 0 rfl) ?_
          refine va_get (D := D) (ci := 1) (v := .ref y5) (C := RX1) (T := TX1) (N := 16) hx hb hts hin hown hK hP 0 rfl rfl 4 (by decide) hw_3 (fun _ h9 => h9) rfl dX1_price_25 ?_
          refine lv_iload_n hx hb dX1_price_28 rfl (lv_at hl 2 rfl) ?_
          obtain ⟨h_9, h⟩ := ix_some h
          refine va_iald hx hb hK hP 5 0 rfl rfl h_9 dX1_price_29 ?_
          obtain ⟨cv_10, e_11, h⟩ := bnd1_some h
          refine cl_Vv (As := [.int (fo (Int32.toNatClampNeg v2))]) (rest := []) (wc := wY cI cJ y0 y1 y2 y3 y4 y5 y6 y7 y8 hs si ag la fo co cv ta rc ec su pe ti mn nu th) (w1 := wY cI cJ y0 y1 y2 y3 y4 y5 y6 y7 y8 hs si ag la fo co cv_10 ta rc ec su pe ti mn nu th) (wr := []) ⟨hx, hb, hml, hown, hts⟩ (c_X1_add l D cI cJ y0 y1 y2 y3 y4 y5 y6 y7 y8 _ hs si ag la fo co cv ta rc ec su pe ti mn nu th fu (fo (Int32.toNatClampNeg v2)) cv_10 e_11) (cwV 1 hts gX1_price_X1_add rfl rfl rfl (by decide +kernel) ⟨Nat.le_of_ble_eq_true rfl, Nat.le_of_ble_eq_true rfl⟩) hK hP hD hS hA [0, 1, 2, 3, 4, 5, 6, 7, 8] [] rfl rfl (by decide) (by decide) rfl rfl rfl rfl rfl hl.1 rfl (lv_room (Nat.le_of_ble_eq_true rfl)) dX1_price_30 (fun H locs hP hD hS => ?_)
          have hP : va_P D vwCl (wY cI cJ y0 y1 y2 y3 y4 y5 y6 y7 y8 hs si ag la fo co cv_10 ta rc ec su pe ti mn nu th) H := hP
          have hD : va_D A (wY cI cJ y0 y1 y2 y3 y4 y5 y6 y7 y8 hs si ag la fo co cv_10 ta rc ec su pe ti mn nu th) := hD
          refine lv_iinc (v := (v2 + 1)) (lv' := [(2, .int (v2 + 1)), (0, .ref y0), (1, .int a1)]) hx hb dX1_price_33 hl (k := 2) rfl rfl (by decide) rfl (fun ls hl => ?_)
          refine lv_goto (tgt := 6) hx hb dX1_price_36 (by decide) ?_
          exact ih (v2 + 1) cv_10 _ _ _ h hP hD hS (lv_sub hl [1, 2, 0] rfl)
  rw [m_X1_price] at h
  refine lv_aload_n hx hb dX1_price_0 rfl (lv_at hl 0 rfl) ?_
  obtain ⟨cv_1, e_2, h⟩ := bnd1_some h
  refine cl_Vv (As := []) (rest := []) (wc := wY cI cJ y0 y1 y2 y3 y4 y5 y6 y7 y8 hs si ag la fo co cv ta rc ec su pe ti mn nu th) (w1 := wY cI cJ y0 y1 y2 y3 y4 y5 y6 y7 y8 hs si ag la fo co cv_1 ta rc ec su pe ti mn nu th) (wr := []) ⟨hx, hb, hml, hown, hts⟩ (c_X1_uncover l D cI cJ y0 y1 y2 y3 y4 y5 y6 y7 y8 _ hs si ag la fo co cv ta rc ec su pe ti mn nu th fu  cv_1 e_2) (cwV 0 hts gX1_price_X1_uncover rfl rfl rfl (by decide +kernel) ⟨Nat.le_of_ble_eq_true rfl, Nat.le_of_ble_eq_true rfl⟩) hK hP hD hS hA [0, 1, 2, 3, 4, 5, 6, 7, 8] [] rfl rfl (by decide) (by decide) rfl rfl rfl rfl rfl hl.1 rfl (lv_room (Nat.le_of_ble_eq_true rfl)) dX1_price_1 (fun H locs hP hD hS => ?_)
  have hP : va_P D vwCl (wY cI cJ y0 y1 y2 y3 y4 y5 y6 y7 y8 hs si ag la fo co cv_1 ta rc ec su pe ti mn nu th) H := hP
  have hD : va_D A (wY cI cJ y0 y1 y2 y3 y4 y5 y6 y7 y8 hs si ag la fo co cv_1 ta rc ec su pe ti mn nu th) := hD
  refine lv_iconst (v := 0) hx hb dX1_price_4 (by decide) ?_
  refine lv_istore_n (lv' := [(2, .int 0), (0, .ref y0), (1, .int a1)]) hx hb dX1_price_5 rfl hl (by decide) rfl (fun ls hl => ?_)
  exact L6 fu 0 cv_1 _ _ _ h hP hD hS (lv_sub hl [1, 2, 0] rfl)
-- X1_mineGreedily
def m_X1_mineGreedily_150 (fu : Nat) (hs : Nat → Int32) (ag : Nat → Int32) (rc : Int32) (ec : Int32) (su : Int32) : Nat → Int32 → Int32 → (Nat → Int32) → (Nat → Int32) → (Nat → Int32) → (Nat → Int32) → (Nat → Int32) → (Int32) → (Int32) → (Int32) → Option ((Int32) × ((Nat → Int32)) × ((Nat → Int32)) × ((Nat → Int32)) × ((Nat → Int32)) × ((Nat → Int32)) × ((Int32)) × ((Int32)) × ((Int32)))
  | 0, _, _, _, _, _, _, _, _, _, _ => none
  | n + 1, v1, v3, la, fo, co, cv, ta, mn, nu, th => (if nu ≤ v3 then (bnd1 (m_X1_uncovered fu hs cv) (fun r_22 => some (((rc * v1) + (ec * r_22)), la, fo, co, cv, ta, mn, nu, th))) else (ix v3 256 (if (ta (Int32.toNatClampNeg v3)) = 1 then (ix mn 256 (m_X1_mineGreedily_150 fu hs ag rc ec su n v1 (v3 + 1) (upd la (Int32.toNatClampNeg mn) (fo (Int32.toNatClampNeg v3))) fo co cv ta (mn + 1) nu th)) else (m_X1_mineGreedily_150 fu hs ag rc ec su n v1 (v3 + 1) la fo co cv ta mn nu th))))
def m_X1_mineGreedily_40 (fu : Nat) (hs : Nat → Int32) (ag : Nat → Int32) (rc : Int32) (ec : Int32) (su : Int32) : Nat → Nat → Int32 → Int32 → Int32 → Int32 → (Nat → Int32) → (Nat → Int32) → (Nat → Int32) → (Nat → Int32) → (Nat → Int32) → (Int32) → (Int32) → (Int32) → Option ((Int32) × ((Nat → Int32)) × ((Nat → Int32)) × ((Nat → Int32)) × ((Nat → Int32)) × ((Nat → Int32)) × ((Int32)) × ((Int32)) × ((Int32)))
  | 0, _, _, _, _, _, _, _, _, _, _, _, _, _ => none
  | n + 1, tg, v1, v2, v3, v4, la, fo, co, cv, ta, mn, nu, th => if tg = 0 then (if v2 < 0 then (m_X1_mineGreedily_150 fu hs ag rc ec su fu v1 0 la fo co cv ta 0 nu th) else (m_X1_mineGreedily_40 fu hs ag rc ec su n 1 v1 (-1) 0 0 la fo co cv ta mn nu th)) else (if nu ≤ v4 then (if v2 < 0 then (m_X1_mineGreedily_40 fu hs ag rc ec su n 0 v1 v2 0 0 la fo co cv ta mn nu th) else (ix v2 256 (bnd1 (m_X1_add fu hs cv (fo (Int32.toNatClampNeg v2))) (fun cv_13 => (m_X1_mineGreedily_40 fu hs ag rc ec su n 0 (v1 + 1) v2 0 0 la fo co cv_13 (upd ta (Int32.toNatClampNeg v2) 1) mn nu th))))) else (ix v4 256 (if (ta (Int32.toNatClampNeg v4)) = 1 then (if 0 ≤ v3 then (m_X1_mineGreedily_40 fu hs ag rc ec su n 1 v1 v2 v3 (v4 + 1) la fo co cv ta mn nu th) else (m_X1_mineGreedily_40 fu hs ag rc ec su n 1 v1 v4 0 (v4 + 1) la fo co cv ta mn nu th)) else (bnd1 (m_X1_gain fu hs cv (fo (Int32.toNatClampNeg v4))) (fun r_17 => (if ((ec * r_17) - rc) ≤ v3 then (m_X1_mineGreedily_40 fu hs ag rc ec su n 1 v1 v2 v3 (v4 + 1) la fo co cv ta mn nu th) else (m_X1_mineGreedily_40 fu hs ag rc ec su n 1 v1 v4 ((ec * r_17) - rc) (v4 + 1) la fo co cv ta mn nu th)))))))
def m_X1_mineGreedily_15 (fu : Nat) (hs : Nat → Int32) (ag : Nat → Int32) (rc : Int32) (ec : Int32) (su : Int32) : Nat → Int32 → (Nat → Int32) → (Nat → Int32) → (Nat → Int32) → (Nat → Int32) → (Nat → Int32) → (Int32) → (Int32) → (Int32) → Option ((Int32) × ((Nat → Int32)) × ((Nat → Int32)) × ((Nat → Int32)) × ((Nat → Int32)) × ((Nat → Int32)) × ((Int32)) × ((Int32)) × ((Int32)))
  | 0, _, _, _, _, _, _, _, _, _ => none
  | n + 1, v1, la, fo, co, cv, ta, mn, nu, th => (if nu ≤ v1 then (m_X1_mineGreedily_40 fu hs ag rc ec su fu 0 0 0 0 0 la fo co cv ta mn nu th) else (ix v1 256 (m_X1_mineGreedily_15 fu hs ag rc ec su n (v1 + 1) la fo co cv (upd ta (Int32.toNatClampNeg v1) 0) mn nu th)))
def m_X1_mineGreedily (fu : Nat) (hs : Nat → Int32) (ag : Nat → Int32) (la : Nat → Int32) (fo : Nat → Int32) (co : Nat → Int32) (cv : Nat → Int32) (ta : Nat → Int32) (rc : Int32) (ec : Int32) (su : Int32) (mn : Int32) (nu : Int32) (th : Int32) : Option ((Int32) × ((Nat → Int32)) × ((Nat → Int32)) × ((Nat → Int32)) × ((Nat → Int32)) × ((Nat → Int32)) × ((Int32)) × ((Int32)) × ((Int32))) := (bnd3 (m_X1_find fu hs ag fo co su nu) (fun fo_1 co_2 nu_3 => (bnd1 (m_X1_uncover fu cv) (fun cv_5 => (m_X1_mineGreedily_15 fu hs ag rc ec su fu 0 la fo_1 co_2 cv_5 ta mn nu_3 0)))))
set_option maxHeartbeats 4000000 in
set_option maxRecDepth 100000 in
theorem c_X1_mineGreedily (l : Launch) (D : va_G) (cI cJ : ClassId) (y0 y1 y2 y3 y4 y5 y6 y7 y8 : Nat) (sz : Nat) (hs : Nat → Int32) (si : Nat → Int32) (ag : Nat → Int32) (la : Nat → Int32) (fo : Nat → Int32) (co : Nat → Int32) (cv : Nat → Int32) (ta : Nat → Int32) (rc : Int32) (ec : Int32) (su : Int32) (pe : Int32) (ti : Int32) (mn : Int32) (nu : Int32) (th : Int32) (fu : Nat) (r0 : Int32) (la' : Nat → Int32) (fo' : Nat → Int32) (co' : Nat → Int32) (cv' : Nat → Int32) (ta' : Nat → Int32) (mn' : Int32) (nu' : Int32) (th' : Int32) (h : m_X1_mineGreedily fu hs ag la fo co cv ta rc ec su mn nu th = some (r0, la', fo', co', cv', ta', mn', nu', th')) : Met l yX1_mineGreedily wsX1_mineGreedily ({ frames := 3, cells := 0, slots := 0, locals := 68 }) (va_Pc [.ref y0] (bx_Pre D [(cI, .int), (cJ, .long)] (wY cI cJ y0 y1 y2 y3 y4 y5 y6 y7 y8 hs si ag la fo co cv ta rc ec su pe ti mn nu th) sz)) (va_Qi (fun (r : Int32) (_ : Unit) => r = r0) (fun (_ : Unit) t => bx_Post D [(cI, .int), (cJ, .long)] (wY cI cJ y0 y1 y2 y3 y4 y5 y6 y7 y8 hs si ag la' fo' co' cv' ta' rc ec su pe ti mn' nu' th') (va_A (wY cI cJ y0 y1 y2 y3 y4 y5 y6 y7 y8 hs si ag la fo co cv ta rc ec su pe ti mn nu th) sz) t) (va_A (wY cI cJ y0 y1 y2 y3 y4 y5 y6 y7 y8 hs si ag la fo co cv ta rc ec su pe ti mn nu th) sz)) 0 0 (va_A (wY cI cJ y0 y1 y2 y3 y4 y5 y6 y7 y8 hs si ag la fo co cv ta rc ec su pe ti mn nu th) sz) := by
  refine Met.ofW (cc := cX1_mineGreedily) (maxL := 6) (ret := (some .int)) (by decide) rfl ?_
  intro p e s m args below meth c s₁ B hml hv
  obtain ⟨rfl, hsz, hP, hK, hD0⟩ := hv
  have hx := B.exec
  have hb := B.bytes
  have hr := B.returns
  have hts := atoms_spec (ws := wsX1_mineGreedily) B.pre
  have hown : s.vm.findClass RX1 = some m.cls := findClass_of_methodNamed B.named
  have hlocks := B.notSynchronized
  subst hsz
  have hD := hD0.self (sz := s.heap.size)
  generalize hAe : va_A (wY cI cJ y0 y1 y2 y3 y4 y5 y6 y7 y8 hs si ag la fo co cv ta rc ec su pe ti mn nu th) s.heap.size = A at hD ⊢
  have hA : ∀ q : Nat, s.heap.size ≤ q → A q := fun q h9 => by rw [← hAe]; exact Or.inr h9
  have hS : va_S A s.heap s.heap [] := va_S.rf
  have hin : ∀ w ∈ wsX10, w ∈ wsX1_mineGreedily := fun _ h9 => List.mem_cons_of_mem _ (List.mem_append_right _ h9)
  have hw_0 := hts (.fieldLink RX1 47 "RoleMinerModel" "thrown" "I") (by decide +kernel)
  have hw_1 := hts (.fieldLink RX1 86 "RoleMinerModel" "number" "I") (by decide +kernel)
  have hw_2 := hts (.fieldLink RX1 31 "RoleMinerModel" "taken" "[I") (by decide +kernel)
  have hw_3 := hts (.fieldLink RX1 112 "RoleMinerModel" "many" "I") (by decide +kernel)
  have hw_4 := hts (.fieldLink RX1 22 "RoleMinerModel" "found" "[I") (by decide +kernel)
  have hw_5 := hts (.fieldLink RX1 38 "RoleMinerModel" "exceptionCost" "I") (by decide +kernel)
  have hw_6 := hts (.fieldLink RX1 34 "RoleMinerModel" "roleCost" "I") (by decide +kernel)
  have hw_7 := hts (.fieldLink RX1 19 "RoleMinerModel" "laid" "[I") (by decide +kernel)
  have hl := lv_entry ([.ref y0]) (n := 6) (Nat.le_of_ble_eq_true rfl)
  rw [lg_entry_eq]
  generalize (lg_sl ([.ref y0]) ++ List.replicate (6 - (lg_sl ([.ref y0])).length) Slot.unset).toArray = ls at hl ⊢
  have hl : lv_has ls 6 [(0, .ref y0)] := hl
  have L150 : ∀ (n : Nat) (v1 : Int32) (v3 : Int32) (la : Nat → Int32) (fo : Nat → Int32) (co : Nat → Int32) (cv : Nat → Int32) (ta : Nat → Int32) (mn : Int32) (nu : Int32) (th : Int32) (H : Heap) (locs : List Loc) (ls : Array Slot), m_X1_mineGreedily_150 fu hs ag rc ec su n v1 v3 la fo co cv ta mn nu th = some (r0, la', fo', co', cv', ta', mn', nu', th') → va_P D vwCl (wY cI cJ y0 y1 y2 y3 y4 y5 y6 y7 y8 hs si ag la fo co cv ta rc ec su pe ti mn nu th) H → va_D A (wY cI cJ y0 y1 y2 y3 y4 y5 y6 y7 y8 hs si ag la fo co cv ta rc ec su pe ti mn nu th) → va_S A s.heap H locs → lv_has ls 6 [(0, .ref y0), (1, .int v1), (3, .int v3)] → W p l e (headSpec wsX1_mineGreedily ({ frames := 3, cells := 0, slots := 0, locals := 68 })).room s m ([.ref y0] : List Value).toArray below meth c H locs 0 0 (MQ below (va_Qi (fun (r : Int32) (_ : Unit) => r = r0) (fun (_ : Unit) t => bx_Post D [(cI, .int), (cJ, .long)] (wY cI cJ y0 y1 y2 y3 y4 y5 y6 y7 y8 hs si ag la' fo' co' cv' ta' rc ec su pe ti mn' nu' th') A t) A) ([.ref y0] : List Value).toArray s 0 0 A) (F0 m 150 ls []) := by
    intro n
    induction n with
    | zero =>
      intro v1 v3 la fo co cv ta mn nu th H locs ls h
      rw [m_X1_mineGreedily_150] at h
      cases h
    | succ n ih =>
      intro v1 v3 la fo co cv ta mn nu th H locs ls h hP hD hS hl
      rw [m_X1_mineGreedily_150] at h
      refine lv_iload_n hx hb dX1_mineGreedily_150 rfl (lv_at hl 2 rfl) ?_
      refine lv_aload_n hx hb dX1_mineGreedily_151 rfl (lv_at hl 0 rfl) ?_
      refine va_get (D := D) (ci := 1) (v := .int nu) (C := RX1) (T := TX1) (N := 16) hx hb hts hin hown hK hP 0 rfl rfl 14 (by decide) hw_1 (fun _ h9 => h9) rfl dX1_mineGreedily_152 ?_
      refine lv_icmp_ge (tgt := 199) hx hb dX1_mineGreedily_155 (by decide) (fun c_21 => ?_) (fun c_21 => ?_)
      · replace h := (if_pos c_21).symm.trans h
        refine lv_aload_n hx hb dX1_mineGreedily_199 rfl (lv_at hl 0 rfl) ?_
        refine va_get (D := D) (ci := 1) (v := .int rc) (C := RX1) (T := TX1) (N := 16) hx hb hts hin hown hK hP 0 rfl rfl 8 (by decide) hw_6 (fun _ h9 => h9) rfl dX1_mineGreedily_200 ?_
        refine lv_iload_n hx hb dX1_mineGreedily_203 rfl (lv_at hl 1 rfl) ?_
        refine lv_imul hx hb dX1_mineGreedily_204 ?_
        refine lv_aload_n hx hb dX1_mineGreedily_205 rfl (lv_at hl 0 rfl) ?_
        refine va_get (D := D) (ci := 1) (v := .int ec) (C := RX1) (T := TX1) (N := 16) hx hb hts hin hown hK hP 0 rfl rfl 9 (by decide) hw_5 (fun _ h9 => h9) rfl dX1_mineGreedily_206 ?_
        refine lv_aload_n hx hb dX1_mineGreedily_209 rfl (lv_at hl 0 rfl) ?_
        obtain ⟨r_22, e_23, h⟩ := bnd1_some h
        refine cl_Vi (As := []) (rest := [.int ec, .int (rc * v1)]) (wc := wY cI cJ y0 y1 y2 y3 y4 y5 y6 y7 y8 hs si ag la fo co cv ta rc ec su pe ti mn nu th) (w1 := wY cI cJ y0 y1 y2 y3 y4 y5 y6 y7 y8 hs si ag la fo co cv ta rc ec su pe ti mn nu th) (wr := []) ⟨hx, hb, hml, hown, hts⟩ (c_X1_uncovered l D cI cJ y0 y1 y2 y3 y4 y5 y6 y7 y8 _ hs si ag la fo co cv ta rc ec su pe ti mn nu th fu  r_22 e_23) (cwV 0 hts gX1_mineGreedily_X1_uncovered rfl rfl rfl (by decide +kernel) ⟨Nat.le_of_ble_eq_true rfl, Nat.le_of_ble_eq_true rfl⟩) hK hP hD hS hA [0, 1, 2, 3, 4, 5, 6, 7, 8] [] rfl rfl (by decide) (by decide) rfl rfl rfl rfl rfl hl.1 rfl (lv_room (Nat.le_of_ble_eq_true rfl)) dX1_mineGreedily_210 (fun H locs hP hD hS => ?_)
        have hP : va_P D vwCl (wY cI cJ y0 y1 y2 y3 y4 y5 y6 y7 y8 hs si ag la fo co cv ta rc ec su pe ti mn nu th) H := hP
        have hD : va_D A (wY cI cJ y0 y1 y2 y3 y4 y5 y6 y7 y8 hs si ag la fo co cv ta rc ec su pe ti mn nu th) := hD
        refine lv_imul hx hb dX1_mineGreedily_213 ?_
        refine lv_iadd hx hb dX1_mineGreedily_214 ?_
        cases h
        exact W.iret hx hb hr (fun t ht hW => ⟨⟨_, (), rfl, rfl, by rw [ht]; exact hP, va_K.moved hW.alike hK, hD⟩, hS.F ht⟩) hS.2.2 dX1_mineGreedily_215
      · replace h := (if_neg c_21).symm.trans h
        refine lv_aload_n hx hb dX1_mineGreedily_158 rfl (lv_at hl 0 rfl) ?_
        refine va_get (D := D) (ci := 1) (v := .ref y8) (C := RX1) (T := TX1) (N := 16) hx hb hts hin hown hK hP 0 rfl rfl 7 (by decide) hw_2 (fun _ h9 => h9) rfl dX1_mineGreedily_159 ?_
        refine lv_iload_n hx hb dX1_mineGreedily_162 rfl (lv_at hl 2 rfl) ?_
        obtain ⟨h_24, h⟩ := ix_some h
        refine va_iald hx hb hK hP 8 0 rfl rfl h_24 dX1_mineGreedily_163 ?_
        refine lv_iconst (v := 1) hx hb dX1_mineGreedily_164 (by decide) ?_
        refine lv_icmp_ne (tgt := 193) hx hb dX1_mineGreedily_165 (by decide) (fun c_25 => ?_) (fun c_25 => ?_)
        · replace h := (if_neg c_25).symm.trans h
          refine lv_iinc (v := (v3 + 1)) (lv' := [(3, .int (v3 + 1)), (0, .ref y0), (1, .int v1)]) hx hb dX1_mineGreedily_193 hl (k := 2) rfl rfl (by decide) rfl (fun ls hl => ?_)
          refine lv_goto (tgt := 150) hx hb dX1_mineGreedily_196 (by decide) ?_
          exact ih v1 (v3 + 1) la fo co cv ta mn nu th _ _ _ h hP hD hS (lv_sub hl [1, 2, 0] rfl)
        · replace h := (if_pos c_25).symm.trans h
          refine lv_aload_n hx hb dX1_mineGreedily_168 rfl (lv_at hl 0 rfl) ?_
          refine va_get (D := D) (ci := 1) (v := .ref y4) (C := RX1) (T := TX1) (N := 16) hx hb hts hin hown hK hP 0 rfl rfl 3 (by decide) hw_7 (fun _ h9 => h9) rfl dX1_mineGreedily_169 ?_
          refine lv_aload_n hx hb dX1_mineGreedily_172 rfl (lv_at hl 0 rfl) ?_
          refine va_get (D := D) (ci := 1) (v := .int mn) (C := RX1) (T := TX1) (N := 16) hx hb hts hin hown hK hP 0 rfl rfl 13 (by decide) hw_3 (fun _ h9 => h9) rfl dX1_mineGreedily_173 ?_
          refine lv_aload_n hx hb dX1_mineGreedily_176 rfl (lv_at hl 0 rfl) ?_
          refine va_get (D := D) (ci := 1) (v := .ref y5) (C := RX1) (T := TX1) (N := 16) hx hb hts hin hown hK hP 0 rfl rfl 4 (by decide) hw_4 (fun _ h9 => h9) rfl dX1_mineGreedily_177 ?_
          refine lv_iload_n hx hb dX1_mineGreedily_180 rfl (lv_at hl 2 rfl) ?_
          refine va_iald hx hb hK hP 5 0 rfl rfl h_24 dX1_mineGreedily_181 ?_
          obtain ⟨h_26, h⟩ := ix_some h
          refine va_iast hx hb hK hP hD hS 4 0 rfl rfl h_26 dX1_mineGreedily_182 (fun H locs hP hD hS => ?_)
          have hP : va_P D vwCl (wY cI cJ y0 y1 y2 y3 y4 y5 y6 y7 y8 hs si ag (upd la (Int32.toNatClampNeg mn) (fo (Int32.toNatClampNeg v3))) fo co cv ta rc ec su pe ti mn nu th) H := hP
          have hD : va_D A (wY cI cJ y0 y1 y2 y3 y4 y5 y6 y7 y8 hs si ag (upd la (Int32.toNatClampNeg mn) (fo (Int32.toNatClampNeg v3))) fo co cv ta rc ec su pe ti mn nu th) := hD
          refine lv_aload_n hx hb dX1_mineGreedily_183 rfl (lv_at hl 0 rfl) ?_
          refine lv_dup hx hb dX1_mineGreedily_184 rfl ?_
          refine va_get (D := D) (ci := 1) (v := .int mn) (C := RX1) (T := TX1) (N := 16) hx hb hts hin hown hK hP 0 rfl rfl 13 (by decide) hw_3 (fun _ h9 => h9) rfl dX1_mineGreedily_185 ?_
          refine lv_iconst (v := 1) hx hb dX1_mineGreedily_188 (by decide) ?_
          refine lv_iadd hx hb dX1_mineGreedily_189 ?_
          refine va_put (D := D) (ci := 1) (v := .int (mn + 1)) (ty := .int) (C := RX1) (T := TX1) (N := 16) hx hb hts hin tyX1 tyX1_ok nmX1 hown hK hP hD hS 0 rfl rfl 13 (by decide) hw_3 (fun _ h9 => h9) rfl (by decide +kernel) rfl rfl (Nat.le_of_ble_eq_true rfl) dX1_mineGreedily_190 (fun H locs hP hD hS => ?_)
          have hP : va_P D vwCl (wY cI cJ y0 y1 y2 y3 y4 y5 y6 y7 y8 hs si ag (upd la (Int32.toNatClampNeg mn) (fo (Int32.toNatClampNeg v3))) fo co cv ta rc ec su pe ti (mn + 1) nu th) H := hP
          have hD : va_D A (wY cI cJ y0 y1 y2 y3 y4 y5 y6 y7 y8 hs si ag (upd la (Int32.toNatClampNeg mn) (fo (Int32.toNatClampNeg v3))) fo co cv ta rc ec su pe ti (mn + 1) nu th) := hD
          refine lv_iinc (v := (v3 + 1)) (lv' := [(3, .int (v3 + 1)), (0, .ref y0), (1, .int v1)]) hx hb dX1_mineGreedily_193 hl (k := 2) rfl rfl (by decide) rfl (fun ls hl => ?_)
          refine lv_goto (tgt := 150) hx hb dX1_mineGreedily_196 (by decide) ?_
          exact ih v1 (v3 + 1) (upd la (Int32.toNatClampNeg mn) (fo (Int32.toNatClampNeg v3))) fo co cv ta (mn + 1) nu th _ _ _ h hP hD hS (lv_sub hl [1, 2, 0] rfl)
  have L40 : ∀ (n : Nat), (∀ (v1 : Int32) (v2 : Int32) (la : Nat → Int32) (fo : Nat → Int32) (co : Nat → Int32) (cv : Nat → Int32) (ta : Nat → Int32) (mn : Int32) (nu : Int32) (th : Int32) (H : Heap) (locs : List Loc) (ls : Array Slot), m_X1_mineGreedily_40 fu hs ag rc ec su n 0 v1 v2 0 0 la fo co cv ta mn nu th = some (r0, la', fo', co', cv', ta', mn', nu', th') → va_P D vwCl (wY cI cJ y0 y1 y2 y3 y4 y5 y6 y7 y8 hs si ag la fo co cv ta rc ec su pe ti mn nu th) H → va_D A (wY cI cJ y0 y1 y2 y3 y4 y5 y6 y7 y8 hs si ag la fo co cv ta rc ec su pe ti mn nu th) → va_S A s.heap H locs → lv_has ls 6 [(0, .ref y0), (1, .int v1), (2, .int v2)] → W p l e (headSpec wsX1_mineGreedily ({ frames := 3, cells := 0, slots := 0, locals := 68 })).room s m ([.ref y0] : List Value).toArray below meth c H locs 0 0 (MQ below (va_Qi (fun (r : Int32) (_ : Unit) => r = r0) (fun (_ : Unit) t => bx_Post D [(cI, .int), (cJ, .long)] (wY cI cJ y0 y1 y2 y3 y4 y5 y6 y7 y8 hs si ag la' fo' co' cv' ta' rc ec su pe ti mn' nu' th') A t) A) ([.ref y0] : List Value).toArray s 0 0 A) (F0 m 40 ls [])) ∧ (∀ (v1 : Int32) (v2 : Int32) (v3 : Int32) (v4 : Int32) (la : Nat → Int32) (fo : Nat → Int32) (co : Nat → Int32) (cv : Nat → Int32) (ta : Nat → Int32) (mn : Int32) (nu : Int32) (th : Int32) (H : Heap) (locs : List Loc) (ls : Array Slot), m_X1_mineGreedily_40 fu hs ag rc ec su n 1 v1 v2 v3 v4 la fo co cv ta mn nu th = some (r0, la', fo', co', cv', ta', mn', nu', th') → va_P D vwCl (wY cI cJ y0 y1 y2 y3 y4 y5 y6 y7 y8 hs si ag la fo co cv ta rc ec su pe ti mn nu th) H → va_D A (wY cI cJ y0 y1 y2 y3 y4 y5 y6 y7 y8 hs si ag la fo co cv ta rc ec su pe ti mn nu th) → va_S A s.heap H locs → lv_has ls 6 [(0, .ref y0), (1, .int v1), (2, .int v2), (3, .int v3), (4, .int v4)] → W p l e (headSpec wsX1_mineGreedily ({ frames := 3, cells := 0, slots := 0, locals := 68 })).room s m ([.ref y0] : List Value).toArray below meth c H locs 0 0 (MQ below (va_Qi (fun (r : Int32) (_ : Unit) => r = r0) (fun (_ : Unit) t => bx_Post D [(cI, .int), (cJ, .long)] (wY cI cJ y0 y1 y2 y3 y4 y5 y6 y7 y8 hs si ag la' fo' co' cv' ta' rc ec su pe ti mn' nu' th') A t) A) ([.ref y0] : List Value).toArray s 0 0 A) (F0 m 51 ls [])) := by
    intro n
    induction n with
    | zero =>
      refine ⟨?_, ?_⟩
      · intro v1 v2 la fo co cv ta mn nu th H locs ls h
        rw [m_X1_mineGreedily_40] at h
        cases h
      · intro v1 v2 v3 v4 la fo co cv ta mn nu th H locs ls h
        rw [m_X1_mineGreedily_40] at h
        cases h
    | succ n ih =>
      refine ⟨?_, ?_⟩
      · intro v1 v2 la fo co cv ta mn nu th H locs ls h hP hD hS hl
        rw [m_X1_mineGreedily_40] at h
        replace h := (if_pos rfl).symm.trans h
        refine lv_iload_n hx hb dX1_mineGreedily_40 rfl (lv_at hl 2 rfl) ?_
        refine lv_if_lt (tgt := 143) hx hb dX1_mineGreedily_41 (by decide) (fun c_9 => ?_) (fun c_9 => ?_)
        · replace h := (if_pos c_9).symm.trans h
          refine lv_aload_n hx hb dX1_mineGreedily_143 rfl (lv_at hl 0 rfl) ?_
          refine lv_iconst (v := 0) hx hb dX1_mineGreedily_144 (by decide) ?_
          refine va_put (D := D) (ci := 1) (v := .int 0) (ty := .int) (C := RX1) (T := TX1) (N := 16) hx hb hts hin tyX1 tyX1_ok nmX1 hown hK hP hD hS 0 rfl rfl 13 (by decide) hw_3 (fun _ h9 => h9) rfl (by decide +kernel) rfl rfl (Nat.le_of_ble_eq_true rfl) dX1_mineGreedily_145 (fun H locs hP hD hS => ?_)
          have hP : va_P D vwCl (wY cI cJ y0 y1 y2 y3 y4 y5 y6 y7 y8 hs si ag la fo co cv ta rc ec su pe ti 0 nu th) H := hP
          have hD : va_D A (wY cI cJ y0 y1 y2 y3 y4 y5 y6 y7 y8 hs si ag la fo co cv ta rc ec su pe ti 0 nu th) := hD
          refine lv_iconst (v := 0) hx hb dX1_mineGreedily_148 (by decide) ?_
          refine lv_istore_n (lv' := [(3, .int 0), (0, .ref y0), (1, .int v1), (2, .int v2)]) hx hb dX1_mineGreedily_149 rfl hl (by decide) rfl (fun ls hl => ?_)
          exact L150 fu v1 0 la fo co cv ta 0 nu th _ _ _ h hP hD hS (lv_sub hl [1, 2, 0] rfl)
        · replace h := (if_neg c_9).symm.trans h
          refine lv_iconst (v := (-1)) hx hb dX1_mineGreedily_44 (by decide) ?_
          refine lv_istore_n (lv' := [(2, .int (-1)), (0, .ref y0), (1, .int v1)]) hx hb dX1_mineGreedily_45 rfl hl (by decide) rfl (fun ls hl => ?_)
          refine lv_iconst (v := 0) hx hb dX1_mineGreedily_46 (by decide) ?_
          refine lv_istore_n (lv' := [(3, .int 0), (2, .int (-1)), (0, .ref y0), (1, .int v1)]) hx hb dX1_mineGreedily_47 rfl hl (by decide) rfl (fun ls hl => ?_)
          refine lv_iconst (v := 0) hx hb dX1_mineGreedily_48 (by decide) ?_
          refine lv_istore (lv' := [(4, .int 0), (3, .int 0), (2, .int (-1)), (0, .ref y0), (1, .int v1)]) hx hb dX1_mineGreedily_49 hl (by decide) rfl (fun ls hl => ?_)
          exact ih.2 v1 (-1) 0 0 la fo co cv ta mn nu th _ _ _ h hP hD hS (lv_sub hl [3, 4, 2, 1, 0] rfl)
      · intro v1 v2 v3 v4 la fo co cv ta mn nu th H locs ls h hP hD hS hl
        rw [m_X1_mineGreedily_40] at h
        replace h := (if_neg (by decide)).symm.trans h
        refine lv_iload hx hb dX1_mineGreedily_51 (lv_at hl 4 rfl) ?_
        refine lv_aload_n hx hb dX1_mineGreedily_53 rfl (lv_at hl 0 rfl) ?_
        refine va_get (D := D) (ci := 1) (v := .int nu) (C := RX1) (T := TX1) (N := 16) hx hb hts hin hown hK hP 0 rfl rfl 14 (by decide) hw_1 (fun _ h9 => h9) rfl dX1_mineGreedily_54 ?_
        refine lv_icmp_ge (tgt := 116) hx hb dX1_mineGreedily_57 (by decide) (fun c_10 => ?_) (fun c_10 => ?_)
        · replace h := (if_pos c_10).symm.trans h
          refine lv_iload_n hx hb dX1_mineGreedily_116 rfl (lv_at hl 2 rfl) ?_
          refine lv_if_lt (tgt := 140) hx hb dX1_mineGreedily_117 (by decide) (fun c_11 => ?_) (fun c_11 => ?_)
          · replace h := (if_pos c_11).symm.trans h
            refine lv_goto (tgt := 40) hx hb dX1_mineGreedily_140 (by decide) ?_
            exact ih.1 v1 v2 la fo co cv ta mn nu th _ _ _ h hP hD hS (lv_sub hl [0, 1, 2] rfl)
          · replace h := (if_neg c_11).symm.trans h
            refine lv_aload_n hx hb dX1_mineGreedily_120 rfl (lv_at hl 0 rfl) ?_
            refine va_get (D := D) (ci := 1) (v := .ref y8) (C := RX1) (T := TX1) (N := 16) hx hb hts hin hown hK hP 0 rfl rfl 7 (by decide) hw_2 (fun _ h9 => h9) rfl dX1_mineGreedily_121 ?_
            refine lv_iload_n hx hb dX1_mineGreedily_124 rfl (lv_at hl 2 rfl) ?_
            refine lv_iconst (v := 1) hx hb dX1_mineGreedily_125 (by decide) ?_
            obtain ⟨h_12, h⟩ := ix_some h
            refine va_iast hx hb hK hP hD hS 8 0 rfl rfl h_12 dX1_mineGreedily_126 (fun H locs hP hD hS => ?_)
            have hP : va_P D vwCl (wY cI cJ y0 y1 y2 y3 y4 y5 y6 y7 y8 hs si ag la fo co cv (upd ta (Int32.toNatClampNeg v2) 1) rc ec su pe ti mn nu th) H := hP
            have hD : va_D A (wY cI cJ y0 y1 y2 y3 y4 y5 y6 y7 y8 hs si ag la fo co cv (upd ta (Int32.toNatClampNeg v2) 1) rc ec su pe ti mn nu th) := hD
            refine lv_aload_n hx hb dX1_mineGreedily_127 rfl (lv_at hl 0 rfl) ?_
            refine lv_aload_n hx hb dX1_mineGreedily_128 rfl (lv_at hl 0 rfl) ?_
            refine va_get (D := D) (ci := 1) (v := .ref y5) (C := RX1) (T := TX1) (N := 16) hx hb hts hin hown hK hP 0 rfl rfl 4 (by decide) hw_4 (fun _ h9 => h9) rfl dX1_mineGreedily_129 ?_
            refine lv_iload_n hx hb dX1_mineGreedily_132 rfl (lv_at hl 2 rfl) ?_
            refine va_iald hx hb hK hP 5 0 rfl rfl h_12 dX1_mineGreedily_133 ?_
            obtain ⟨cv_13, e_14, h⟩ := bnd1_some h
            refine cl_Vv (As := [.int (fo (Int32.toNatClampNeg v2))]) (rest := []) (wc := wY cI cJ y0 y1 y2 y3 y4 y5 y6 y7 y8 hs si ag la fo co cv (upd ta (Int32.toNatClampNeg v2) 1) rc ec su pe ti mn nu th) (w1 := wY cI cJ y0 y1 y2 y3 y4 y5 y6 y7 y8 hs si ag la fo co cv_13 (upd ta (Int32.toNatClampNeg v2) 1) rc ec su pe ti mn nu th) (wr := []) ⟨hx, hb, hml, hown, hts⟩ (c_X1_add l D cI cJ y0 y1 y2 y3 y4 y5 y6 y7 y8 _ hs si ag la fo co cv (upd ta (Int32.toNatClampNeg v2) 1) rc ec su pe ti mn nu th fu (fo (Int32.toNatClampNeg v2)) cv_13 e_14) (cwV 1 hts gX1_mineGreedily_X1_add rfl rfl rfl (by decide +kernel) ⟨Nat.le_of_ble_eq_true rfl, Nat.le_of_ble_eq_true rfl⟩) hK hP hD hS hA [0, 1, 2, 3, 4, 5, 6, 7, 8] [] rfl rfl (by decide) (by decide) rfl rfl rfl rfl rfl hl.1 rfl (lv_room (Nat.le_of_ble_eq_true rfl)) dX1_mineGreedily_134 (fun H locs hP hD hS => ?_)
            have hP : va_P D vwCl (wY cI cJ y0 y1 y2 y3 y4 y5 y6 y7 y8 hs si ag la fo co cv_13 (upd ta (Int32.toNatClampNeg v2) 1) rc ec su pe ti mn nu th) H := hP
            have hD : va_D A (wY cI cJ y0 y1 y2 y3 y4 y5 y6 y7 y8 hs si ag la fo co cv_13 (upd ta (Int32.toNatClampNeg v2) 1) rc ec su pe ti mn nu th) := hD
            refine lv_iinc (v := (v1 + 1)) (lv' := [(1, .int (v1 + 1)), (0, .ref y0), (2, .int v2), (3, .int v3), (4, .int v4)]) hx hb dX1_mineGreedily_137 hl (k := 1) rfl rfl (by decide) rfl (fun ls hl => ?_)
            refine lv_goto (tgt := 40) hx hb dX1_mineGreedily_140 (by decide) ?_
            exact ih.1 (v1 + 1) v2 la fo co cv_13 (upd ta (Int32.toNatClampNeg v2) 1) mn nu th _ _ _ h hP hD hS (lv_sub hl [1, 0, 2] rfl)
        · replace h := (if_neg c_10).symm.trans h
          refine lv_aload_n hx hb dX1_mineGreedily_60 rfl (lv_at hl 0 rfl) ?_
          refine va_get (D := D) (ci := 1) (v := .ref y8) (C := RX1) (T := TX1) (N := 16) hx hb hts hin hown hK hP 0 rfl rfl 7 (by decide) hw_2 (fun _ h9 => h9) rfl dX1_mineGreedily_61 ?_
          refine lv_iload hx hb dX1_mineGreedily_64 (lv_at hl 4 rfl) ?_
          obtain ⟨h_15, h⟩ := ix_some h
          refine va_iald hx hb hK hP 8 0 rfl rfl h_15 dX1_mineGreedily_66 ?_
          refine lv_iconst (v := 1) hx hb dX1_mineGreedily_67 (by decide) ?_
          refine lv_icmp_ne (tgt := 75) hx hb dX1_mineGreedily_68 (by decide) (fun c_16 => ?_) (fun c_16 => ?_)
          · replace h := (if_neg c_16).symm.trans h
            refine lv_aload_n hx hb dX1_mineGreedily_75 rfl (lv_at hl 0 rfl) ?_
            refine va_get (D := D) (ci := 1) (v := .int ec) (C := RX1) (T := TX1) (N := 16) hx hb hts hin hown hK hP 0 rfl rfl 9 (by decide) hw_5 (fun _ h9 => h9) rfl dX1_mineGreedily_76 ?_
            refine lv_aload_n hx hb dX1_mineGreedily_79 rfl (lv_at hl 0 rfl) ?_
            refine lv_aload_n hx hb dX1_mineGreedily_80 rfl (lv_at hl 0 rfl) ?_
            refine va_get (D := D) (ci := 1) (v := .ref y5) (C := RX1) (T := TX1) (N := 16) hx hb hts hin hown hK hP 0 rfl rfl 4 (by decide) hw_4 (fun _ h9 => h9) rfl dX1_mineGreedily_81 ?_
            refine lv_iload hx hb dX1_mineGreedily_84 (lv_at hl 4 rfl) ?_
            refine va_iald hx hb hK hP 5 0 rfl rfl h_15 dX1_mineGreedily_86 ?_
            obtain ⟨r_17, e_18, h⟩ := bnd1_some h
            refine cl_Vi (As := [.int (fo (Int32.toNatClampNeg v4))]) (rest := [.int ec]) (wc := wY cI cJ y0 y1 y2 y3 y4 y5 y6 y7 y8 hs si ag la fo co cv ta rc ec su pe ti mn nu th) (w1 := wY cI cJ y0 y1 y2 y3 y4 y5 y6 y7 y8 hs si ag la fo co cv ta rc ec su pe ti mn nu th) (wr := []) ⟨hx, hb, hml, hown, hts⟩ (c_X1_gain l D cI cJ y0 y1 y2 y3 y4 y5 y6 y7 y8 _ hs si ag la fo co cv ta rc ec su pe ti mn nu th fu (fo (Int32.toNatClampNeg v4)) r_17 e_18) (cwV 1 hts gX1_mineGreedily_X1_gain rfl rfl rfl (by decide +kernel) ⟨Nat.le_of_ble_eq_true rfl, Nat.le_of_ble_eq_true rfl⟩) hK hP hD hS hA [0, 1, 2, 3, 4, 5, 6, 7, 8] [] rfl rfl (by decide) (by decide) rfl rfl rfl rfl rfl hl.1 rfl (lv_room (Nat.le_of_ble_eq_true rfl)) dX1_mineGreedily_87 (fun H locs hP hD hS => ?_)
            have hP : va_P D vwCl (wY cI cJ y0 y1 y2 y3 y4 y5 y6 y7 y8 hs si ag la fo co cv ta rc ec su pe ti mn nu th) H := hP
            have hD : va_D A (wY cI cJ y0 y1 y2 y3 y4 y5 y6 y7 y8 hs si ag la fo co cv ta rc ec su pe ti mn nu th) := hD
            refine lv_imul hx hb dX1_mineGreedily_90 ?_
            refine lv_aload_n hx hb dX1_mineGreedily_91 rfl (lv_at hl 0 rfl) ?_
            refine va_get (D := D) (ci := 1) (v := .int rc) (C := RX1) (T := TX1) (N := 16) hx hb hts hin hown hK hP 0 rfl rfl 8 (by decide) hw_6 (fun _ h9 => h9) rfl dX1_mineGreedily_92 ?_
            refine lv_isub hx hb dX1_mineGreedily_95 ?_
            refine lv_istore (lv' := [(5, .int ((ec * r_17) - rc)), (0, .ref y0), (1, .int v1), (2, .int v2), (3, .int v3), (4, .int v4)]) hx hb dX1_mineGreedily_96 hl (by decide) rfl (fun ls hl => ?_)
            refine lv_iload hx hb dX1_mineGreedily_98 (lv_at hl 0 rfl) ?_
            refine lv_iload_n hx hb dX1_mineGreedily_100 rfl (lv_at hl 4 rfl) ?_
            refine lv_icmp_le (tgt := 110) hx hb dX1_mineGreedily_101 (by decide) (fun c_19 => ?_) (fun c_19 => ?_)
            · replace h := (if_pos c_19).symm.trans h
              refine lv_iinc (v := (v4 + 1)) (lv' := [(4, .int (v4 + 1)), (5, .int ((ec * r_17) - rc)), (0, .ref y0), (1, .int v1), (2, .int v2), (3, .int v3)]) hx hb dX1_mineGreedily_110 hl (k := 5) rfl rfl (by decide) rfl (fun ls hl => ?_)
              refine lv_goto (tgt := 51) hx hb dX1_mineGreedily_113 (by decide) ?_
              exact ih.2 v1 v2 v3 (v4 + 1) la fo co cv ta mn nu th _ _ _ h hP hD hS (lv_sub hl [2, 3, 4, 5, 0] rfl)
            · replace h := (if_neg c_19).symm.trans h
              refine lv_iload hx hb dX1_mineGreedily_104 (lv_at hl 0 rfl) ?_
              refine lv_istore_n (lv' := [(3, .int ((ec * r_17) - rc)), (5, .int ((ec * r_17) - rc)), (0, .ref y0), (1, .int v1), (2, .int v2), (4, .int v4)]) hx hb dX1_mineGreedily_106 rfl hl (by decide) rfl (fun ls hl => ?_)
              refine lv_iload hx hb dX1_mineGreedily_107 (lv_at hl 5 rfl) ?_
              refine lv_istore_n (lv' := [(2, .int v4), (3, .int ((ec * r_17) - rc)), (5, .int ((ec * r_17) - rc)), (0, .ref y0), (1, .int v1), (4, .int v4)]) hx hb dX1_mineGreedily_109 rfl hl (by decide) rfl (fun ls hl => ?_)
              refine lv_iinc (v := (v4 + 1)) (lv' := [(4, .int (v4 + 1)), (2, .int v4), (3, .int ((ec * r_17) - rc)), (5, .int ((ec * r_17) - rc)), (0, .ref y0), (1, .int v1)]) hx hb dX1_mineGreedily_110 hl (k := 5) rfl rfl (by decide) rfl (fun ls hl => ?_)
              refine lv_goto (tgt := 51) hx hb dX1_mineGreedily_113 (by decide) ?_
              exact ih.2 v1 v4 ((ec * r_17) - rc) (v4 + 1) la fo co cv ta mn nu th _ _ _ h hP hD hS (lv_sub hl [4, 5, 1, 2, 0] rfl)
          · replace h := (if_pos c_16).symm.trans h
            refine lv_iconst (v := 0) hx hb dX1_mineGreedily_71 (by decide) ?_
            refine lv_goto (tgt := 96) hx hb dX1_mineGreedily_72 (by decide) ?_
            refine lv_istore (lv' := [(5, .int 0), (0, .ref y0), (1, .int v1), (2, .int v2), (3, .int v3), (4, .int v4)]) hx hb dX1_mineGreedily_96 hl (by decide) rfl (fun ls hl => ?_)
            refine lv_iload hx hb dX1_mineGreedily_98 (lv_at hl 0 rfl) ?_
            refine lv_iload_n hx hb dX1_mineGreedily_100 rfl (lv_at hl 4 rfl) ?_
            refine lv_icmp_le (tgt := 110) hx hb dX1_mineGreedily_101 (by decide) (fun c_20 => ?_) (fun c_20 => ?_)
            · replace h := (if_pos c_20).symm.trans h
              refine lv_iinc (v := (v4 + 1)) (lv' := [(4, .int (v4 + 1)), (5, .int 0), (0, .ref y0), (1, .int v1), (2, .int v2), (3, .int v3)]) hx hb dX1_mineGreedily_110 hl (k := 5) rfl rfl (by decide) rfl (fun ls hl => ?_)
              refine lv_goto (tgt := 51) hx hb dX1_mineGreedily_113 (by decide) ?_
              exact ih.2 v1 v2 v3 (v4 + 1) la fo co cv ta mn nu th _ _ _ h hP hD hS (lv_sub hl [2, 3, 4, 5, 0] rfl)
            · replace h := (if_neg c_20).symm.trans h
              refine lv_iload hx hb dX1_mineGreedily_104 (lv_at hl 0 rfl) ?_
              refine lv_istore_n (lv' := [(3, .int 0), (5, .int 0), (0, .ref y0), (1, .int v1), (2, .int v2), (4, .int v4)]) hx hb dX1_mineGreedily_106 rfl hl (by decide) rfl (fun ls hl => ?_)
              refine lv_iload hx hb dX1_mineGreedily_107 (lv_at hl 5 rfl) ?_
              refine lv_istore_n (lv' := [(2, .int v4), (3, .int 0), (5, .int 0), (0, .ref y0), (1, .int v1), (4, .int v4)]) hx hb dX1_mineGreedily_109 rfl hl (by decide) rfl (fun ls hl => ?_)
              refine lv_iinc (v := (v4 + 1)) (lv' := [(4, .int (v4 + 1)), (2, .int v4), (3, .int 0), (5, .int 0), (0, .ref y0), (1, .int v1)]) hx hb dX1_mineGreedily_110 hl (k := 5) rfl rfl (by decide) rfl (fun ls hl => ?_)
              refine lv_goto (tgt := 51) hx hb dX1_mineGreedily_113 (by decide) ?_
              exact ih.2 v1 v4 0 (v4 + 1) la fo co cv ta mn nu th _ _ _ h hP hD hS (lv_sub hl [4, 5, 1, 2, 0] rfl)
  have L15 : ∀ (n : Nat) (v1 : Int32) (la : Nat → Int32) (fo : Nat → Int32) (co : Nat → Int32) (cv : Nat → Int32) (ta : Nat → Int32) (mn : Int32) (nu : Int32) (th : Int32) (H : Heap) (locs : List Loc) (ls : Array Slot), m_X1_mineGreedily_15 fu hs ag rc ec su n v1 la fo co cv ta mn nu th = some (r0, la', fo', co', cv', ta', mn', nu', th') → va_P D vwCl (wY cI cJ y0 y1 y2 y3 y4 y5 y6 y7 y8 hs si ag la fo co cv ta rc ec su pe ti mn nu th) H → va_D A (wY cI cJ y0 y1 y2 y3 y4 y5 y6 y7 y8 hs si ag la fo co cv ta rc ec su pe ti mn nu th) → va_S A s.heap H locs → lv_has ls 6 [(0, .ref y0), (1, .int v1)] → W p l e (headSpec wsX1_mineGreedily ({ frames := 3, cells := 0, slots := 0, locals := 68 })).room s m ([.ref y0] : List Value).toArray below meth c H locs 0 0 (MQ below (va_Qi (fun (r : Int32) (_ : Unit) => r = r0) (fun (_ : Unit) t => bx_Post D [(cI, .int), (cJ, .long)] (wY cI cJ y0 y1 y2 y3 y4 y5 y6 y7 y8 hs si ag la' fo' co' cv' ta' rc ec su pe ti mn' nu' th') A t) A) ([.ref y0] : List Value).toArray s 0 0 A) (F0 m 15 ls []) := by
    intro n
    induction n with
    | zero =>
      intro v1 la fo co cv ta mn nu th H locs ls h
      rw [m_X1_mineGreedily_15] at h
      cases h
    | succ n ih =>
      intro v1 la fo co cv ta mn nu th H locs ls h hP hD hS hl
      rw [m_X1_mineGreedily_15] at h
      refine lv_iload_n hx hb dX1_mineGreedily_15 rfl (lv_at hl 1 rfl) ?_
      refine lv_aload_n hx hb dX1_mineGreedily_16 rfl (lv_at hl 0 rfl) ?_
      refine va_get (D := D) (ci := 1) (v := .int nu) (C := RX1) (T := TX1) (N := 16) hx hb hts hin hown hK hP 0 rfl rfl 14 (by decide) hw_1 (fun _ h9 => h9) rfl dX1_mineGreedily_17 ?_
      refine lv_icmp_ge (tgt := 36) hx hb dX1_mineGreedily_20 (by decide) (fun c_7 => ?_) (fun c_7 => ?_)
      · replace h := (if_pos c_7).symm.trans h
        refine lv_iconst (v := 0) hx hb dX1_mineGreedily_36 (by decide) ?_
        refine lv_istore_n (lv' := [(1, .int 0), (0, .ref y0)]) hx hb dX1_mineGreedily_37 rfl hl (by decide) rfl (fun ls hl => ?_)
        refine lv_iconst (v := 0) hx hb dX1_mineGreedily_38 (by decide) ?_
        refine lv_istore_n (lv' := [(2, .int 0), (1, .int 0), (0, .ref y0)]) hx hb dX1_mineGreedily_39 rfl hl (by decide) rfl (fun ls hl => ?_)
        exact (L40 fu).1 0 0 la fo co cv ta mn nu th _ _ _ h hP hD hS (lv_sub hl [2, 1, 0] rfl)
      · replace h := (if_neg c_7).symm.trans h
        refine lv_aload_n hx hb dX1_mineGreedily_23 rfl (lv_at hl 0 rfl) ?_
        refine va_get (D := D) (ci := 1) (v := .ref y8) (C := RX1) (T := TX1) (N := 16) hx hb hts hin hown hK hP 0 rfl rfl 7 (by decide) hw_2 (fun _ h9 => h9) rfl dX1_mineGreedily_24 ?_
        refine lv_iload_n hx hb dX1_mineGreedily_27 rfl (lv_at hl 1 rfl) ?_
        refine lv_iconst (v := 0) hx hb dX1_mineGreedily_28 (by decide) ?_
        obtain ⟨h_8, h⟩ := ix_some h
        refine va_iast hx hb hK hP hD hS 8 0 rfl rfl h_8 dX1_mineGreedily_29 (fun H locs hP hD hS => ?_)
        have hP : va_P D vwCl (wY cI cJ y0 y1 y2 y3 y4 y5 y6 y7 y8 hs si ag la fo co cv (upd ta (Int32.toNatClampNeg v1) 0) rc ec su pe ti mn nu th) H := hP
        have hD : va_D A (wY cI cJ y0 y1 y2 y3 y4 y5 y6 y7 y8 hs si ag la fo co cv (upd ta (Int32.toNatClampNeg v1) 0) rc ec su pe ti mn nu th) := hD
        refine lv_iinc (v := (v1 + 1)) (lv' := [(1, .int (v1 + 1)), (0, .ref y0)]) hx hb dX1_mineGreedily_30 hl (k := 1) rfl rfl (by decide) rfl (fun ls hl => ?_)
        refine lv_goto (tgt := 15) hx hb dX1_mineGreedily_33 (by decide) ?_
        exact ih (v1 + 1) la fo co cv (upd ta (Int32.toNatClampNeg v1) 0) mn nu th _ _ _ h hP hD hS (lv_sub hl [1, 0] rfl)
  rw [m_X1_mineGreedily] at h
  refine lv_aload_n hx hb dX1_mineGreedily_0 rfl (lv_at hl 0 rfl) ?_
  refine lv_iconst (v := 0) hx hb dX1_mineGreedily_1 (by decide) ?_
  refine va_put (D := D) (ci := 1) (v := .int 0) (ty := .int) (C := RX1) (T := TX1) (N := 16) hx hb hts hin tyX1 tyX1_ok nmX1 hown hK hP hD hS 0 rfl rfl 15 (by decide) hw_0 (fun _ h9 => h9) rfl (by decide +kernel) rfl rfl (Nat.le_of_ble_eq_true rfl) dX1_mineGreedily_2 (fun H locs hP hD hS => ?_)
  have hP : va_P D vwCl (wY cI cJ y0 y1 y2 y3 y4 y5 y6 y7 y8 hs si ag la fo co cv ta rc ec su pe ti mn nu 0) H := hP
  have hD : va_D A (wY cI cJ y0 y1 y2 y3 y4 y5 y6 y7 y8 hs si ag la fo co cv ta rc ec su pe ti mn nu 0) := hD
  refine lv_aload_n hx hb dX1_mineGreedily_5 rfl (lv_at hl 0 rfl) ?_
  obtain ⟨fo_1, co_2, nu_3, e_4, h⟩ := bnd3_some h
  refine cl_Vv (As := []) (rest := []) (wc := wY cI cJ y0 y1 y2 y3 y4 y5 y6 y7 y8 hs si ag la fo co cv ta rc ec su pe ti mn nu 0) (w1 := wY cI cJ y0 y1 y2 y3 y4 y5 y6 y7 y8 hs si ag la fo_1 co_2 cv ta rc ec su pe ti mn nu_3 0) (wr := []) ⟨hx, hb, hml, hown, hts⟩ (c_X1_find l D cI cJ y0 y1 y2 y3 y4 y5 y6 y7 y8 _ hs si ag la fo co cv ta rc ec su pe ti mn nu 0 fu  fo_1 co_2 nu_3 e_4) (cwV 0 hts gX1_mineGreedily_X1_find rfl rfl rfl (by decide +kernel) ⟨Nat.le_of_ble_eq_true rfl, Nat.le_of_ble_eq_true rfl⟩) hK hP hD hS hA [0, 1, 2, 3, 4, 5, 6, 7, 8] [] rfl rfl (by decide) (by decide) rfl rfl rfl rfl rfl hl.1 rfl (lv_room (Nat.le_of_ble_eq_true rfl)) dX1_mineGreedily_6 (fun H locs hP hD hS => ?_)
  have hP : va_P D vwCl (wY cI cJ y0 y1 y2 y3 y4 y5 y6 y7 y8 hs si ag la fo_1 co_2 cv ta rc ec su pe ti mn nu_3 0) H := hP
  have hD : va_D A (wY cI cJ y0 y1 y2 y3 y4 y5 y6 y7 y8 hs si ag la fo_1 co_2 cv ta rc ec su pe ti mn nu_3 0) := hD
  refine lv_aload_n hx hb dX1_mineGreedily_9 rfl (lv_at hl 0 rfl) ?_
  obtain ⟨cv_5, e_6, h⟩ := bnd1_some h
  refine cl_Vv (As := []) (rest := []) (wc := wY cI cJ y0 y1 y2 y3 y4 y5 y6 y7 y8 hs si ag la fo_1 co_2 cv ta rc ec su pe ti mn nu_3 0) (w1 := wY cI cJ y0 y1 y2 y3 y4 y5 y6 y7 y8 hs si ag la fo_1 co_2 cv_5 ta rc ec su pe ti mn nu_3 0) (wr := []) ⟨hx, hb, hml, hown, hts⟩ (c_X1_uncover l D cI cJ y0 y1 y2 y3 y4 y5 y6 y7 y8 _ hs si ag la fo_1 co_2 cv ta rc ec su pe ti mn nu_3 0 fu  cv_5 e_6) (cwV 0 hts gX1_mineGreedily_X1_uncover rfl rfl rfl (by decide +kernel) ⟨Nat.le_of_ble_eq_true rfl, Nat.le_of_ble_eq_true rfl⟩) hK hP hD hS hA [0, 1, 2, 3, 4, 5, 6, 7, 8] [] rfl rfl (by decide) (by decide) rfl rfl rfl rfl rfl hl.1 rfl (lv_room (Nat.le_of_ble_eq_true rfl)) dX1_mineGreedily_10 (fun H locs hP hD hS => ?_)
  have hP : va_P D vwCl (wY cI cJ y0 y1 y2 y3 y4 y5 y6 y7 y8 hs si ag la fo_1 co_2 cv_5 ta rc ec su pe ti mn nu_3 0) H := hP
  have hD : va_D A (wY cI cJ y0 y1 y2 y3 y4 y5 y6 y7 y8 hs si ag la fo_1 co_2 cv_5 ta rc ec su pe ti mn nu_3 0) := hD
  refine lv_iconst (v := 0) hx hb dX1_mineGreedily_13 (by decide) ?_
  refine lv_istore_n (lv' := [(1, .int 0), (0, .ref y0)]) hx hb dX1_mineGreedily_14 rfl hl (by decide) rfl (fun ls hl => ?_)
  exact L15 fu 0 la fo_1 co_2 cv_5 ta mn nu_3 0 _ _ _ h hP hD hS (lv_sub hl [1, 0] rfl)
-- X1_precedes
def m_X1_precedes (fu : Nat) (a1 : Int32) (a2 : Int32) : Option ((Int32)) := (bnd1 (m_X1_size fu a1) (fun r_1 => (bnd1 (m_X1_size fu a2) (fun r_3 => (if r_1 = r_3 then (if ((a1 &&& (a1 ^^^ a2)) &&& (-(a1 ^^^ a2))) = 0 then some 0 else some 1) else (if r_3 ≤ r_1 then some 0 else some 1))))))
set_option maxHeartbeats 4000000 in
set_option maxRecDepth 100000 in
theorem c_X1_precedes (l : Launch) (D : va_G) (cI cJ : ClassId) (y0 y1 y2 y3 y4 y5 y6 y7 y8 : Nat) (sz : Nat) (hs : Nat → Int32) (si : Nat → Int32) (ag : Nat → Int32) (la : Nat → Int32) (fo : Nat → Int32) (co : Nat → Int32) (cv : Nat → Int32) (ta : Nat → Int32) (rc : Int32) (ec : Int32) (su : Int32) (pe : Int32) (ti : Int32) (mn : Int32) (nu : Int32) (th : Int32) (fu : Nat) (a1 : Int32) (a2 : Int32) (r0 : Int32) (h : m_X1_precedes fu a1 a2 = some r0) : Met l yX1_precedes wsX1_precedes ({ frames := 1, cells := 0, slots := 0, locals := 23 }) (va_Pc [.ref y0, .int a1, .int a2] (bx_Pre D [(cI, .int), (cJ, .long)] (wY cI cJ y0 y1 y2 y3 y4 y5 y6 y7 y8 hs si ag la fo co cv ta rc ec su pe ti mn nu th) sz)) (va_Qi (fun (r : Int32) (_ : Unit) => r = r0) (fun (_ : Unit) t => bx_Post D [(cI, .int), (cJ, .long)] (wY cI cJ y0 y1 y2 y3 y4 y5 y6 y7 y8 hs si ag la fo co cv ta rc ec su pe ti mn nu th) (va_A (wY cI cJ y0 y1 y2 y3 y4 y5 y6 y7 y8 hs si ag la fo co cv ta rc ec su pe ti mn nu th) sz) t) (va_A (wY cI cJ y0 y1 y2 y3 y4 y5 y6 y7 y8 hs si ag la fo co cv ta rc ec su pe ti mn nu th) sz)) 0 0 (va_A (wY cI cJ y0 y1 y2 y3 y4 y5 y6 y7 y8 hs si ag la fo co cv ta rc ec su pe ti mn nu th) sz) := by
  refine Met.ofW (cc := cX1_precedes) (maxL := 6) (ret := (some .boolean)) (by decide) rfl ?_
  intro p e s m args below meth c s₁ B hml hv
  obtain ⟨rfl, hsz, hP, hK, hD0⟩ := hv
  have hx := B.exec
  have hb := B.bytes
  have hr := B.returns
  have hts := atoms_spec (ws := wsX1_precedes) B.pre
  have hown : s.vm.findClass RX1 = some m.cls := findClass_of_methodNamed B.named
  have hlocks := B.notSynchronized
  subst hsz
  have hD := hD0.self (sz := s.heap.size)
  generalize hAe : va_A (wY cI cJ y0 y1 y2 y3 y4 y5 y6 y7 y8 hs si ag la fo co cv ta rc ec su pe ti mn nu th) s.heap.size = A at hD ⊢
  have hA : ∀ q : Nat, s.heap.size ≤ q → A q := fun q h9 => by rw [← hAe]; exact Or.inr h9
  have hS : va_S A s.heap s.heap [] := va_S.rf
  have hl := lv_entry ([.ref y0, .int a1, .int a2]) (n := 6) (Nat.le_of_ble_eq_true rfl)
  rw [lg_entry_eq]
  generalize (lg_sl ([.ref y0, .int a1, .int a2]) ++ List.replicate (6 - (lg_sl ([.ref y0, .int a1, .int a2])).length) Slot.unset).toArray = ls at hl ⊢
  have hl : lv_has ls 6 [(0, .ref y0), (1, .int a1), (2, .int a2)] := hl
  rw [m_X1_precedes] at h
  refine lv_aload_n hx hb dX1_precedes_0 rfl (lv_at hl 0 rfl) ?_
  refine lv_iload_n hx hb dX1_precedes_1 rfl (lv_at hl 1 rfl) ?_
  obtain ⟨r_1, e_2, h⟩ := bnd1_some h
  refine cl_Vi (As := [.int a1]) (rest := []) (wc := wY cI cJ y0 y1 y2 y3 y4 y5 y6 y7 y8 hs si ag la fo co cv ta rc ec su pe ti mn nu th) (w1 := wY cI cJ y0 y1 y2 y3 y4 y5 y6 y7 y8 hs si ag la fo co cv ta rc ec su pe ti mn nu th) (wr := []) ⟨hx, hb, hml, hown, hts⟩ (c_X1_size l D cI cJ y0 y1 y2 y3 y4 y5 y6 y7 y8 _ hs si ag la fo co cv ta rc ec su pe ti mn nu th fu a1 r_1 e_2) (cwV 1 hts gX1_precedes_X1_size rfl rfl rfl (by decide +kernel) ⟨Nat.le_of_ble_eq_true rfl, Nat.le_of_ble_eq_true rfl⟩) hK hP hD hS hA [0, 1, 2, 3, 4, 5, 6, 7, 8] [] rfl rfl (by decide) (by decide) rfl rfl rfl rfl rfl hl.1 rfl (lv_room (Nat.le_of_ble_eq_true rfl)) dX1_precedes_2 (fun H locs hP hD hS => ?_)
  have hP : va_P D vwCl (wY cI cJ y0 y1 y2 y3 y4 y5 y6 y7 y8 hs si ag la fo co cv ta rc ec su pe ti mn nu th) H := hP
  have hD : va_D A (wY cI cJ y0 y1 y2 y3 y4 y5 y6 y7 y8 hs si ag la fo co cv ta rc ec su pe ti mn nu th) := hD
  refine lv_istore_n (lv' := [(3, .int r_1), (0, .ref y0), (1, .int a1), (2, .int a2)]) hx hb dX1_precedes_5 rfl hl (by decide) rfl (fun ls hl => ?_)
  refine lv_aload_n hx hb dX1_precedes_6 rfl (lv_at hl 1 rfl) ?_
  refine lv_iload_n hx hb dX1_precedes_7 rfl (lv_at hl 3 rfl) ?_
  obtain ⟨r_3, e_4, h⟩ := bnd1_some h
  refine cl_Vi (As := [.int a2]) (rest := []) (wc := wY cI cJ y0 y1 y2 y3 y4 y5 y6 y7 y8 hs si ag la fo co cv ta rc ec su pe ti mn nu th) (w1 := wY cI cJ y0 y1 y2 y3 y4 y5 y6 y7 y8 hs si ag la fo co cv ta rc ec su pe ti mn nu th) (wr := []) ⟨hx, hb, hml, hown, hts⟩ (c_X1_size l D cI cJ y0 y1 y2 y3 y4 y5 y6 y7 y8 _ hs si ag la fo co cv ta rc ec su pe ti mn nu th fu a2 r_3 e_4) (cwV 1 hts gX1_precedes_X1_size rfl rfl rfl (by decide +kernel) ⟨Nat.le_of_ble_eq_true rfl, Nat.le_of_ble_eq_true rfl⟩) hK hP hD hS hA [0, 1, 2, 3, 4, 5, 6, 7, 8] [] rfl rfl (by decide) (by decide) rfl rfl rfl rfl rfl hl.1 rfl (lv_room (Nat.le_of_ble_eq_true rfl)) dX1_precedes_8 (fun H locs hP hD hS => ?_)
  have hP : va_P D vwCl (wY cI cJ y0 y1 y2 y3 y4 y5 y6 y7 y8 hs si ag la fo co cv ta rc ec su pe ti mn nu th) H := hP
  have hD : va_D A (wY cI cJ y0 y1 y2 y3 y4 y5 y6 y7 y8 hs si ag la fo co cv ta rc ec su pe ti mn nu th) := hD
  refine lv_istore (lv' := [(4, .int r_3), (3, .int r_1), (0, .ref y0), (1, .int a1), (2, .int a2)]) hx hb dX1_precedes_11 hl (by decide) rfl (fun ls hl => ?_)
  refine lv_iload_n hx hb dX1_precedes_13 rfl (lv_at hl 3 rfl) ?_
  refine lv_iload_n hx hb dX1_precedes_14 rfl (lv_at hl 4 rfl) ?_
  refine lv_ixor hx hb dX1_precedes_15 ?_
  refine lv_istore (lv' := [(5, .int (a1 ^^^ a2)), (4, .int r_3), (3, .int r_1), (0, .ref y0), (1, .int a1), (2, .int a2)]) hx hb dX1_precedes_16 hl (by decide) rfl (fun ls hl => ?_)
  refine lv_iload_n hx hb dX1_precedes_18 rfl (lv_at hl 2 rfl) ?_
  refine lv_iload hx hb dX1_precedes_19 (lv_at hl 1 rfl) ?_
  refine lv_icmp_ne (tgt := 43) hx hb dX1_precedes_21 (by decide) (fun c_5 => ?_) (fun c_5 => ?_)
  · replace h := (if_neg c_5).symm.trans h
    refine lv_iload_n hx hb dX1_precedes_43 rfl (lv_at hl 2 rfl) ?_
    refine lv_iload hx hb dX1_precedes_44 (lv_at hl 1 rfl) ?_
    refine lv_icmp_ge (tgt := 53) hx hb dX1_precedes_46 (by decide) (fun c_6 => ?_) (fun c_6 => ?_)
    · replace h := (if_pos c_6).symm.trans h
      refine lv_iconst (v := 0) hx hb dX1_precedes_53 (by decide) ?_
      cases h
      exact W.zret hx hb hr rfl (fun t ht hW => ⟨⟨_, (), rfl, rfl, by rw [ht]; exact hP, va_K.moved hW.alike hK, hD⟩, hS.F ht⟩) hS.2.2 dX1_precedes_54
    · replace h := (if_neg c_6).symm.trans h
      refine lv_iconst (v := 1) hx hb dX1_precedes_49 (by decide) ?_
      refine lv_goto (tgt := 54) hx hb dX1_precedes_50 (by decide) ?_
      cases h
      exact W.zret hx hb hr rfl (fun t ht hW => ⟨⟨_, (), rfl, rfl, by rw [ht]; exact hP, va_K.moved hW.alike hK, hD⟩, hS.F ht⟩) hS.2.2 dX1_precedes_54
  · replace h := (if_pos c_5).symm.trans h
    refine lv_iload_n hx hb dX1_precedes_24 rfl (lv_at hl 4 rfl) ?_
    refine lv_iload hx hb dX1_precedes_25 (lv_at hl 0 rfl) ?_
    refine lv_iand hx hb dX1_precedes_27 ?_
    refine lv_iload hx hb dX1_precedes_28 (lv_at hl 0 rfl) ?_
    refine lv_ineg hx hb dX1_precedes_30 ?_
    refine lv_iand hx hb dX1_precedes_31 ?_
    refine lv_if_eq (tgt := 39) hx hb dX1_precedes_32 (by decide) (fun c_7 => ?_) (fun c_7 => ?_)
    · replace h := (if_pos c_7).symm.trans h
      refine lv_iconst (v := 0) hx hb dX1_precedes_39 (by decide) ?_
      refine lv_goto (tgt := 54) hx hb dX1_precedes_40 (by decide) ?_
      cases h
      exact W.zret hx hb hr rfl (fun t ht hW => ⟨⟨_, (), rfl, rfl, by rw [ht]; exact hP, va_K.moved hW.alike hK, hD⟩, hS.F ht⟩) hS.2.2 dX1_precedes_54
    · replace h := (if_neg c_7).symm.trans h
      refine lv_iconst (v := 1) hx hb dX1_precedes_35 (by decide) ?_
      refine lv_goto (tgt := 54) hx hb dX1_precedes_36 (by decide) ?_
      cases h
      exact W.zret hx hb hr rfl (fun t ht hW => ⟨⟨_, (), rfl, rfl, by rw [ht]; exact hP, va_K.moved hW.alike hK, hD⟩, hS.F ht⟩) hS.2.2 dX1_precedes_54
-- X1_best
def m_X1_best_10 (fu : Nat) (hs : Nat → Int32) (fo : Nat → Int32) (rc : Int32) (ec : Int32) (nu : Int32) : Nat → Int32 → Int32 → Int32 → (Nat → Int32) → Option ((Int32) × ((Nat → Int32)))
  | 0, _, _, _, _ => none
  | n + 1, v1, v2, v3, cv => (if (1 <<< (nu &&& 31)) ≤ v3 then some (v1, cv) else (bnd2 (m_X1_price fu hs fo cv rc ec nu v3) (fun r_5 cv_6 => (if r_5 < v2 then (m_X1_best_10 fu hs fo rc ec nu n v3 r_5 (v3 + 1) cv_6) else (if r_5 = v2 then (bnd1 (m_X1_precedes fu v3 v1) (fun r_10 => (if r_10 = 0 then (m_X1_best_10 fu hs fo rc ec nu n v1 v2 (v3 + 1) cv_6) else (m_X1_best_10 fu hs fo rc ec nu n v3 r_5 (v3 + 1) cv_6)))) else (m_X1_best_10 fu hs fo rc ec nu n v1 v2 (v3 + 1) cv_6))))))
def m_X1_best (fu : Nat) (hs : Nat → Int32) (fo : Nat → Int32) (cv : Nat → Int32) (rc : Int32) (ec : Int32) (nu : Int32) : Option ((Int32) × ((Nat → Int32))) := (bnd2 (m_X1_price fu hs fo cv rc ec nu 0) (fun r_1 cv_2 => (m_X1_best_10 fu hs fo rc ec nu fu 0 r_1 1 cv_2)))
set_option maxHeartbeats 4000000 in
set_option maxRecDepth 100000 in
theorem c_X1_best (l : Launch) (D : va_G) (cI cJ : ClassId) (y0 y1 y2 y3 y4 y5 y6 y7 y8 : Nat) (sz : Nat) (hs : Nat → Int32) (si : Nat → Int32) (ag : Nat → Int32) (la : Nat → Int32) (fo : Nat → Int32) (co : Nat → Int32) (cv : Nat → Int32) (ta : Nat → Int32) (rc : Int32) (ec : Int32) (su : Int32) (pe : Int32) (ti : Int32) (mn : Int32) (nu : Int32) (th : Int32) (fu : Nat) (r0 : Int32) (cv' : Nat → Int32) (h : m_X1_best fu hs fo cv rc ec nu = some (r0, cv')) : Met l yX1_best wsX1_best ({ frames := 3, cells := 0, slots := 0, locals := 67 }) (va_Pc [.ref y0] (bx_Pre D [(cI, .int), (cJ, .long)] (wY cI cJ y0 y1 y2 y3 y4 y5 y6 y7 y8 hs si ag la fo co cv ta rc ec su pe ti mn nu th) sz)) (va_Qi (fun (r : Int32) (_ : Unit) => r = r0) (fun (_ : Unit) t => bx_Post D [(cI, .int), (cJ, .long)] (wY cI cJ y0 y1 y2 y3 y4 y5 y6 y7 y8 hs si ag la fo co cv' ta rc ec su pe ti mn nu th) (va_A (wY cI cJ y0 y1 y2 y3 y4 y5 y6 y7 y8 hs si ag la fo co cv ta rc ec su pe ti mn nu th) sz) t) (va_A (wY cI cJ y0 y1 y2 y3 y4 y5 y6 y7 y8 hs si ag la fo co cv ta rc ec su pe ti mn nu th) sz)) 0 0 (va_A (wY cI cJ y0 y1 y2 y3 y4 y5 y6 y7 y8 hs si ag la fo co cv ta rc ec su pe ti mn nu th) sz) := by
  refine Met.ofW (cc := cX1_best) (maxL := 5) (ret := (some .int)) (by decide) rfl ?_
  intro p e s m args below meth c s₁ B hml hv
  obtain ⟨rfl, hsz, hP, hK, hD0⟩ := hv
  have hx := B.exec
  have hb := B.bytes
  have hr := B.returns
  have hts := atoms_spec (ws := wsX1_best) B.pre
  have hown : s.vm.findClass RX1 = some m.cls := findClass_of_methodNamed B.named
  have hlocks := B.notSynchronized
  subst hsz
  have hD := hD0.self (sz := s.heap.size)
  generalize hAe : va_A (wY cI cJ y0 y1 y2 y3 y4 y5 y6 y7 y8 hs si ag la fo co cv ta rc ec su pe ti mn nu th) s.heap.size = A at hD ⊢
  have hA : ∀ q : Nat, s.heap.size ≤ q → A q := fun q h9 => by rw [← hAe]; exact Or.inr h9
  have hS : va_S A s.heap s.heap [] := va_S.rf
  have hin : ∀ w ∈ wsX10, w ∈ wsX1_best := fun _ h9 => List.mem_cons_of_mem _ (List.mem_append_right _ h9)
  have hw_0 := hts (.fieldLink RX1 86 "RoleMinerModel" "number" "I") (by decide +kernel)
  have hl := lv_entry ([.ref y0]) (n := 5) (Nat.le_of_ble_eq_true rfl)
  rw [lg_entry_eq]
  generalize (lg_sl ([.ref y0]) ++ List.replicate (5 - (lg_sl ([.ref y0])).length) Slot.unset).toArray = ls at hl ⊢
  have hl : lv_has ls 5 [(0, .ref y0)] := hl
  have L10 : ∀ (n : Nat) (v1 : Int32) (v2 : Int32) (v3 : Int32) (cv : Nat → Int32) (H : Heap) (locs : List Loc) (ls : Array Slot), m_X1_best_10 fu hs fo rc ec nu n v1 v2 v3 cv = some (r0, cv') → va_P D vwCl (wY cI cJ y0 y1 y2 y3 y4 y5 y6 y7 y8 hs si ag la fo co cv ta rc ec su pe ti mn nu th) H → va_D A (wY cI cJ y0 y1 y2 y3 y4 y5 y6 y7 y8 hs si ag la fo co cv ta rc ec su pe ti mn nu th) → va_S A s.heap H locs → lv_has ls 5 [(0, .ref y0), (1, .int v1), (2, .int v2), (3, .int v3)] → W p l e (headSpec wsX1_best ({ frames := 3, cells := 0, slots := 0, locals := 67 })).room s m ([.ref y0] : List Value).toArray below meth c H locs 0 0 (MQ below (va_Qi (fun (r : Int32) (_ : Unit) => r = r0) (fun (_ : Unit) t => bx_Post D [(cI, .int), (cJ, .long)] (wY cI cJ y0 y1 y2 y3 y4 y5 y6 y7 y8 hs si ag la fo co cv' ta rc ec su pe ti mn nu th) A t) A) ([.ref y0] : List Value).toArray s 0 0 A) (F0 m 10 ls []) := by
    intro n
    induction n with
    | zero =>
      intro v1 v2 v3 cv H locs ls h
      rw [m_X1_best_10] at h
      cases h
    | succ n ih =>
      intro v1 v2 v3 cv H locs ls h hP hD hS hl
      rw [m_X1_best_10] at h
      refine lv_iload_n hx hb dX1_best_10 rfl (lv_at hl 3 rfl) ?_
      refine lv_iconst (v := 1) hx hb dX1_best_11 (by decide) ?_
      refine lv_aload_n hx hb dX1_best_12 rfl (lv_at hl 0 rfl) ?_
      refine va_get (D := D) (ci := 1) (v := .int nu) (C := RX1) (T := TX1) (N := 16) hx hb hts hin hown hK hP 0 rfl rfl 14 (by decide) hw_0 (fun _ h9 => h9) rfl dX1_best_13 ?_
      refine lv_ishl hx hb dX1_best_16 ?_
      refine lv_icmp_ge (tgt := 59) hx hb dX1_best_17 (by decide) (fun c_4 => ?_) (fun c_4 => ?_)
      · replace h := (if_pos c_4).symm.trans h
        refine lv_iload_n hx hb dX1_best_59 rfl (lv_at hl 1 rfl) ?_
        cases h
        exact W.iret hx hb hr (fun t ht hW => ⟨⟨_, (), rfl, rfl, by rw [ht]; exact hP, va_K.moved hW.alike hK, hD⟩, hS.F ht⟩) hS.2.2 dX1_best_60
      · replace h := (if_neg c_4).symm.trans h
        refine lv_aload_n hx hb dX1_best_20 rfl (lv_at hl 0 rfl) ?_
        refine lv_iload_n hx hb dX1_best_21 rfl (lv_at hl 3 rfl) ?_
        obtain ⟨r_5, cv_6, e_7, h⟩ := bnd2_some h
        refine cl_Vi (As := [.int v3]) (rest := []) (wc := wY cI cJ y0 y1 y2 y3 y4 y5 y6 y7 y8 hs si ag la fo co cv ta rc ec su pe ti mn nu th) (w1 := wY cI cJ y0 y1 y2 y3 y4 y5 y6 y7 y8 hs si ag la fo co cv_6 ta rc ec su pe ti mn nu th) (wr := []) ⟨hx, hb, hml, hown, hts⟩ (c_X1_price l D cI cJ y0 y1 y2 y3 y4 y5 y6 y7 y8 _ hs si ag la fo co cv ta rc ec su pe ti mn nu th fu v3 r_5 cv_6 e_7) (cwV 1 hts gX1_best_X1_price rfl rfl rfl (by decide +kernel) ⟨Nat.le_of_ble_eq_true rfl, Nat.le_of_ble_eq_true rfl⟩) hK hP hD hS hA [0, 1, 2, 3, 4, 5, 6, 7, 8] [] rfl rfl (by decide) (by decide) rfl rfl rfl rfl rfl hl.1 rfl (lv_room (Nat.le_of_ble_eq_true rfl)) dX1_best_22 (fun H locs hP hD hS => ?_)
        have hP : va_P D vwCl (wY cI cJ y0 y1 y2 y3 y4 y5 y6 y7 y8 hs si ag la fo co cv_6 ta rc ec su pe ti mn nu th) H := hP
        have hD : va_D A (wY cI cJ y0 y1 y2 y3 y4 y5 y6 y7 y8 hs si ag la fo co cv_6 ta rc ec su pe ti mn nu th) := hD
        refine lv_istore (lv' := [(4, .int r_5), (0, .ref y0), (1, .int v1), (2, .int v2), (3, .int v3)]) hx hb dX1_best_25 hl (by decide) rfl (fun ls hl => ?_)
        refine lv_iload hx hb dX1_best_27 (lv_at hl 0 rfl) ?_
        refine lv_iload_n hx hb dX1_best_29 rfl (lv_at hl 3 rfl) ?_
        refine lv_icmp_lt (tgt := 48) hx hb dX1_best_30 (by decide) (fun c_8 => ?_) (fun c_8 => ?_)
        · replace h := (if_pos c_8).symm.trans h
          refine lv_iload_n hx hb dX1_best_48 rfl (lv_at hl 4 rfl) ?_
          refine lv_istore_n (lv' := [(1, .int v3), (4, .int r_5), (0, .ref y0), (2, .int v2), (3, .int v3)]) hx hb dX1_best_49 rfl hl (by decide) rfl (fun ls hl => ?_)
          refine lv_iload hx hb dX1_best_50 (lv_at hl 1 rfl) ?_
          refine lv_istore_n (lv' := [(2, .int r_5), (1, .int v3), (4, .int r_5), (0, .ref y0), (3, .int v3)]) hx hb dX1_best_52 rfl hl (by decide) rfl (fun ls hl => ?_)
          refine lv_iinc (v := (v3 + 1)) (lv' := [(3, .int (v3 + 1)), (2, .int r_5), (1, .int v3), (4, .int r_5), (0, .ref y0)]) hx hb dX1_best_53 hl (k := 4) rfl rfl (by decide) rfl (fun ls hl => ?_)
          refine lv_goto (tgt := 10) hx hb dX1_best_56 (by decide) ?_
          exact ih v3 r_5 (v3 + 1) cv_6 _ _ _ h hP hD hS (lv_sub hl [4, 2, 1, 0] rfl)
        · replace h := (if_neg c_8).symm.trans h
          refine lv_iload hx hb dX1_best_33 (lv_at hl 0 rfl) ?_
          refine lv_iload_n hx hb dX1_best_35 rfl (lv_at hl 3 rfl) ?_
          refine lv_icmp_ne (tgt := 53) hx hb dX1_best_36 (by decide) (fun c_9 => ?_) (fun c_9 => ?_)
          · replace h := (if_neg c_9).symm.trans h
            refine lv_iinc (v := (v3 + 1)) (lv' := [(3, .int (v3 + 1)), (4, .int r_5), (0, .ref y0), (1, .int v1), (2, .int v2)]) hx hb dX1_best_53 hl (k := 4) rfl rfl (by decide) rfl (fun ls hl => ?_)
            refine lv_goto (tgt := 10) hx hb dX1_best_56 (by decide) ?_
            exact ih v1 v2 (v3 + 1) cv_6 _ _ _ h hP hD hS (lv_sub hl [2, 3, 4, 0] rfl)
          · replace h := (if_pos c_9).symm.trans h
            refine lv_aload_n hx hb dX1_best_39 rfl (lv_at hl 1 rfl) ?_
            refine lv_iload_n hx hb dX1_best_40 rfl (lv_at hl 4 rfl) ?_
            refine lv_iload_n hx hb dX1_best_41 rfl (lv_at hl 2 rfl) ?_
            obtain ⟨r_10, e_11, h⟩ := bnd1_some h
            refine cl_Vi (As := [.int v3, .int v1]) (rest := []) (wc := wY cI cJ y0 y1 y2 y3 y4 y5 y6 y7 y8 hs si ag la fo co cv_6 ta rc ec su pe ti mn nu th) (w1 := wY cI cJ y0 y1 y2 y3 y4 y5 y6 y7 y8 hs si ag la fo co cv_6 ta rc ec su pe ti mn nu th) (wr := []) ⟨hx, hb, hml, hown, hts⟩ (c_X1_precedes l D cI cJ y0 y1 y2 y3 y4 y5 y6 y7 y8 _ hs si ag la fo co cv_6 ta rc ec su pe ti mn nu th fu v3 v1 r_10 e_11) (cwV 2 hts gX1_best_X1_precedes rfl rfl rfl (by decide +kernel) ⟨Nat.le_of_ble_eq_true rfl, Nat.le_of_ble_eq_true rfl⟩) hK hP hD hS hA [0, 1, 2, 3, 4, 5, 6, 7, 8] [] rfl rfl (by decide) (by decide) rfl rfl rfl rfl rfl hl.1 rfl (lv_room (Nat.le_of_ble_eq_true rfl)) dX1_best_42 (fun H locs hP hD hS => ?_)
            have hP : va_P D vwCl (wY cI cJ y0 y1 y2 y3 y4 y5 y6 y7 y8 hs si ag la fo co cv_6 ta rc ec su pe ti mn nu th) H := hP
            have hD : va_D A (wY cI cJ y0 y1 y2 y3 y4 y5 y6 y7 y8 hs si ag la fo co cv_6 ta rc ec su pe ti mn nu th) := hD
            refine lv_if_eq (tgt := 53) hx hb dX1_best_45 (by decide) (fun c_12 => ?_) (fun c_12 => ?_)
            · replace h := (if_pos c_12).symm.trans h
              refine lv_iinc (v := (v3 + 1)) (lv' := [(3, .int (v3 + 1)), (4, .int r_5), (0, .ref y0), (1, .int v1), (2, .int v2)]) hx hb dX1_best_53 hl (k := 4) rfl rfl (by decide) rfl (fun ls hl => ?_)
              refine lv_goto (tgt := 10) hx hb dX1_best_56 (by decide) ?_
              exact ih v1 v2 (v3 + 1) cv_6 _ _ _ h hP hD hS (lv_sub hl [2, 3, 4, 0] rfl)
            · replace h := (if_neg c_12).symm.trans h
              refine lv_iload_n hx hb dX1_best_48 rfl (lv_at hl 4 rfl) ?_
              refine lv_istore_n (lv' := [(1, .int v3), (4, .int r_5), (0, .ref y0), (2, .int v2), (3, .int v3)]) hx hb dX1_best_49 rfl hl (by decide) rfl (fun ls hl => ?_)
              refine lv_iload hx hb dX1_best_50 (lv_at hl 1 rfl) ?_
              refine lv_istore_n (lv' := [(2, .int r_5), (1, .int v3), (4, .int r_5), (0, .ref y0), (3, .int v3)]) hx hb dX1_best_52 rfl hl (by decide) rfl (fun ls hl => ?_)
              refine lv_iinc (v := (v3 + 1)) (lv' := [(3, .int (v3 + 1)), (2, .int r_5), (1, .int v3), (4, .int r_5), (0, .ref y0)]) hx hb dX1_best_53 hl (k := 4) rfl rfl (by decide) rfl (fun ls hl => ?_)
              refine lv_goto (tgt := 10) hx hb dX1_best_56 (by decide) ?_
              exact ih v3 r_5 (v3 + 1) cv_6 _ _ _ h hP hD hS (lv_sub hl [4, 2, 1, 0] rfl)
  rw [m_X1_best] at h
  refine lv_iconst (v := 0) hx hb dX1_best_0 (by decide) ?_
  refine lv_istore_n (lv' := [(1, .int 0), (0, .ref y0)]) hx hb dX1_best_1 rfl hl (by decide) rfl (fun ls hl => ?_)
  refine lv_aload_n hx hb dX1_best_2 rfl (lv_at hl 1 rfl) ?_
  refine lv_iconst (v := 0) hx hb dX1_best_3 (by decide) ?_
  obtain ⟨r_1, cv_2, e_3, h⟩ := bnd2_some h
  refine cl_Vi (As := [.int 0]) (rest := []) (wc := wY cI cJ y0 y1 y2 y3 y4 y5 y6 y7 y8 hs si ag la fo co cv ta rc ec su pe ti mn nu th) (w1 := wY cI cJ y0 y1 y2 y3 y4 y5 y6 y7 y8 hs si ag la fo co cv_2 ta rc ec su pe ti mn nu th) (wr := []) ⟨hx, hb, hml, hown, hts⟩ (c_X1_price l D cI cJ y0 y1 y2 y3 y4 y5 y6 y7 y8 _ hs si ag la fo co cv ta rc ec su pe ti mn nu th fu 0 r_1 cv_2 e_3) (cwV 1 hts gX1_best_X1_price rfl rfl rfl (by decide +kernel) ⟨Nat.le_of_ble_eq_true rfl, Nat.le_of_ble_eq_true rfl⟩) hK hP hD hS hA [0, 1, 2, 3, 4, 5, 6, 7, 8] [] rfl rfl (by decide) (by decide) rfl rfl rfl rfl rfl hl.1 rfl (lv_room (Nat.le_of_ble_eq_true rfl)) dX1_best_4 (fun H locs hP hD hS => ?_)
  have hP : va_P D vwCl (wY cI cJ y0 y1 y2 y3 y4 y5 y6 y7 y8 hs si ag la fo co cv_2 ta rc ec su pe ti mn nu th) H := hP
  have hD : va_D A (wY cI cJ y0 y1 y2 y3 y4 y5 y6 y7 y8 hs si ag la fo co cv_2 ta rc ec su pe ti mn nu th) := hD
  refine lv_istore_n (lv' := [(2, .int r_1), (1, .int 0), (0, .ref y0)]) hx hb dX1_best_7 rfl hl (by decide) rfl (fun ls hl => ?_)
  refine lv_iconst (v := 1) hx hb dX1_best_8 (by decide) ?_
  refine lv_istore_n (lv' := [(3, .int 1), (2, .int r_1), (1, .int 0), (0, .ref y0)]) hx hb dX1_best_9 rfl hl (by decide) rfl (fun ls hl => ?_)
  exact L10 fu 0 r_1 1 cv_2 _ _ _ h hP hD hS (lv_sub hl [3, 2, 1, 0] rfl)
-- X1_isTooMuch
def m_X1_isTooMuch (fu : Nat) (hs : Nat → Int32) (ag : Nat → Int32) (fo : Nat → Int32) (co : Nat → Int32) (su : Int32) (nu : Int32) : Option ((Int32) × ((Nat → Int32)) × ((Nat → Int32)) × ((Int32))) := (bnd3 (m_X1_find fu hs ag fo co su nu) (fun fo_1 co_2 nu_3 => (if nu_3 ≤ 14 then some (0, fo_1, co_2, nu_3) else some (1, fo_1, co_2, nu_3))))
set_option maxHeartbeats 4000000 in
set_option maxRecDepth 100000 in
theorem c_X1_isTooMuch (l : Launch) (D : va_G) (cI cJ : ClassId) (y0 y1 y2 y3 y4 y5 y6 y7 y8 : Nat) (sz : Nat) (hs : Nat → Int32) (si : Nat → Int32) (ag : Nat → Int32) (la : Nat → Int32) (fo : Nat → Int32) (co : Nat → Int32) (cv : Nat → Int32) (ta : Nat → Int32) (rc : Int32) (ec : Int32) (su : Int32) (pe : Int32) (ti : Int32) (mn : Int32) (nu : Int32) (th : Int32) (fu : Nat) (r0 : Int32) (fo' : Nat → Int32) (co' : Nat → Int32) (nu' : Int32) (h : m_X1_isTooMuch fu hs ag fo co su nu = some (r0, fo', co', nu')) : Met l yX1_isTooMuch wsX1_isTooMuch ({ frames := 3, cells := 0, slots := 0, locals := 68 }) (va_Pc [.ref y0] (bx_Pre D [(cI, .int), (cJ, .long)] (wY cI cJ y0 y1 y2 y3 y4 y5 y6 y7 y8 hs si ag la fo co cv ta rc ec su pe ti mn nu th) sz)) (va_Qi (fun (r : Int32) (_ : Unit) => r = r0) (fun (_ : Unit) t => bx_Post D [(cI, .int), (cJ, .long)] (wY cI cJ y0 y1 y2 y3 y4 y5 y6 y7 y8 hs si ag la fo' co' cv ta rc ec su pe ti mn nu' th) (va_A (wY cI cJ y0 y1 y2 y3 y4 y5 y6 y7 y8 hs si ag la fo co cv ta rc ec su pe ti mn nu th) sz) t) (va_A (wY cI cJ y0 y1 y2 y3 y4 y5 y6 y7 y8 hs si ag la fo co cv ta rc ec su pe ti mn nu th) sz)) 0 0 (va_A (wY cI cJ y0 y1 y2 y3 y4 y5 y6 y7 y8 hs si ag la fo co cv ta rc ec su pe ti mn nu th) sz) := by
  refine Met.ofW (cc := cX1_isTooMuch) (maxL := 1) (ret := (some .boolean)) (by decide) rfl ?_
  intro p e s m args below meth c s₁ B hml hv
  obtain ⟨rfl, hsz, hP, hK, hD0⟩ := hv
  have hx := B.exec
  have hb := B.bytes
  have hr := B.returns
  have hts := atoms_spec (ws := wsX1_isTooMuch) B.pre
  have hown : s.vm.findClass RX1 = some m.cls := findClass_of_methodNamed B.named
  have hlocks := B.notSynchronized
  subst hsz
  have hD := hD0.self (sz := s.heap.size)
  generalize hAe : va_A (wY cI cJ y0 y1 y2 y3 y4 y5 y6 y7 y8 hs si ag la fo co cv ta rc ec su pe ti mn nu th) s.heap.size = A at hD ⊢
  have hA : ∀ q : Nat, s.heap.size ≤ q → A q := fun q h9 => by rw [← hAe]; exact Or.inr h9
  have hS : va_S A s.heap s.heap [] := va_S.rf
  have hin : ∀ w ∈ wsX10, w ∈ wsX1_isTooMuch := fun _ h9 => List.mem_cons_of_mem _ (List.mem_append_right _ h9)
  have hw_0 := hts (.fieldLink RX1 86 "RoleMinerModel" "number" "I") (by decide +kernel)
  have hl := lv_entry ([.ref y0]) (n := 1) (Nat.le_of_ble_eq_true rfl)
  rw [lg_entry_eq]
  generalize (lg_sl ([.ref y0]) ++ List.replicate (1 - (lg_sl ([.ref y0])).length) Slot.unset).toArray = ls at hl ⊢
  have hl : lv_has ls 1 [(0, .ref y0)] := hl
  rw [m_X1_isTooMuch] at h
  refine lv_aload_n hx hb dX1_isTooMuch_0 rfl (lv_at hl 0 rfl) ?_
  obtain ⟨fo_1, co_2, nu_3, e_4, h⟩ := bnd3_some h
  refine cl_Vv (As := []) (rest := []) (wc := wY cI cJ y0 y1 y2 y3 y4 y5 y6 y7 y8 hs si ag la fo co cv ta rc ec su pe ti mn nu th) (w1 := wY cI cJ y0 y1 y2 y3 y4 y5 y6 y7 y8 hs si ag la fo_1 co_2 cv ta rc ec su pe ti mn nu_3 th) (wr := []) ⟨hx, hb, hml, hown, hts⟩ (c_X1_find l D cI cJ y0 y1 y2 y3 y4 y5 y6 y7 y8 _ hs si ag la fo co cv ta rc ec su pe ti mn nu th fu  fo_1 co_2 nu_3 e_4) (cwV 0 hts gX1_isTooMuch_X1_find rfl rfl rfl (by decide +kernel) ⟨Nat.le_of_ble_eq_true rfl, Nat.le_of_ble_eq_true rfl⟩) hK hP hD hS hA [0, 1, 2, 3, 4, 5, 6, 7, 8] [] rfl rfl (by decide) (by decide) rfl rfl rfl rfl rfl hl.1 rfl (lv_room (Nat.le_of_ble_eq_true rfl)) dX1_isTooMuch_1 (fun H locs hP hD hS => ?_)
  have hP : va_P D vwCl (wY cI cJ y0 y1 y2 y3 y4 y5 y6 y7 y8 hs si ag la fo_1 co_2 cv ta rc ec su pe ti mn nu_3 th) H := hP
  have hD : va_D A (wY cI cJ y0 y1 y2 y3 y4 y5 y6 y7 y8 hs si ag la fo_1 co_2 cv ta rc ec su pe ti mn nu_3 th) := hD
  refine lv_aload_n hx hb dX1_isTooMuch_4 rfl (lv_at hl 0 rfl) ?_
  refine va_get (D := D) (ci := 1) (v := .int nu_3) (C := RX1) (T := TX1) (N := 16) hx hb hts hin hown hK hP 0 rfl rfl 14 (by decide) hw_0 (fun _ h9 => h9) rfl dX1_isTooMuch_5 ?_
  refine lv_bipush (v := 14) hx hb dX1_isTooMuch_8 (by decide) ?_
  refine lv_icmp_le (tgt := 17) hx hb dX1_isTooMuch_10 (by decide) (fun c_5 => ?_) (fun c_5 => ?_)
  · replace h := (if_pos c_5).symm.trans h
    refine lv_iconst (v := 0) hx hb dX1_isTooMuch_17 (by decide) ?_
    cases h
    exact W.zret hx hb hr rfl (fun t ht hW => ⟨⟨_, (), rfl, rfl, by rw [ht]; exact hP, va_K.moved hW.alike hK, hD⟩, hS.F ht⟩) hS.2.2 dX1_isTooMuch_18
  · replace h := (if_neg c_5).symm.trans h
    refine lv_iconst (v := 1) hx hb dX1_isTooMuch_13 (by decide) ?_
    refine lv_goto (tgt := 18) hx hb dX1_isTooMuch_14 (by decide) ?_
    cases h
    exact W.zret hx hb hr rfl (fun t ht hW => ⟨⟨_, (), rfl, rfl, by rw [ht]; exact hP, va_K.moved hW.alike hK, hD⟩, hS.F ht⟩) hS.2.2 dX1_isTooMuch_18
-- X1_mineBest
def m_X1_mineBest_33 (fu : Nat) (hs : Nat → Int32) (ag : Nat → Int32) (rc : Int32) (ec : Int32) (su : Int32) : Nat → Int32 → Int32 → (Nat → Int32) → (Nat → Int32) → (Nat → Int32) → (Nat → Int32) → (Int32) → (Int32) → (Int32) → Option ((Int32) × ((Nat → Int32)) × ((Nat → Int32)) × ((Nat → Int32)) × ((Nat → Int32)) × ((Int32)) × ((Int32)) × ((Int32)))
  | 0, _, _, _, _, _, _, _, _, _ => none
  | n + 1, v1, v2, la, fo, co, cv, mn, nu, th => (if nu ≤ v2 then (bnd2 (m_X1_price fu hs fo cv rc ec nu v1) (fun r_22 cv_23 => some (r_22, la, fo, co, cv_23, mn, nu, th))) else (if (m_X1_isIn v1 v2) = 0 then (m_X1_mineBest_33 fu hs ag rc ec su n v1 (v2 + 1) la fo co cv mn nu th) else (ix v2 256 (ix mn 256 (m_X1_mineBest_33 fu hs ag rc ec su n v1 (v2 + 1) (upd la (Int32.toNatClampNeg mn) (fo (Int32.toNatClampNeg v2))) fo co cv (mn + 1) nu th)))))
def m_X1_mineBest (fu : Nat) (hs : Nat → Int32) (ag : Nat → Int32) (la : Nat → Int32) (fo : Nat → Int32) (co : Nat → Int32) (cv : Nat → Int32) (rc : Int32) (ec : Int32) (su : Int32) (mn : Int32) (nu : Int32) (th : Int32) : Option ((Int32) × ((Nat → Int32)) × ((Nat → Int32)) × ((Nat → Int32)) × ((Nat → Int32)) × ((Int32)) × ((Int32)) × ((Int32))) := (bnd4 (m_X1_isTooMuch fu hs ag fo co su nu) (fun r_1 fo_2 co_3 nu_4 => (if r_1 = 0 then (bnd2 (m_X1_holds th 0) (fun r_7 th_8 => (if r_7 = 0 then (bnd2 (m_X1_best fu hs fo_2 cv rc ec nu_4) (fun r_11 cv_12 => (m_X1_mineBest_33 fu hs ag rc ec su fu r_11 0 la fo_2 co_3 cv_12 0 nu_4 th_8))) else some ((-1), la, fo_2, co_3, cv, mn, nu_4, th_8)))) else (bnd2 (m_X1_holds th 1) (fun r_14 th_15 => (if r_14 = 0 then (bnd2 (m_X1_best fu hs fo_2 cv rc ec nu_4) (fun r_18 cv_19 => (m_X1_mineBest_33 fu hs ag rc ec su fu r_18 0 la fo_2 co_3 cv_19 0 nu_4 th_15))) else some ((-1), la, fo_2, co_3, cv, mn, nu_4, th_15)))))))
set_option maxHeartbeats 4000000 in
set_option maxRecDepth 100000 in
theorem c_X1_mineBest (l : Launch) (D : va_G) (cI cJ : ClassId) (y0 y1 y2 y3 y4 y5 y6 y7 y8 : Nat) (sz : Nat) (hs : Nat → Int32) (si : Nat → Int32) (ag : Nat → Int32) (la : Nat → Int32) (fo : Nat → Int32) (co : Nat → Int32) (cv : Nat → Int32) (ta : Nat → Int32) (rc : Int32) (ec : Int32) (su : Int32) (pe : Int32) (ti : Int32) (mn : Int32) (nu : Int32) (th : Int32) (fu : Nat) (r0 : Int32) (la' : Nat → Int32) (fo' : Nat → Int32) (co' : Nat → Int32) (cv' : Nat → Int32) (mn' : Int32) (nu' : Int32) (th' : Int32) (h : m_X1_mineBest fu hs ag la fo co cv rc ec su mn nu th = some (r0, la', fo', co', cv', mn', nu', th')) : Met l yX1_mineBest wsX1_mineBest ({ frames := 4, cells := 0, slots := 0, locals := 91 }) (va_Pc [.ref y0] (bx_Pre D [(cI, .int), (cJ, .long)] (wY cI cJ y0 y1 y2 y3 y4 y5 y6 y7 y8 hs si ag la fo co cv ta rc ec su pe ti mn nu th) sz)) (va_Qi (fun (r : Int32) (_ : Unit) => r = r0) (fun (_ : Unit) t => bx_Post D [(cI, .int), (cJ, .long)] (wY cI cJ y0 y1 y2 y3 y4 y5 y6 y7 y8 hs si ag la' fo' co' cv' ta rc ec su pe ti mn' nu' th') (va_A (wY cI cJ y0 y1 y2 y3 y4 y5 y6 y7 y8 hs si ag la fo co cv ta rc ec su pe ti mn nu th) sz) t) (va_A (wY cI cJ y0 y1 y2 y3 y4 y5 y6 y7 y8 hs si ag la fo co cv ta rc ec su pe ti mn nu th) sz)) 0 0 (va_A (wY cI cJ y0 y1 y2 y3 y4 y5 y6 y7 y8 hs si ag la fo co cv ta rc ec su pe ti mn nu th) sz) := by
  refine Met.ofW (cc := cX1_mineBest) (maxL := 3) (ret := (some .int)) (by decide) rfl ?_
  intro p e s m args below meth c s₁ B hml hv
  obtain ⟨rfl, hsz, hP, hK, hD0⟩ := hv
  have hx := B.exec
  have hb := B.bytes
  have hr := B.returns
  have hts := atoms_spec (ws := wsX1_mineBest) B.pre
  have hown : s.vm.findClass RX1 = some m.cls := findClass_of_methodNamed B.named
  have hlocks := B.notSynchronized
  subst hsz
  have hD := hD0.self (sz := s.heap.size)
  generalize hAe : va_A (wY cI cJ y0 y1 y2 y3 y4 y5 y6 y7 y8 hs si ag la fo co cv ta rc ec su pe ti mn nu th) s.heap.size = A at hD ⊢
  have hA : ∀ q : Nat, s.heap.size ≤ q → A q := fun q h9 => by rw [← hAe]; exact Or.inr h9
  have hS : va_S A s.heap s.heap [] := va_S.rf
  have hin : ∀ w ∈ wsX10, w ∈ wsX1_mineBest := fun _ h9 => List.mem_cons_of_mem _ (List.mem_append_right _ h9)
  have hw_0 := hts (.fieldLink RX1 112 "RoleMinerModel" "many" "I") (by decide +kernel)
  have hw_1 := hts (.fieldLink RX1 86 "RoleMinerModel" "number" "I") (by decide +kernel)
  have hw_2 := hts (.fieldLink RX1 19 "RoleMinerModel" "laid" "[I") (by decide +kernel)
  have hw_3 := hts (.fieldLink RX1 22 "RoleMinerModel" "found" "[I") (by decide +kernel)
  have hl := lv_entry ([.ref y0]) (n := 3) (Nat.le_of_ble_eq_true rfl)
  rw [lg_entry_eq]
  generalize (lg_sl ([.ref y0]) ++ List.replicate (3 - (lg_sl ([.ref y0])).length) Slot.unset).toArray = ls at hl ⊢
  have hl : lv_has ls 3 [(0, .ref y0)] := hl
  have L33 : ∀ (n : Nat) (v1 : Int32) (v2 : Int32) (la : Nat → Int32) (fo : Nat → Int32) (co : Nat → Int32) (cv : Nat → Int32) (mn : Int32) (nu : Int32) (th : Int32) (H : Heap) (locs : List Loc) (ls : Array Slot), m_X1_mineBest_33 fu hs ag rc ec su n v1 v2 la fo co cv mn nu th = some (r0, la', fo', co', cv', mn', nu', th') → va_P D vwCl (wY cI cJ y0 y1 y2 y3 y4 y5 y6 y7 y8 hs si ag la fo co cv ta rc ec su pe ti mn nu th) H → va_D A (wY cI cJ y0 y1 y2 y3 y4 y5 y6 y7 y8 hs si ag la fo co cv ta rc ec su pe ti mn nu th) → va_S A s.heap H locs → lv_has ls 3 [(0, .ref y0), (1, .int v1), (2, .int v2)] → W p l e (headSpec wsX1_mineBest ({ frames := 4, cells := 0, slots := 0, locals := 91 })).room s m ([.ref y0] : List Value).toArray below meth c H locs 0 0 (MQ below (va_Qi (fun (r : Int32) (_ : Unit) => r = r0) (fun (_ : Unit) t => bx_Post D [(cI, .int), (cJ, .long)] (wY cI cJ y0 y1 y2 y3 y4 y5 y6 y7 y8 hs si ag la' fo' co' cv' ta rc ec su pe ti mn' nu' th') A t) A) ([.ref y0] : List Value).toArray s 0 0 A) (F0 m 33 ls []) := by
    intro n
    induction n with
    | zero =>
      intro v1 v2 la fo co cv mn nu th H locs ls h
      rw [m_X1_mineBest_33] at h
      cases h
    | succ n ih =>
      intro v1 v2 la fo co cv mn nu th H locs ls h hP hD hS hl
      rw [m_X1_mineBest_33] at h
      refine lv_iload_n hx hb dX1_mineBest_33 rfl (lv_at hl 2 rfl) ?_
      refine lv_aload_n hx hb dX1_mineBest_34 rfl (lv_at hl 0 rfl) ?_
      refine va_get (D := D) (ci := 1) (v := .int nu) (C := RX1) (T := TX1) (N := 16) hx hb hts hin hown hK hP 0 rfl rfl 14 (by decide) hw_1 (fun _ h9 => h9) rfl dX1_mineBest_35 ?_
      refine lv_icmp_ge (tgt := 81) hx hb dX1_mineBest_38 (by decide) (fun c_21 => ?_) (fun c_21 => ?_)
      · replace h := (if_pos c_21).symm.trans h
        refine lv_aload_n hx hb dX1_mineBest_81 rfl (lv_at hl 0 rfl) ?_
        refine lv_iload_n hx hb dX1_mineBest_82 rfl (lv_at hl 1 rfl) ?_
        obtain ⟨r_22, cv_23, e_24, h⟩ := bnd2_some h
        refine cl_Vi (As := [.int v1]) (rest := []) (wc := wY cI cJ y0 y1 y2 y3 y4 y5 y6 y7 y8 hs si ag la fo co cv ta rc ec su pe ti mn nu th) (w1 := wY cI cJ y0 y1 y2 y3 y4 y5 y6 y7 y8 hs si ag la fo co cv_23 ta rc ec su pe ti mn nu th) (wr := []) ⟨hx, hb, hml, hown, hts⟩ (c_X1_price l D cI cJ y0 y1 y2 y3 y4 y5 y6 y7 y8 _ hs si ag la fo co cv ta rc ec su pe ti mn nu th fu v1 r_22 cv_23 e_24) (cwV 1 hts gX1_mineBest_X1_price rfl rfl rfl (by decide +kernel) ⟨Nat.le_of_ble_eq_true rfl, Nat.le_of_ble_eq_true rfl⟩) hK hP hD hS hA [0, 1, 2, 3, 4, 5, 6, 7, 8] [] rfl rfl (by decide) (by decide) rfl rfl rfl rfl rfl hl.1 rfl (lv_room (Nat.le_of_ble_eq_true rfl)) dX1_mineBest_83 (fun H locs hP hD hS => ?_)
        have hP : va_P D vwCl (wY cI cJ y0 y1 y2 y3 y4 y5 y6 y7 y8 hs si ag la fo co cv_23 ta rc ec su pe ti mn nu th) H := hP
        have hD : va_D A (wY cI cJ y0 y1 y2 y3 y4 y5 y6 y7 y8 hs si ag la fo co cv_23 ta rc ec su pe ti mn nu th) := hD
        cases h
        exact W.iret hx hb hr (fun t ht hW => ⟨⟨_, (), rfl, rfl, by rw [ht]; exact hP, va_K.moved hW.alike hK, hD⟩, hS.F ht⟩) hS.2.2 dX1_mineBest_86
      · replace h := (if_neg c_21).symm.trans h
        refine lv_aload_n hx hb dX1_mineBest_41 rfl (lv_at hl 0 rfl) ?_
        refine lv_iload_n hx hb dX1_mineBest_42 rfl (lv_at hl 1 rfl) ?_
        refine lv_iload_n hx hb dX1_mineBest_43 rfl (lv_at hl 2 rfl) ?_
        refine cl_Vi (As := [.int v1, .int v2]) (rest := []) (wc := wY cI cJ y0 y1 y2 y3 y4 y5 y6 y7 y8 hs si ag la fo co cv ta rc ec su pe ti mn nu th) (w1 := wY cI cJ y0 y1 y2 y3 y4 y5 y6 y7 y8 hs si ag la fo co cv ta rc ec su pe ti mn nu th) (wr := []) ⟨hx, hb, hml, hown, hts⟩ (c_X1_isIn l D cI cJ y0 y1 y2 y3 y4 y5 y6 y7 y8 _ hs si ag la fo co cv ta rc ec su pe ti mn nu th v1 v2) (cwV 2 hts gX1_mineBest_X1_isIn rfl rfl rfl (by decide +kernel) ⟨Nat.le_of_ble_eq_true rfl, Nat.le_of_ble_eq_true rfl⟩) hK hP hD hS hA [0, 1, 2, 3, 4, 5, 6, 7, 8] [] rfl rfl (by decide) (by decide) rfl rfl rfl rfl rfl hl.1 rfl (lv_room (Nat.le_of_ble_eq_true rfl)) dX1_mineBest_44 (fun H locs hP hD hS => ?_)
        have hP : va_P D vwCl (wY cI cJ y0 y1 y2 y3 y4 y5 y6 y7 y8 hs si ag la fo co cv ta rc ec su pe ti mn nu th) H := hP
        have hD : va_D A (wY cI cJ y0 y1 y2 y3 y4 y5 y6 y7 y8 hs si ag la fo co cv ta rc ec su pe ti mn nu th) := hD
        refine lv_if_eq (tgt := 75) hx hb dX1_mineBest_47 (by decide) (fun c_25 => ?_) (fun c_25 => ?_)
        · replace h := (if_pos c_25).symm.trans h
          refine lv_iinc (v := (v2 + 1)) (lv' := [(2, .int (v2 + 1)), (0, .ref y0), (1, .int v1)]) hx hb dX1_mineBest_75 hl (k := 2) rfl rfl (by decide) rfl (fun ls hl => ?_)
          refine lv_goto (tgt := 33) hx hb dX1_mineBest_78 (by decide) ?_
          exact ih v1 (v2 + 1) la fo co cv mn nu th _ _ _ h hP hD hS (lv_sub hl [1, 2, 0] rfl)
        · replace h := (if_neg c_25).symm.trans h
          refine lv_aload_n hx hb dX1_mineBest_50 rfl (lv_at hl 0 rfl) ?_
          refine va_get (D := D) (ci := 1) (v := .ref y4) (C := RX1) (T := TX1) (N := 16) hx hb hts hin hown hK hP 0 rfl rfl 3 (by decide) hw_2 (fun _ h9 => h9) rfl dX1_mineBest_51 ?_
          refine lv_aload_n hx hb dX1_mineBest_54 rfl (lv_at hl 0 rfl) ?_
          refine va_get (D := D) (ci := 1) (v := .int mn) (C := RX1) (T := TX1) (N := 16) hx hb hts hin hown hK hP 0 rfl rfl 13 (by decide) hw_0 (fun _ h9 => h9) rfl dX1_mineBest_55 ?_
          refine lv_aload_n hx hb dX1_mineBest_58 rfl (lv_at hl 0 rfl) ?_
          refine va_get (D := D) (ci := 1) (v := .ref y5) (C := RX1) (T := TX1) (N := 16) hx hb hts hin hown hK hP 0 rfl rfl 4 (by decide) hw_3 (fun _ h9 => h9) rfl dX1_mineBest_59 ?_
          refine lv_iload_n hx hb dX1_mineBest_62 rfl (lv_at hl 2 rfl) ?_
          obtain ⟨h_26, h⟩ := ix_some h
          refine va_iald hx hb hK hP 5 0 rfl rfl h_26 dX1_mineBest_63 ?_
          obtain ⟨h_27, h⟩ := ix_some h
          refine va_iast hx hb hK hP hD hS 4 0 rfl rfl h_27 dX1_mineBest_64 (fun H locs hP hD hS => ?_)
          have hP : va_P D vwCl (wY cI cJ y0 y1 y2 y3 y4 y5 y6 y7 y8 hs si ag (upd la (Int32.toNatClampNeg mn) (fo (Int32.toNatClampNeg v2))) fo co cv ta rc ec su pe ti mn nu th) H := hP
          have hD : va_D A (wY cI cJ y0 y1 y2 y3 y4 y5 y6 y7 y8 hs si ag (upd la (Int32.toNatClampNeg mn) (fo (Int32.toNatClampNeg v2))) fo co cv ta rc ec su pe ti mn nu th) := hD
          refine lv_aload_n hx hb dX1_mineBest_65 rfl (lv_at hl 0 rfl) ?_
          refine lv_dup hx hb dX1_mineBest_66 rfl ?_
          refine va_get (D := D) (ci := 1) (v := .int mn) (C := RX1) (T := TX1) (N := 16) hx hb hts hin hown hK hP 0 rfl rfl 13 (by decide) hw_0 (fun _ h9 => h9) rfl dX1_mineBest_67 ?_
          refine lv_iconst (v := 1) hx hb dX1_mineBest_70 (by decide) ?_
          refine lv_iadd hx hb dX1_mineBest_71 ?_
          refine va_put (D := D) (ci := 1) (v := .int (mn + 1)) (ty := .int) (C := RX1) (T := TX1) (N := 16) hx hb hts hin tyX1 tyX1_ok nmX1 hown hK hP hD hS 0 rfl rfl 13 (by decide) hw_0 (fun _ h9 => h9) rfl (by decide +kernel) rfl rfl (Nat.le_of_ble_eq_true rfl) dX1_mineBest_72 (fun H locs hP hD hS => ?_)
          have hP : va_P D vwCl (wY cI cJ y0 y1 y2 y3 y4 y5 y6 y7 y8 hs si ag (upd la (Int32.toNatClampNeg mn) (fo (Int32.toNatClampNeg v2))) fo co cv ta rc ec su pe ti (mn + 1) nu th) H := hP
          have hD : va_D A (wY cI cJ y0 y1 y2 y3 y4 y5 y6 y7 y8 hs si ag (upd la (Int32.toNatClampNeg mn) (fo (Int32.toNatClampNeg v2))) fo co cv ta rc ec su pe ti (mn + 1) nu th) := hD
          refine lv_iinc (v := (v2 + 1)) (lv' := [(2, .int (v2 + 1)), (0, .ref y0), (1, .int v1)]) hx hb dX1_mineBest_75 hl (k := 2) rfl rfl (by decide) rfl (fun ls hl => ?_)
          refine lv_goto (tgt := 33) hx hb dX1_mineBest_78 (by decide) ?_
          exact ih v1 (v2 + 1) (upd la (Int32.toNatClampNeg mn) (fo (Int32.toNatClampNeg v2))) fo co cv (mn + 1) nu th _ _ _ h hP hD hS (lv_sub hl [1, 2, 0] rfl)
  rw [m_X1_mineBest] at h
  refine lv_aload_n hx hb dX1_mineBest_0 rfl (lv_at hl 0 rfl) ?_
  refine lv_aload_n hx hb dX1_mineBest_1 rfl (lv_at hl 0 rfl) ?_
  obtain ⟨r_1, fo_2, co_3, nu_4, e_5, h⟩ := bnd4_some h
  refine cl_Vi (As := []) (rest := [.ref y0]) (wc := wY cI cJ y0 y1 y2 y3 y4 y5 y6 y7 y8 hs si ag la fo co cv ta rc ec su pe ti mn nu th) (w1 := wY cI cJ y0 y1 y2 y3 y4 y5 y6 y7 y8 hs si ag la fo_2 co_3 cv ta rc ec su pe ti mn nu_4 th) (wr := []) ⟨hx, hb, hml, hown, hts⟩ (c_X1_isTooMuch l D cI cJ y0 y1 y2 y3 y4 y5 y6 y7 y8 _ hs si ag la fo co cv ta rc ec su pe ti mn nu th fu  r_1 fo_2 co_3 nu_4 e_5) (cwV 0 hts gX1_mineBest_X1_isTooMuch rfl rfl rfl (by decide +kernel) ⟨Nat.le_of_ble_eq_true rfl, Nat.le_of_ble_eq_true rfl⟩) hK hP hD hS hA [0, 1, 2, 3, 4, 5, 6, 7, 8] [] rfl rfl (by decide) (by decide) rfl rfl rfl rfl rfl hl.1 rfl (lv_room (Nat.le_of_ble_eq_true rfl)) dX1_mineBest_2 (fun H locs hP hD hS => ?_)
  have hP : va_P D vwCl (wY cI cJ y0 y1 y2 y3 y4 y5 y6 y7 y8 hs si ag la fo_2 co_3 cv ta rc ec su pe ti mn nu_4 th) H := hP
  have hD : va_D A (wY cI cJ y0 y1 y2 y3 y4 y5 y6 y7 y8 hs si ag la fo_2 co_3 cv ta rc ec su pe ti mn nu_4 th) := hD
  refine lv_if_eq (tgt := 12) hx hb dX1_mineBest_5 (by decide) (fun c_6 => ?_) (fun c_6 => ?_)
  · replace h := (if_pos c_6).symm.trans h
    refine lv_iconst (v := 0) hx hb dX1_mineBest_12 (by decide) ?_
    obtain ⟨r_7, th_8, e_9, h⟩ := bnd2_some h
    refine cl_Vi (As := [.int 0]) (rest := []) (wc := wY cI cJ y0 y1 y2 y3 y4 y5 y6 y7 y8 hs si ag la fo_2 co_3 cv ta rc ec su pe ti mn nu_4 th) (w1 := wY cI cJ y0 y1 y2 y3 y4 y5 y6 y7 y8 hs si ag la fo_2 co_3 cv ta rc ec su pe ti mn nu_4 th_8) (wr := []) ⟨hx, hb, hml, hown, hts⟩ (c_X1_holds l D cI cJ y0 y1 y2 y3 y4 y5 y6 y7 y8 _ hs si ag la fo_2 co_3 cv ta rc ec su pe ti mn nu_4 th 0 r_7 th_8 e_9) (cwV 1 hts gX1_mineBest_X1_holds rfl rfl rfl (by decide +kernel) ⟨Nat.le_of_ble_eq_true rfl, Nat.le_of_ble_eq_true rfl⟩) hK hP hD hS hA [0, 1, 2, 3, 4, 5, 6, 7, 8] [] rfl rfl (by decide) (by decide) rfl rfl rfl rfl rfl hl.1 rfl (lv_room (Nat.le_of_ble_eq_true rfl)) dX1_mineBest_13 (fun H locs hP hD hS => ?_)
    have hP : va_P D vwCl (wY cI cJ y0 y1 y2 y3 y4 y5 y6 y7 y8 hs si ag la fo_2 co_3 cv ta rc ec su pe ti mn nu_4 th_8) H := hP
    have hD : va_D A (wY cI cJ y0 y1 y2 y3 y4 y5 y6 y7 y8 hs si ag la fo_2 co_3 cv ta rc ec su pe ti mn nu_4 th_8) := hD
    refine lv_if_eq (tgt := 21) hx hb dX1_mineBest_16 (by decide) (fun c_10 => ?_) (fun c_10 => ?_)
    · replace h := (if_pos c_10).symm.trans h
      refine lv_aload_n hx hb dX1_mineBest_21 rfl (lv_at hl 0 rfl) ?_
      obtain ⟨r_11, cv_12, e_13, h⟩ := bnd2_some h
      refine cl_Vi (As := []) (rest := []) (wc := wY cI cJ y0 y1 y2 y3 y4 y5 y6 y7 y8 hs si ag la fo_2 co_3 cv ta rc ec su pe ti mn nu_4 th_8) (w1 := wY cI cJ y0 y1 y2 y3 y4 y5 y6 y7 y8 hs si ag la fo_2 co_3 cv_12 ta rc ec su pe ti mn nu_4 th_8) (wr := []) ⟨hx, hb, hml, hown, hts⟩ (c_X1_best l D cI cJ y0 y1 y2 y3 y4 y5 y6 y7 y8 _ hs si ag la fo_2 co_3 cv ta rc ec su pe ti mn nu_4 th_8 fu  r_11 cv_12 e_13) (cwV 0 hts gX1_mineBest_X1_best rfl rfl rfl (by decide +kernel) ⟨Nat.le_of_ble_eq_true rfl, Nat.le_of_ble_eq_true rfl⟩) hK hP hD hS hA [0, 1, 2, 3, 4, 5, 6, 7, 8] [] rfl rfl (by decide) (by decide) rfl rfl rfl rfl rfl hl.1 rfl (lv_room (Nat.le_of_ble_eq_true rfl)) dX1_mineBest_22 (fun H locs hP hD hS => ?_)
      have hP : va_P D vwCl (wY cI cJ y0 y1 y2 y3 y4 y5 y6 y7 y8 hs si ag la fo_2 co_3 cv_12 ta rc ec su pe ti mn nu_4 th_8) H := hP
      have hD : va_D A (wY cI cJ y0 y1 y2 y3 y4 y5 y6 y7 y8 hs si ag la fo_2 co_3 cv_12 ta rc ec su pe ti mn nu_4 th_8) := hD
      refine lv_istore_n (lv' := [(1, .int r_11), (0, .ref y0)]) hx hb dX1_mineBest_25 rfl hl (by decide) rfl (fun ls hl => ?_)
      refine lv_aload_n hx hb dX1_mineBest_26 rfl (lv_at hl 1 rfl) ?_
      refine lv_iconst (v := 0) hx hb dX1_mineBest_27 (by decide) ?_
      refine va_put (D := D) (ci := 1) (v := .int 0) (ty := .int) (C := RX1) (T := TX1) (N := 16) hx hb hts hin tyX1 tyX1_ok nmX1 hown hK hP hD hS 0 rfl rfl 13 (by decide) hw_0 (fun _ h9 => h9) rfl (by decide +kernel) rfl rfl (Nat.le_of_ble_eq_true rfl) dX1_mineBest_28 (fun H locs hP hD hS => ?_)
      have hP : va_P D vwCl (wY cI cJ y0 y1 y2 y3 y4 y5 y6 y7 y8 hs si ag la fo_2 co_3 cv_12 ta rc ec su pe ti 0 nu_4 th_8) H := hP
      have hD : va_D A (wY cI cJ y0 y1 y2 y3 y4 y5 y6 y7 y8 hs si ag la fo_2 co_3 cv_12 ta rc ec su pe ti 0 nu_4 th_8) := hD
      refine lv_iconst (v := 0) hx hb dX1_mineBest_31 (by decide) ?_
      refine lv_istore_n (lv' := [(2, .int 0), (1, .int r_11), (0, .ref y0)]) hx hb dX1_mineBest_32 rfl hl (by decide) rfl (fun ls hl => ?_)
      exact L33 fu r_11 0 la fo_2 co_3 cv_12 0 nu_4 th_8 _ _ _ h hP hD hS (lv_sub hl [2, 1, 0] rfl)
    · replace h := (if_neg c_10).symm.trans h
      refine lv_iconst (v := (-1)) hx hb dX1_mineBest_19 (by decide) ?_
      cases h
      exact W.iret hx hb hr (fun t ht hW => ⟨⟨_, (), rfl, rfl, by rw [ht]; exact hP, va_K.moved hW.alike hK, hD⟩, hS.F ht⟩) hS.2.2 dX1_mineBest_20
  · replace h := (if_neg c_6).symm.trans h
    refine lv_iconst (v := 1) hx hb dX1_mineBest_8 (by decide) ?_
    refine lv_goto (tgt := 13) hx hb dX1_mineBest_9 (by decide) ?_
    obtain ⟨r_14, th_15, e_16, h⟩ := bnd2_some h
    refine cl_Vi (As := [.int 1]) (rest := []) (wc := wY cI cJ y0 y1 y2 y3 y4 y5 y6 y7 y8 hs si ag la fo_2 co_3 cv ta rc ec su pe ti mn nu_4 th) (w1 := wY cI cJ y0 y1 y2 y3 y4 y5 y6 y7 y8 hs si ag la fo_2 co_3 cv ta rc ec su pe ti mn nu_4 th_15) (wr := []) ⟨hx, hb, hml, hown, hts⟩ (c_X1_holds l D cI cJ y0 y1 y2 y3 y4 y5 y6 y7 y8 _ hs si ag la fo_2 co_3 cv ta rc ec su pe ti mn nu_4 th 1 r_14 th_15 e_16) (cwV 1 hts gX1_mineBest_X1_holds rfl rfl rfl (by decide +kernel) ⟨Nat.le_of_ble_eq_true rfl, Nat.le_of_ble_eq_true rfl⟩) hK hP hD hS hA [0, 1, 2, 3, 4, 5, 6, 7, 8] [] rfl rfl (by decide) (by decide) rfl rfl rfl rfl rfl hl.1 rfl (lv_room (Nat.le_of_ble_eq_true rfl)) dX1_mineBest_13 (fun H locs hP hD hS => ?_)
    have hP : va_P D vwCl (wY cI cJ y0 y1 y2 y3 y4 y5 y6 y7 y8 hs si ag la fo_2 co_3 cv ta rc ec su pe ti mn nu_4 th_15) H := hP
    have hD : va_D A (wY cI cJ y0 y1 y2 y3 y4 y5 y6 y7 y8 hs si ag la fo_2 co_3 cv ta rc ec su pe ti mn nu_4 th_15) := hD
    refine lv_if_eq (tgt := 21) hx hb dX1_mineBest_16 (by decide) (fun c_17 => ?_) (fun c_17 => ?_)
    · replace h := (if_pos c_17).symm.trans h
      refine lv_aload_n hx hb dX1_mineBest_21 rfl (lv_at hl 0 rfl) ?_
      obtain ⟨r_18, cv_19, e_20, h⟩ := bnd2_some h
      refine cl_Vi (As := []) (rest := []) (wc := wY cI cJ y0 y1 y2 y3 y4 y5 y6 y7 y8 hs si ag la fo_2 co_3 cv ta rc ec su pe ti mn nu_4 th_15) (w1 := wY cI cJ y0 y1 y2 y3 y4 y5 y6 y7 y8 hs si ag la fo_2 co_3 cv_19 ta rc ec su pe ti mn nu_4 th_15) (wr := []) ⟨hx, hb, hml, hown, hts⟩ (c_X1_best l D cI cJ y0 y1 y2 y3 y4 y5 y6 y7 y8 _ hs si ag la fo_2 co_3 cv ta rc ec su pe ti mn nu_4 th_15 fu  r_18 cv_19 e_20) (cwV 0 hts gX1_mineBest_X1_best rfl rfl rfl (by decide +kernel) ⟨Nat.le_of_ble_eq_true rfl, Nat.le_of_ble_eq_true rfl⟩) hK hP hD hS hA [0, 1, 2, 3, 4, 5, 6, 7, 8] [] rfl rfl (by decide) (by decide) rfl rfl rfl rfl rfl hl.1 rfl (lv_room (Nat.le_of_ble_eq_true rfl)) dX1_mineBest_22 (fun H locs hP hD hS => ?_)
      have hP : va_P D vwCl (wY cI cJ y0 y1 y2 y3 y4 y5 y6 y7 y8 hs si ag la fo_2 co_3 cv_19 ta rc ec su pe ti mn nu_4 th_15) H := hP
      have hD : va_D A (wY cI cJ y0 y1 y2 y3 y4 y5 y6 y7 y8 hs si ag la fo_2 co_3 cv_19 ta rc ec su pe ti mn nu_4 th_15) := hD
      refine lv_istore_n (lv' := [(1, .int r_18), (0, .ref y0)]) hx hb dX1_mineBest_25 rfl hl (by decide) rfl (fun ls hl => ?_)
      refine lv_aload_n hx hb dX1_mineBest_26 rfl (lv_at hl 1 rfl) ?_
      refine lv_iconst (v := 0) hx hb dX1_mineBest_27 (by decide) ?_
      refine va_put (D := D) (ci := 1) (v := .int 0) (ty := .int) (C := RX1) (T := TX1) (N := 16) hx hb hts hin tyX1 tyX1_ok nmX1 hown hK hP hD hS 0 rfl rfl 13 (by decide) hw_0 (fun _ h9 => h9) rfl (by decide +kernel) rfl rfl (Nat.le_of_ble_eq_true rfl) dX1_mineBest_28 (fun H locs hP hD hS => ?_)
      have hP : va_P D vwCl (wY cI cJ y0 y1 y2 y3 y4 y5 y6 y7 y8 hs si ag la fo_2 co_3 cv_19 ta rc ec su pe ti 0 nu_4 th_15) H := hP
      have hD : va_D A (wY cI cJ y0 y1 y2 y3 y4 y5 y6 y7 y8 hs si ag la fo_2 co_3 cv_19 ta rc ec su pe ti 0 nu_4 th_15) := hD
      refine lv_iconst (v := 0) hx hb dX1_mineBest_31 (by decide) ?_
      refine lv_istore_n (lv' := [(2, .int 0), (1, .int r_18), (0, .ref y0)]) hx hb dX1_mineBest_32 rfl hl (by decide) rfl (fun ls hl => ?_)
      exact L33 fu r_18 0 la fo_2 co_3 cv_19 0 nu_4 th_15 _ _ _ h hP hD hS (lv_sub hl [2, 1, 0] rfl)
    · replace h := (if_neg c_17).symm.trans h
      refine lv_iconst (v := (-1)) hx hb dX1_mineBest_19 (by decide) ?_
      cases h
      exact W.iret hx hb hr (fun t ht hW => ⟨⟨_, (), rfl, rfl, by rw [ht]; exact hP, va_K.moved hW.alike hK, hD⟩, hS.F ht⟩) hS.2.2 dX1_mineBest_20
-- X1_dropRoles
def m_X1_dropRoles (mn : Int32) (th : Int32) : Option ((Int32) × ((Int32)) × ((Int32))) := (bnd2 (m_X1_plain th mn) (fun r_1 th_2 => some (r_1, 0, th_2)))
set_option maxHeartbeats 4000000 in
set_option maxRecDepth 100000 in
theorem c_X1_dropRoles (l : Launch) (D : va_G) (cI cJ : ClassId) (y0 y1 y2 y3 y4 y5 y6 y7 y8 : Nat) (sz : Nat) (hs : Nat → Int32) (si : Nat → Int32) (ag : Nat → Int32) (la : Nat → Int32) (fo : Nat → Int32) (co : Nat → Int32) (cv : Nat → Int32) (ta : Nat → Int32) (rc : Int32) (ec : Int32) (su : Int32) (pe : Int32) (ti : Int32) (mn : Int32) (nu : Int32) (th : Int32) (r0 : Int32) (mn' : Int32) (th' : Int32) (h : m_X1_dropRoles mn th = some (r0, mn', th')) : Met l yX1_dropRoles wsX1_dropRoles ({ frames := 1, cells := 0, slots := 0, locals := 21 }) (va_Pc [.ref y0] (bx_Pre D [(cI, .int), (cJ, .long)] (wY cI cJ y0 y1 y2 y3 y4 y5 y6 y7 y8 hs si ag la fo co cv ta rc ec su pe ti mn nu th) sz)) (va_Qi (fun (r : Int32) (_ : Unit) => r = r0) (fun (_ : Unit) t => bx_Post D [(cI, .int), (cJ, .long)] (wY cI cJ y0 y1 y2 y3 y4 y5 y6 y7 y8 hs si ag la fo co cv ta rc ec su pe ti mn' nu th') (va_A (wY cI cJ y0 y1 y2 y3 y4 y5 y6 y7 y8 hs si ag la fo co cv ta rc ec su pe ti mn nu th) sz) t) (va_A (wY cI cJ y0 y1 y2 y3 y4 y5 y6 y7 y8 hs si ag la fo co cv ta rc ec su pe ti mn nu th) sz)) 0 0 (va_A (wY cI cJ y0 y1 y2 y3 y4 y5 y6 y7 y8 hs si ag la fo co cv ta rc ec su pe ti mn nu th) sz) := by
  refine Met.ofW (cc := cX1_dropRoles) (maxL := 2) (ret := (some .int)) (by decide) rfl ?_
  intro p e s m args below meth c s₁ B hml hv
  obtain ⟨rfl, hsz, hP, hK, hD0⟩ := hv
  have hx := B.exec
  have hb := B.bytes
  have hr := B.returns
  have hts := atoms_spec (ws := wsX1_dropRoles) B.pre
  have hown : s.vm.findClass RX1 = some m.cls := findClass_of_methodNamed B.named
  have hlocks := B.notSynchronized
  subst hsz
  have hD := hD0.self (sz := s.heap.size)
  generalize hAe : va_A (wY cI cJ y0 y1 y2 y3 y4 y5 y6 y7 y8 hs si ag la fo co cv ta rc ec su pe ti mn nu th) s.heap.size = A at hD ⊢
  have hA : ∀ q : Nat, s.heap.size ≤ q → A q := fun q h9 => by rw [← hAe]; exact Or.inr h9
  have hS : va_S A s.heap s.heap [] := va_S.rf
  have hin : ∀ w ∈ wsX10, w ∈ wsX1_dropRoles := fun _ h9 => List.mem_cons_of_mem _ (List.mem_append_right _ h9)
  have hw_0 := hts (.fieldLink RX1 112 "RoleMinerModel" "many" "I") (by decide +kernel)
  have hl := lv_entry ([.ref y0]) (n := 2) (Nat.le_of_ble_eq_true rfl)
  rw [lg_entry_eq]
  generalize (lg_sl ([.ref y0]) ++ List.replicate (2 - (lg_sl ([.ref y0])).length) Slot.unset).toArray = ls at hl ⊢
  have hl : lv_has ls 2 [(0, .ref y0)] := hl
  rw [m_X1_dropRoles] at h
  refine lv_aload_n hx hb dX1_dropRoles_0 rfl (lv_at hl 0 rfl) ?_
  refine va_get (D := D) (ci := 1) (v := .int mn) (C := RX1) (T := TX1) (N := 16) hx hb hts hin hown hK hP 0 rfl rfl 13 (by decide) hw_0 (fun _ h9 => h9) rfl dX1_dropRoles_1 ?_
  refine lv_istore_n (lv' := [(1, .int mn), (0, .ref y0)]) hx hb dX1_dropRoles_4 rfl hl (by decide) rfl (fun ls hl => ?_)
  refine lv_aload_n hx hb dX1_dropRoles_5 rfl (lv_at hl 1 rfl) ?_
  refine lv_iconst (v := 0) hx hb dX1_dropRoles_6 (by decide) ?_
  refine va_put (D := D) (ci := 1) (v := .int 0) (ty := .int) (C := RX1) (T := TX1) (N := 16) hx hb hts hin tyX1 tyX1_ok nmX1 hown hK hP hD hS 0 rfl rfl 13 (by decide) hw_0 (fun _ h9 => h9) rfl (by decide +kernel) rfl rfl (Nat.le_of_ble_eq_true rfl) dX1_dropRoles_7 (fun H locs hP hD hS => ?_)
  have hP : va_P D vwCl (wY cI cJ y0 y1 y2 y3 y4 y5 y6 y7 y8 hs si ag la fo co cv ta rc ec su pe ti 0 nu th) H := hP
  have hD : va_D A (wY cI cJ y0 y1 y2 y3 y4 y5 y6 y7 y8 hs si ag la fo co cv ta rc ec su pe ti 0 nu th) := hD
  refine lv_aload_n hx hb dX1_dropRoles_10 rfl (lv_at hl 1 rfl) ?_
  refine lv_iload_n hx hb dX1_dropRoles_11 rfl (lv_at hl 0 rfl) ?_
  obtain ⟨r_1, th_2, e_3, h⟩ := bnd2_some h
  refine cl_Vi (As := [.int mn]) (rest := []) (wc := wY cI cJ y0 y1 y2 y3 y4 y5 y6 y7 y8 hs si ag la fo co cv ta rc ec su pe ti 0 nu th) (w1 := wY cI cJ y0 y1 y2 y3 y4 y5 y6 y7 y8 hs si ag la fo co cv ta rc ec su pe ti 0 nu th_2) (wr := []) ⟨hx, hb, hml, hown, hts⟩ (c_X1_plain l D cI cJ y0 y1 y2 y3 y4 y5 y6 y7 y8 _ hs si ag la fo co cv ta rc ec su pe ti 0 nu th mn r_1 th_2 e_3) (cwV 1 hts gX1_dropRoles_X1_plain rfl rfl rfl (by decide +kernel) ⟨Nat.le_of_ble_eq_true rfl, Nat.le_of_ble_eq_true rfl⟩) hK hP hD hS hA [0, 1, 2, 3, 4, 5, 6, 7, 8] [] rfl rfl (by decide) (by decide) rfl rfl rfl rfl rfl hl.1 rfl (lv_room (Nat.le_of_ble_eq_true rfl)) dX1_dropRoles_12 (fun H locs hP hD hS => ?_)
  have hP : va_P D vwCl (wY cI cJ y0 y1 y2 y3 y4 y5 y6 y7 y8 hs si ag la fo co cv ta rc ec su pe ti 0 nu th_2) H := hP
  have hD : va_D A (wY cI cJ y0 y1 y2 y3 y4 y5 y6 y7 y8 hs si ag la fo co cv ta rc ec su pe ti 0 nu th_2) := hD
  cases h
  exact W.iret hx hb hr (fun t ht hW => ⟨⟨_, (), rfl, rfl, by rw [ht]; exact hP, va_K.moved hW.alike hK, hD⟩, hS.F ht⟩) hS.2.2 dX1_dropRoles_15
-- X1_permissions
def m_X1_permissions (hs : Nat → Int32) (th : Int32) (a1 : Int32) : Option ((Int32) × ((Int32))) := (if (m_X1_isUser a1) = 0 then (bnd2 (m_X1_holds th 1) (fun r_2 th_3 => (if r_2 = 0 then (ix a1 8 (some ((hs (Int32.toNatClampNeg a1)), th_3))) else some ((-1), th_3)))) else (bnd2 (m_X1_holds th 0) (fun r_7 th_8 => (if r_7 = 0 then (ix a1 8 (some ((hs (Int32.toNatClampNeg a1)), th_8))) else some ((-1), th_8)))))
set_option maxHeartbeats 4000000 in
set_option maxRecDepth 100000 in
theorem c_X1_permissions (l : Launch) (D : va_G) (cI cJ : ClassId) (y0 y1 y2 y3 y4 y5 y6 y7 y8 : Nat) (sz : Nat) (hs : Nat → Int32) (si : Nat → Int32) (ag : Nat → Int32) (la : Nat → Int32) (fo : Nat → Int32) (co : Nat → Int32) (cv : Nat → Int32) (ta : Nat → Int32) (rc : Int32) (ec : Int32) (su : Int32) (pe : Int32) (ti : Int32) (mn : Int32) (nu : Int32) (th : Int32) (a1 : Int32) (r0 : Int32) (th' : Int32) (h : m_X1_permissions hs th a1 = some (r0, th')) : Met l yX1_permissions wsX1_permissions ({ frames := 2, cells := 0, slots := 0, locals := 44 }) (va_Pc [.ref y0, .int a1] (bx_Pre D [(cI, .int), (cJ, .long)] (wY cI cJ y0 y1 y2 y3 y4 y5 y6 y7 y8 hs si ag la fo co cv ta rc ec su pe ti mn nu th) sz)) (va_Qi (fun (r : Int32) (_ : Unit) => r = r0) (fun (_ : Unit) t => bx_Post D [(cI, .int), (cJ, .long)] (wY cI cJ y0 y1 y2 y3 y4 y5 y6 y7 y8 hs si ag la fo co cv ta rc ec su pe ti mn nu th') (va_A (wY cI cJ y0 y1 y2 y3 y4 y5 y6 y7 y8 hs si ag la fo co cv ta rc ec su pe ti mn nu th) sz) t) (va_A (wY cI cJ y0 y1 y2 y3 y4 y5 y6 y7 y8 hs si ag la fo co cv ta rc ec su pe ti mn nu th) sz)) 0 0 (va_A (wY cI cJ y0 y1 y2 y3 y4 y5 y6 y7 y8 hs si ag la fo co cv ta rc ec su pe ti mn nu th) sz) := by
  refine Met.ofW (cc := cX1_permissions) (maxL := 2) (ret := (some .int)) (by decide) rfl ?_
  intro p e s m args below meth c s₁ B hml hv
  obtain ⟨rfl, hsz, hP, hK, hD0⟩ := hv
  have hx := B.exec
  have hb := B.bytes
  have hr := B.returns
  have hts := atoms_spec (ws := wsX1_permissions) B.pre
  have hown : s.vm.findClass RX1 = some m.cls := findClass_of_methodNamed B.named
  have hlocks := B.notSynchronized
  subst hsz
  have hD := hD0.self (sz := s.heap.size)
  generalize hAe : va_A (wY cI cJ y0 y1 y2 y3 y4 y5 y6 y7 y8 hs si ag la fo co cv ta rc ec su pe ti mn nu th) s.heap.size = A at hD ⊢
  have hA : ∀ q : Nat, s.heap.size ≤ q → A q := fun q h9 => by rw [← hAe]; exact Or.inr h9
  have hS : va_S A s.heap s.heap [] := va_S.rf
  have hin : ∀ w ∈ wsX10, w ∈ wsX1_permissions := fun _ h9 => List.mem_cons_of_mem _ (List.mem_append_right _ h9)
  have hw_0 := hts (.fieldLink RX1 7 "RoleMinerModel" "has" "[I") (by decide +kernel)
  have hl := lv_entry ([.ref y0, .int a1]) (n := 2) (Nat.le_of_ble_eq_true rfl)
  rw [lg_entry_eq]
  generalize (lg_sl ([.ref y0, .int a1]) ++ List.replicate (2 - (lg_sl ([.ref y0, .int a1])).length) Slot.unset).toArray = ls at hl ⊢
  have hl : lv_has ls 2 [(0, .ref y0), (1, .int a1)] := hl
  rw [m_X1_permissions] at h
  refine lv_aload_n hx hb dX1_permissions_0 rfl (lv_at hl 0 rfl) ?_
  refine lv_aload_n hx hb dX1_permissions_1 rfl (lv_at hl 0 rfl) ?_
  refine lv_iload_n hx hb dX1_permissions_2 rfl (lv_at hl 1 rfl) ?_
  refine cl_Vi (As := [.int a1]) (rest := [.ref y0]) (wc := wY cI cJ y0 y1 y2 y3 y4 y5 y6 y7 y8 hs si ag la fo co cv ta rc ec su pe ti mn nu th) (w1 := wY cI cJ y0 y1 y2 y3 y4 y5 y6 y7 y8 hs si ag la fo co cv ta rc ec su pe ti mn nu th) (wr := []) ⟨hx, hb, hml, hown, hts⟩ (c_X1_isUser l D cI cJ y0 y1 y2 y3 y4 y5 y6 y7 y8 _ hs si ag la fo co cv ta rc ec su pe ti mn nu th a1) (cwV 1 hts gX1_permissions_X1_isUser rfl rfl rfl (by decide +kernel) ⟨Nat.le_of_ble_eq_true rfl, Nat.le_of_ble_eq_true rfl⟩) hK hP hD hS hA [0, 1, 2, 3, 4, 5, 6, 7, 8] [] rfl rfl (by decide) (by decide) rfl rfl rfl rfl rfl hl.1 rfl (lv_room (Nat.le_of_ble_eq_true rfl)) dX1_permissions_3 (fun H locs hP hD hS => ?_)
  have hP : va_P D vwCl (wY cI cJ y0 y1 y2 y3 y4 y5 y6 y7 y8 hs si ag la fo co cv ta rc ec su pe ti mn nu th) H := hP
  have hD : va_D A (wY cI cJ y0 y1 y2 y3 y4 y5 y6 y7 y8 hs si ag la fo co cv ta rc ec su pe ti mn nu th) := hD
  refine lv_if_eq (tgt := 13) hx hb dX1_permissions_6 (by decide) (fun c_1 => ?_) (fun c_1 => ?_)
  · replace h := (if_pos c_1).symm.trans h
    refine lv_iconst (v := 1) hx hb dX1_permissions_13 (by decide) ?_
    obtain ⟨r_2, th_3, e_4, h⟩ := bnd2_some h
    refine cl_Vi (As := [.int 1]) (rest := []) (wc := wY cI cJ y0 y1 y2 y3 y4 y5 y6 y7 y8 hs si ag la fo co cv ta rc ec su pe ti mn nu th) (w1 := wY cI cJ y0 y1 y2 y3 y4 y5 y6 y7 y8 hs si ag la fo co cv ta rc ec su pe ti mn nu th_3) (wr := []) ⟨hx, hb, hml, hown, hts⟩ (c_X1_holds l D cI cJ y0 y1 y2 y3 y4 y5 y6 y7 y8 _ hs si ag la fo co cv ta rc ec su pe ti mn nu th 1 r_2 th_3 e_4) (cwV 1 hts gX1_permissions_X1_holds rfl rfl rfl (by decide +kernel) ⟨Nat.le_of_ble_eq_true rfl, Nat.le_of_ble_eq_true rfl⟩) hK hP hD hS hA [0, 1, 2, 3, 4, 5, 6, 7, 8] [] rfl rfl (by decide) (by decide) rfl rfl rfl rfl rfl hl.1 rfl (lv_room (Nat.le_of_ble_eq_true rfl)) dX1_permissions_14 (fun H locs hP hD hS => ?_)
    have hP : va_P D vwCl (wY cI cJ y0 y1 y2 y3 y4 y5 y6 y7 y8 hs si ag la fo co cv ta rc ec su pe ti mn nu th_3) H := hP
    have hD : va_D A (wY cI cJ y0 y1 y2 y3 y4 y5 y6 y7 y8 hs si ag la fo co cv ta rc ec su pe ti mn nu th_3) := hD
    refine lv_if_eq (tgt := 24) hx hb dX1_permissions_17 (by decide) (fun c_5 => ?_) (fun c_5 => ?_)
    · replace h := (if_pos c_5).symm.trans h
      refine lv_aload_n hx hb dX1_permissions_24 rfl (lv_at hl 0 rfl) ?_
      refine va_get (D := D) (ci := 1) (v := .ref y1) (C := RX1) (T := TX1) (N := 16) hx hb hts hin hown hK hP 0 rfl rfl 0 (by decide) hw_0 (fun _ h9 => h9) rfl dX1_permissions_25 ?_
      refine lv_iload_n hx hb dX1_permissions_28 rfl (lv_at hl 1 rfl) ?_
      obtain ⟨h_6, h⟩ := ix_some h
      refine va_iald hx hb hK hP 1 0 rfl rfl h_6 dX1_permissions_29 ?_
      cases h
      exact W.iret hx hb hr (fun t ht hW => ⟨⟨_, (), rfl, rfl, by rw [ht]; exact hP, va_K.moved hW.alike hK, hD⟩, hS.F ht⟩) hS.2.2 dX1_permissions_30
    · replace h := (if_neg c_5).symm.trans h
      refine lv_iconst (v := (-1)) hx hb dX1_permissions_20 (by decide) ?_
      refine lv_goto (tgt := 30) hx hb dX1_permissions_21 (by decide) ?_
      cases h
      exact W.iret hx hb hr (fun t ht hW => ⟨⟨_, (), rfl, rfl, by rw [ht]; exact hP, va_K.moved hW.alike hK, hD⟩, hS.F ht⟩) hS.2.2 dX1_permissions_30
  · replace h := (if_neg c_1).symm.trans h
    refine lv_iconst (v := 0) hx hb dX1_permissions_9 (by decide) ?_
    refine lv_goto (tgt := 14) hx hb dX1_permissions_10 (by decide) ?_
    obtain ⟨r_7, th_8, e_9, h⟩ := bnd2_some h
    refine cl_Vi (As := [.int 0]) (rest := []) (wc := wY cI cJ y0 y1 y2 y3 y4 y5 y6 y7 y8 hs si ag la fo co cv ta rc ec su pe ti mn nu th) (w1 := wY cI cJ y0 y1 y2 y3 y4 y5 y6 y7 y8 hs si ag la fo co cv ta rc ec su pe ti mn nu th_8) (wr := []) ⟨hx, hb, hml, hown, hts⟩ (c_X1_holds l D cI cJ y0 y1 y2 y3 y4 y5 y6 y7 y8 _ hs si ag la fo co cv ta rc ec su pe ti mn nu th 0 r_7 th_8 e_9) (cwV 1 hts gX1_permissions_X1_holds rfl rfl rfl (by decide +kernel) ⟨Nat.le_of_ble_eq_true rfl, Nat.le_of_ble_eq_true rfl⟩) hK hP hD hS hA [0, 1, 2, 3, 4, 5, 6, 7, 8] [] rfl rfl (by decide) (by decide) rfl rfl rfl rfl rfl hl.1 rfl (lv_room (Nat.le_of_ble_eq_true rfl)) dX1_permissions_14 (fun H locs hP hD hS => ?_)
    have hP : va_P D vwCl (wY cI cJ y0 y1 y2 y3 y4 y5 y6 y7 y8 hs si ag la fo co cv ta rc ec su pe ti mn nu th_8) H := hP
    have hD : va_D A (wY cI cJ y0 y1 y2 y3 y4 y5 y6 y7 y8 hs si ag la fo co cv ta rc ec su pe ti mn nu th_8) := hD
    refine lv_if_eq (tgt := 24) hx hb dX1_permissions_17 (by decide) (fun c_10 => ?_) (fun c_10 => ?_)
    · replace h := (if_pos c_10).symm.trans h
      refine lv_aload_n hx hb dX1_permissions_24 rfl (lv_at hl 0 rfl) ?_
      refine va_get (D := D) (ci := 1) (v := .ref y1) (C := RX1) (T := TX1) (N := 16) hx hb hts hin hown hK hP 0 rfl rfl 0 (by decide) hw_0 (fun _ h9 => h9) rfl dX1_permissions_25 ?_
      refine lv_iload_n hx hb dX1_permissions_28 rfl (lv_at hl 1 rfl) ?_
      obtain ⟨h_11, h⟩ := ix_some h
      refine va_iald hx hb hK hP 1 0 rfl rfl h_11 dX1_permissions_29 ?_
      cases h
      exact W.iret hx hb hr (fun t ht hW => ⟨⟨_, (), rfl, rfl, by rw [ht]; exact hP, va_K.moved hW.alike hK, hD⟩, hS.F ht⟩) hS.2.2 dX1_permissions_30
    · replace h := (if_neg c_10).symm.trans h
      refine lv_iconst (v := (-1)) hx hb dX1_permissions_20 (by decide) ?_
      refine lv_goto (tgt := 30) hx hb dX1_permissions_21 (by decide) ?_
      cases h
      exact W.iret hx hb hr (fun t ht hW => ⟨⟨_, (), rfl, rfl, by rw [ht]; exact hP, va_K.moved hW.alike hK, hD⟩, hS.F ht⟩) hS.2.2 dX1_permissions_30
-- X1_grants
def m_X1_grants (fu : Nat) (hs : Nat → Int32) (cv : Nat → Int32) (th : Int32) : Option ((Int32) × ((Nat → Int32)) × ((Int32))) := (bnd1 (m_X1_uncover fu cv) (fun cv_1 => (bnd1 (m_X1_uncovered fu hs cv_1) (fun r_3 => some (r_3, cv_1, 0)))))
set_option maxHeartbeats 4000000 in
set_option maxRecDepth 100000 in
theorem c_X1_grants (l : Launch) (D : va_G) (cI cJ : ClassId) (y0 y1 y2 y3 y4 y5 y6 y7 y8 : Nat) (sz : Nat) (hs : Nat → Int32) (si : Nat → Int32) (ag : Nat → Int32) (la : Nat → Int32) (fo : Nat → Int32) (co : Nat → Int32) (cv : Nat → Int32) (ta : Nat → Int32) (rc : Int32) (ec : Int32) (su : Int32) (pe : Int32) (ti : Int32) (mn : Int32) (nu : Int32) (th : Int32) (fu : Nat) (r0 : Int32) (cv' : Nat → Int32) (th' : Int32) (h : m_X1_grants fu hs cv th = some (r0, cv', th')) : Met l yX1_grants wsX1_grants ({ frames := 2, cells := 0, slots := 0, locals := 45 }) (va_Pc [.ref y0] (bx_Pre D [(cI, .int), (cJ, .long)] (wY cI cJ y0 y1 y2 y3 y4 y5 y6 y7 y8 hs si ag la fo co cv ta rc ec su pe ti mn nu th) sz)) (va_Qi (fun (r : Int32) (_ : Unit) => r = r0) (fun (_ : Unit) t => bx_Post D [(cI, .int), (cJ, .long)] (wY cI cJ y0 y1 y2 y3 y4 y5 y6 y7 y8 hs si ag la fo co cv' ta rc ec su pe ti mn nu th') (va_A (wY cI cJ y0 y1 y2 y3 y4 y5 y6 y7 y8 hs si ag la fo co cv ta rc ec su pe ti mn nu th) sz) t) (va_A (wY cI cJ y0 y1 y2 y3 y4 y5 y6 y7 y8 hs si ag la fo co cv ta rc ec su pe ti mn nu th) sz)) 0 0 (va_A (wY cI cJ y0 y1 y2 y3 y4 y5 y6 y7 y8 hs si ag la fo co cv ta rc ec su pe ti mn nu th) sz) := by
  refine Met.ofW (cc := cX1_grants) (maxL := 1) (ret := (some .int)) (by decide) rfl ?_
  intro p e s m args below meth c s₁ B hml hv
  obtain ⟨rfl, hsz, hP, hK, hD0⟩ := hv
  have hx := B.exec
  have hb := B.bytes
  have hr := B.returns
  have hts := atoms_spec (ws := wsX1_grants) B.pre
  have hown : s.vm.findClass RX1 = some m.cls := findClass_of_methodNamed B.named
  have hlocks := B.notSynchronized
  subst hsz
  have hD := hD0.self (sz := s.heap.size)
  generalize hAe : va_A (wY cI cJ y0 y1 y2 y3 y4 y5 y6 y7 y8 hs si ag la fo co cv ta rc ec su pe ti mn nu th) s.heap.size = A at hD ⊢
  have hA : ∀ q : Nat, s.heap.size ≤ q → A q := fun q h9 => by rw [← hAe]; exact Or.inr h9
  have hS : va_S A s.heap s.heap [] := va_S.rf
  have hin : ∀ w ∈ wsX10, w ∈ wsX1_grants := fun _ h9 => List.mem_cons_of_mem _ (List.mem_append_right _ h9)
  have hw_0 := hts (.fieldLink RX1 47 "RoleMinerModel" "thrown" "I") (by decide +kernel)
  have hl := lv_entry ([.ref y0]) (n := 1) (Nat.le_of_ble_eq_true rfl)
  rw [lg_entry_eq]
  generalize (lg_sl ([.ref y0]) ++ List.replicate (1 - (lg_sl ([.ref y0])).length) Slot.unset).toArray = ls at hl ⊢
  have hl : lv_has ls 1 [(0, .ref y0)] := hl
  rw [m_X1_grants] at h
  refine lv_aload_n hx hb dX1_grants_0 rfl (lv_at hl 0 rfl) ?_
  refine lv_iconst (v := 0) hx hb dX1_grants_1 (by decide) ?_
  refine va_put (D := D) (ci := 1) (v := .int 0) (ty := .int) (C := RX1) (T := TX1) (N := 16) hx hb hts hin tyX1 tyX1_ok nmX1 hown hK hP hD hS 0 rfl rfl 15 (by decide) hw_0 (fun _ h9 => h9) rfl (by decide +kernel) rfl rfl (Nat.le_of_ble_eq_true rfl) dX1_grants_2 (fun H locs hP hD hS => ?_)
  have hP : va_P D vwCl (wY cI cJ y0 y1 y2 y3 y4 y5 y6 y7 y8 hs si ag la fo co cv ta rc ec su pe ti mn nu 0) H := hP
  have hD : va_D A (wY cI cJ y0 y1 y2 y3 y4 y5 y6 y7 y8 hs si ag la fo co cv ta rc ec su pe ti mn nu 0) := hD
  refine lv_aload_n hx hb dX1_grants_5 rfl (lv_at hl 0 rfl) ?_
  obtain ⟨cv_1, e_2, h⟩ := bnd1_some h
  refine cl_Vv (As := []) (rest := []) (wc := wY cI cJ y0 y1 y2 y3 y4 y5 y6 y7 y8 hs si ag la fo co cv ta rc ec su pe ti mn nu 0) (w1 := wY cI cJ y0 y1 y2 y3 y4 y5 y6 y7 y8 hs si ag la fo co cv_1 ta rc ec su pe ti mn nu 0) (wr := []) ⟨hx, hb, hml, hown, hts⟩ (c_X1_uncover l D cI cJ y0 y1 y2 y3 y4 y5 y6 y7 y8 _ hs si ag la fo co cv ta rc ec su pe ti mn nu 0 fu  cv_1 e_2) (cwV 0 hts gX1_grants_X1_uncover rfl rfl rfl (by decide +kernel) ⟨Nat.le_of_ble_eq_true rfl, Nat.le_of_ble_eq_true rfl⟩) hK hP hD hS hA [0, 1, 2, 3, 4, 5, 6, 7, 8] [] rfl rfl (by decide) (by decide) rfl rfl rfl rfl rfl hl.1 rfl (lv_room (Nat.le_of_ble_eq_true rfl)) dX1_grants_6 (fun H locs hP hD hS => ?_)
  have hP : va_P D vwCl (wY cI cJ y0 y1 y2 y3 y4 y5 y6 y7 y8 hs si ag la fo co cv_1 ta rc ec su pe ti mn nu 0) H := hP
  have hD : va_D A (wY cI cJ y0 y1 y2 y3 y4 y5 y6 y7 y8 hs si ag la fo co cv_1 ta rc ec su pe ti mn nu 0) := hD
  refine lv_aload_n hx hb dX1_grants_9 rfl (lv_at hl 0 rfl) ?_
  obtain ⟨r_3, e_4, h⟩ := bnd1_some h
  refine cl_Vi (As := []) (rest := []) (wc := wY cI cJ y0 y1 y2 y3 y4 y5 y6 y7 y8 hs si ag la fo co cv_1 ta rc ec su pe ti mn nu 0) (w1 := wY cI cJ y0 y1 y2 y3 y4 y5 y6 y7 y8 hs si ag la fo co cv_1 ta rc ec su pe ti mn nu 0) (wr := []) ⟨hx, hb, hml, hown, hts⟩ (c_X1_uncovered l D cI cJ y0 y1 y2 y3 y4 y5 y6 y7 y8 _ hs si ag la fo co cv_1 ta rc ec su pe ti mn nu 0 fu  r_3 e_4) (cwV 0 hts gX1_grants_X1_uncovered rfl rfl rfl (by decide +kernel) ⟨Nat.le_of_ble_eq_true rfl, Nat.le_of_ble_eq_true rfl⟩) hK hP hD hS hA [0, 1, 2, 3, 4, 5, 6, 7, 8] [] rfl rfl (by decide) (by decide) rfl rfl rfl rfl rfl hl.1 rfl (lv_room (Nat.le_of_ble_eq_true rfl)) dX1_grants_10 (fun H locs hP hD hS => ?_)
  have hP : va_P D vwCl (wY cI cJ y0 y1 y2 y3 y4 y5 y6 y7 y8 hs si ag la fo co cv_1 ta rc ec su pe ti mn nu 0) H := hP
  have hD : va_D A (wY cI cJ y0 y1 y2 y3 y4 y5 y6 y7 y8 hs si ag la fo co cv_1 ta rc ec su pe ti mn nu 0) := hD
  cases h
  exact W.iret hx hb hr (fun t ht hW => ⟨⟨_, (), rfl, rfl, by rw [ht]; exact hP, va_K.moved hW.alike hK, hD⟩, hS.F ht⟩) hS.2.2 dX1_grants_13
-- X1_violations
def m_X1_violations_26 (fu : Nat) (hs : Nat → Int32) (ag : Nat → Int32) (a1 : Int32) : Nat → Int32 → Int32 → (Int32) → Option ((Int32) × ((Int32)))
  | 0, _, _, _ => none
  | n + 1, v2, v3, th => (if 12 ≤ v3 then some ((v2 / 2), th) else (ix a1 8 (if (m_X1_isIn (hs (Int32.toNatClampNeg a1)) v3) = 0 then (m_X1_violations_26 fu hs ag a1 n (v2 + 0) (v3 + 1) th) else (ix v3 12 (bnd1 (m_X1_size fu ((ag (Int32.toNatClampNeg v3)) &&& (hs (Int32.toNatClampNeg a1)))) (fun r_14 => (m_X1_violations_26 fu hs ag a1 n (v2 + r_14) (v3 + 1) th)))))))
def m_X1_violations (fu : Nat) (hs : Nat → Int32) (ag : Nat → Int32) (th : Int32) (a1 : Int32) : Option ((Int32) × ((Int32))) := (if (m_X1_isUser a1) = 0 then (bnd2 (m_X1_holds th 1) (fun r_2 th_3 => (if r_2 = 0 then (m_X1_violations_26 fu hs ag a1 fu 0 0 th_3) else some ((-1), th_3)))) else (bnd2 (m_X1_holds th 0) (fun r_6 th_7 => (if r_6 = 0 then (m_X1_violations_26 fu hs ag a1 fu 0 0 th_7) else some ((-1), th_7)))))
set_option maxHeartbeats 4000000 in
set_option maxRecDepth 100000 in
theorem c_X1_violations (l : Launch) (D : va_G) (cI cJ : ClassId) (y0 y1 y2 y3 y4 y5 y6 y7 y8 : Nat) (sz : Nat) (hs : Nat → Int32) (si : Nat → Int32) (ag : Nat → Int32) (la : Nat → Int32) (fo : Nat → Int32) (co : Nat → Int32) (cv : Nat → Int32) (ta : Nat → Int32) (rc : Int32) (ec : Int32) (su : Int32) (pe : Int32) (ti : Int32) (mn : Int32) (nu : Int32) (th : Int32) (fu : Nat) (a1 : Int32) (r0 : Int32) (th' : Int32) (h : m_X1_violations fu hs ag th a1 = some (r0, th')) : Met l yX1_violations wsX1_violations ({ frames := 2, cells := 0, slots := 0, locals := 44 }) (va_Pc [.ref y0, .int a1] (bx_Pre D [(cI, .int), (cJ, .long)] (wY cI cJ y0 y1 y2 y3 y4 y5 y6 y7 y8 hs si ag la fo co cv ta rc ec su pe ti mn nu th) sz)) (va_Qi (fun (r : Int32) (_ : Unit) => r = r0) (fun (_ : Unit) t => bx_Post D [(cI, .int), (cJ, .long)] (wY cI cJ y0 y1 y2 y3 y4 y5 y6 y7 y8 hs si ag la fo co cv ta rc ec su pe ti mn nu th') (va_A (wY cI cJ y0 y1 y2 y3 y4 y5 y6 y7 y8 hs si ag la fo co cv ta rc ec su pe ti mn nu th) sz) t) (va_A (wY cI cJ y0 y1 y2 y3 y4 y5 y6 y7 y8 hs si ag la fo co cv ta rc ec su pe ti mn nu th) sz)) 0 0 (va_A (wY cI cJ y0 y1 y2 y3 y4 y5 y6 y7 y8 hs si ag la fo co cv ta rc ec su pe ti mn nu th) sz) := by
  refine Met.ofW (cc := cX1_violations) (maxL := 4) (ret := (some .int)) (by decide) rfl ?_
  intro p e s m args below meth c s₁ B hml hv
  obtain ⟨rfl, hsz, hP, hK, hD0⟩ := hv
  have hx := B.exec
  have hb := B.bytes
  have hr := B.returns
  have hts := atoms_spec (ws := wsX1_violations) B.pre
  have hown : s.vm.findClass RX1 = some m.cls := findClass_of_methodNamed B.named
  have hlocks := B.notSynchronized
  subst hsz
  have hD := hD0.self (sz := s.heap.size)
  generalize hAe : va_A (wY cI cJ y0 y1 y2 y3 y4 y5 y6 y7 y8 hs si ag la fo co cv ta rc ec su pe ti mn nu th) s.heap.size = A at hD ⊢
  have hA : ∀ q : Nat, s.heap.size ≤ q → A q := fun q h9 => by rw [← hAe]; exact Or.inr h9
  have hS : va_S A s.heap s.heap [] := va_S.rf
  have hin : ∀ w ∈ wsX10, w ∈ wsX1_violations := fun _ h9 => List.mem_cons_of_mem _ (List.mem_append_right _ h9)
  have hw_0 := hts (.fieldLink RX1 7 "RoleMinerModel" "has" "[I") (by decide +kernel)
  have hw_1 := hts (.fieldLink RX1 16 "RoleMinerModel" "against" "[I") (by decide +kernel)
  have hl := lv_entry ([.ref y0, .int a1]) (n := 4) (Nat.le_of_ble_eq_true rfl)
  rw [lg_entry_eq]
  generalize (lg_sl ([.ref y0, .int a1]) ++ List.replicate (4 - (lg_sl ([.ref y0, .int a1])).length) Slot.unset).toArray = ls at hl ⊢
  have hl : lv_has ls 4 [(0, .ref y0), (1, .int a1)] := hl
  have L26 : ∀ (n : Nat) (v2 : Int32) (v3 : Int32) (th : Int32) (H : Heap) (locs : List Loc) (ls : Array Slot), m_X1_violations_26 fu hs ag a1 n v2 v3 th = some (r0, th') → va_P D vwCl (wY cI cJ y0 y1 y2 y3 y4 y5 y6 y7 y8 hs si ag la fo co cv ta rc ec su pe ti mn nu th) H → va_D A (wY cI cJ y0 y1 y2 y3 y4 y5 y6 y7 y8 hs si ag la fo co cv ta rc ec su pe ti mn nu th) → va_S A s.heap H locs → lv_has ls 4 [(0, .ref y0), (1, .int a1), (2, .int v2), (3, .int v3)] → W p l e (headSpec wsX1_violations ({ frames := 2, cells := 0, slots := 0, locals := 44 })).room s m ([.ref y0, .int a1] : List Value).toArray below meth c H locs 0 0 (MQ below (va_Qi (fun (r : Int32) (_ : Unit) => r = r0) (fun (_ : Unit) t => bx_Post D [(cI, .int), (cJ, .long)] (wY cI cJ y0 y1 y2 y3 y4 y5 y6 y7 y8 hs si ag la fo co cv ta rc ec su pe ti mn nu th') A t) A) ([.ref y0, .int a1] : List Value).toArray s 0 0 A) (F0 m 26 ls []) := by
    intro n
    induction n with
    | zero =>
      intro v2 v3 th H locs ls h
      rw [m_X1_violations_26] at h
      cases h
    | succ n ih =>
      intro v2 v3 th H locs ls h hP hD hS hl
      rw [m_X1_violations_26] at h
      refine lv_iload_n hx hb dX1_violations_26 rfl (lv_at hl 3 rfl) ?_
      refine lv_bipush (v := 12) hx hb dX1_violations_27 (by decide) ?_
      refine lv_icmp_ge (tgt := 76) hx hb dX1_violations_29 (by decide) (fun c_10 => ?_) (fun c_10 => ?_)
      · replace h := (if_pos c_10).symm.trans h
        refine lv_iload_n hx hb dX1_violations_76 rfl (lv_at hl 2 rfl) ?_
        refine lv_iconst (v := 2) hx hb dX1_violations_77 (by decide) ?_
        refine lv_idiv hx hb dX1_violations_78 (by decide) ?_
        cases h
        exact W.iret hx hb hr (fun t ht hW => ⟨⟨_, (), rfl, rfl, by rw [ht]; exact hP, va_K.moved hW.alike hK, hD⟩, hS.F ht⟩) hS.2.2 dX1_violations_79
      · replace h := (if_neg c_10).symm.trans h
        refine lv_iload_n hx hb dX1_violations_32 rfl (lv_at hl 2 rfl) ?_
        refine lv_aload_n hx hb dX1_violations_33 rfl (lv_at hl 0 rfl) ?_
        refine lv_aload_n hx hb dX1_violations_34 rfl (lv_at hl 0 rfl) ?_
        refine va_get (D := D) (ci := 1) (v := .ref y1) (C := RX1) (T := TX1) (N := 16) hx hb hts hin hown hK hP 0 rfl rfl 0 (by decide) hw_0 (fun _ h9 => h9) rfl dX1_violations_35 ?_
        refine lv_iload_n hx hb dX1_violations_38 rfl (lv_at hl 1 rfl) ?_
        obtain ⟨h_11, h⟩ := ix_some h
        refine va_iald hx hb hK hP 1 0 rfl rfl h_11 dX1_violations_39 ?_
        refine lv_iload_n hx hb dX1_violations_40 rfl (lv_at hl 3 rfl) ?_
        refine cl_Vi (As := [.int (hs (Int32.toNatClampNeg a1)), .int v3]) (rest := [.int v2]) (wc := wY cI cJ y0 y1 y2 y3 y4 y5 y6 y7 y8 hs si ag la fo co cv ta rc ec su pe ti mn nu th) (w1 := wY cI cJ y0 y1 y2 y3 y4 y5 y6 y7 y8 hs si ag la fo co cv ta rc ec su pe ti mn nu th) (wr := []) ⟨hx, hb, hml, hown, hts⟩ (c_X1_isIn l D cI cJ y0 y1 y2 y3 y4 y5 y6 y7 y8 _ hs si ag la fo co cv ta rc ec su pe ti mn nu th (hs (Int32.toNatClampNeg a1)) v3) (cwV 2 hts gX1_violations_X1_isIn rfl rfl rfl (by decide +kernel) ⟨Nat.le_of_ble_eq_true rfl, Nat.le_of_ble_eq_true rfl⟩) hK hP hD hS hA [0, 1, 2, 3, 4, 5, 6, 7, 8] [] rfl rfl (by decide) (by decide) rfl rfl rfl rfl rfl hl.1 rfl (lv_room (Nat.le_of_ble_eq_true rfl)) dX1_violations_41 (fun H locs hP hD hS => ?_)
        have hP : va_P D vwCl (wY cI cJ y0 y1 y2 y3 y4 y5 y6 y7 y8 hs si ag la fo co cv ta rc ec su pe ti mn nu th) H := hP
        have hD : va_D A (wY cI cJ y0 y1 y2 y3 y4 y5 y6 y7 y8 hs si ag la fo co cv ta rc ec su pe ti mn nu th) := hD
        refine lv_if_eq (tgt := 67) hx hb dX1_violations_44 (by decide) (fun c_12 => ?_) (fun c_12 => ?_)
        · replace h := (if_pos c_12).symm.trans h
          refine lv_iconst (v := 0) hx hb dX1_violations_67 (by decide) ?_
          refine lv_iadd hx hb dX1_violations_68 ?_
          refine lv_istore_n (lv' := [(2, .int (v2 + 0)), (0, .ref y0), (1, .int a1), (3, .int v3)]) hx hb dX1_violations_69 rfl hl (by decide) rfl (fun ls hl => ?_)
          refine lv_iinc (v := (v3 + 1)) (lv' := [(3, .int (v3 + 1)), (2, .int (v2 + 0)), (0, .ref y0), (1, .int a1)]) hx hb dX1_violations_70 hl (k := 3) rfl rfl (by decide) rfl (fun ls hl => ?_)
          refine lv_goto (tgt := 26) hx hb dX1_violations_73 (by decide) ?_
          exact ih (v2 + 0) (v3 + 1) th _ _ _ h hP hD hS (lv_sub hl [2, 3, 1, 0] rfl)
        · replace h := (if_neg c_12).symm.trans h
          refine lv_aload_n hx hb dX1_violations_47 rfl (lv_at hl 0 rfl) ?_
          refine lv_aload_n hx hb dX1_violations_48 rfl (lv_at hl 0 rfl) ?_
          refine va_get (D := D) (ci := 1) (v := .ref y3) (C := RX1) (T := TX1) (N := 16) hx hb hts hin hown hK hP 0 rfl rfl 2 (by decide) hw_1 (fun _ h9 => h9) rfl dX1_violations_49 ?_
          refine lv_iload_n hx hb dX1_violations_52 rfl (lv_at hl 3 rfl) ?_
          obtain ⟨h_13, h⟩ := ix_some h
          refine va_iald hx hb hK hP 3 0 rfl rfl h_13 dX1_violations_53 ?_
          refine lv_aload_n hx hb dX1_violations_54 rfl (lv_at hl 0 rfl) ?_
          refine va_get (D := D) (ci := 1) (v := .ref y1) (C := RX1) (T := TX1) (N := 16) hx hb hts hin hown hK hP 0 rfl rfl 0 (by decide) hw_0 (fun _ h9 => h9) rfl dX1_violations_55 ?_
          refine lv_iload_n hx hb dX1_violations_58 rfl (lv_at hl 1 rfl) ?_
          refine va_iald hx hb hK hP 1 0 rfl rfl h_11 dX1_violations_59 ?_
          refine lv_iand hx hb dX1_violations_60 ?_
          obtain ⟨r_14, e_15, h⟩ := bnd1_some h
          refine cl_Vi (As := [.int ((ag (Int32.toNatClampNeg v3)) &&& (hs (Int32.toNatClampNeg a1)))]) (rest := [.int v2]) (wc := wY cI cJ y0 y1 y2 y3 y4 y5 y6 y7 y8 hs si ag la fo co cv ta rc ec su pe ti mn nu th) (w1 := wY cI cJ y0 y1 y2 y3 y4 y5 y6 y7 y8 hs si ag la fo co cv ta rc ec su pe ti mn nu th) (wr := []) ⟨hx, hb, hml, hown, hts⟩ (c_X1_size l D cI cJ y0 y1 y2 y3 y4 y5 y6 y7 y8 _ hs si ag la fo co cv ta rc ec su pe ti mn nu th fu ((ag (Int32.toNatClampNeg v3)) &&& (hs (Int32.toNatClampNeg a1))) r_14 e_15) (cwV 1 hts gX1_violations_X1_size rfl rfl rfl (by decide +kernel) ⟨Nat.le_of_ble_eq_true rfl, Nat.le_of_ble_eq_true rfl⟩) hK hP hD hS hA [0, 1, 2, 3, 4, 5, 6, 7, 8] [] rfl rfl (by decide) (by decide) rfl rfl rfl rfl rfl hl.1 rfl (lv_room (Nat.le_of_ble_eq_true rfl)) dX1_violations_61 (fun H locs hP hD hS => ?_)
          have hP : va_P D vwCl (wY cI cJ y0 y1 y2 y3 y4 y5 y6 y7 y8 hs si ag la fo co cv ta rc ec su pe ti mn nu th) H := hP
          have hD : va_D A (wY cI cJ y0 y1 y2 y3 y4 y5 y6 y7 y8 hs si ag la fo co cv ta rc ec su pe ti mn nu th) := hD
          refine lv_goto (tgt := 68) hx hb dX1_violations_64 (by decide) ?_
          refine lv_iadd hx hb dX1_violations_68 ?_
          refine lv_istore_n (lv' := [(2, .int (v2 + r_14)), (0, .ref y0), (1, .int a1), (3, .int v3)]) hx hb dX1_violations_69 rfl hl (by decide) rfl (fun ls hl => ?_)
          refine lv_iinc (v := (v3 + 1)) (lv' := [(3, .int (v3 + 1)), (2, .int (v2 + r_14)), (0, .ref y0), (1, .int a1)]) hx hb dX1_violations_70 hl (k := 3) rfl rfl (by decide) rfl (fun ls hl => ?_)
          refine lv_goto (tgt := 26) hx hb dX1_violations_73 (by decide) ?_
          exact ih (v2 + r_14) (v3 + 1) th _ _ _ h hP hD hS (lv_sub hl [2, 3, 1, 0] rfl)
  rw [m_X1_violations] at h
  refine lv_aload_n hx hb dX1_violations_0 rfl (lv_at hl 0 rfl) ?_
  refine lv_aload_n hx hb dX1_violations_1 rfl (lv_at hl 0 rfl) ?_
  refine lv_iload_n hx hb dX1_violations_2 rfl (lv_at hl 1 rfl) ?_
  refine cl_Vi (As := [.int a1]) (rest := [.ref y0]) (wc := wY cI cJ y0 y1 y2 y3 y4 y5 y6 y7 y8 hs si ag la fo co cv ta rc ec su pe ti mn nu th) (w1 := wY cI cJ y0 y1 y2 y3 y4 y5 y6 y7 y8 hs si ag la fo co cv ta rc ec su pe ti mn nu th) (wr := []) ⟨hx, hb, hml, hown, hts⟩ (c_X1_isUser l D cI cJ y0 y1 y2 y3 y4 y5 y6 y7 y8 _ hs si ag la fo co cv ta rc ec su pe ti mn nu th a1) (cwV 1 hts gX1_violations_X1_isUser rfl rfl rfl (by decide +kernel) ⟨Nat.le_of_ble_eq_true rfl, Nat.le_of_ble_eq_true rfl⟩) hK hP hD hS hA [0, 1, 2, 3, 4, 5, 6, 7, 8] [] rfl rfl (by decide) (by decide) rfl rfl rfl rfl rfl hl.1 rfl (lv_room (Nat.le_of_ble_eq_true rfl)) dX1_violations_3 (fun H locs hP hD hS => ?_)
  have hP : va_P D vwCl (wY cI cJ y0 y1 y2 y3 y4 y5 y6 y7 y8 hs si ag la fo co cv ta rc ec su pe ti mn nu th) H := hP
  have hD : va_D A (wY cI cJ y0 y1 y2 y3 y4 y5 y6 y7 y8 hs si ag la fo co cv ta rc ec su pe ti mn nu th) := hD
  refine lv_if_eq (tgt := 13) hx hb dX1_violations_6 (by decide) (fun c_1 => ?_) (fun c_1 => ?_)
  · replace h := (if_pos c_1).symm.trans h
    refine lv_iconst (v := 1) hx hb dX1_violations_13 (by decide) ?_
    obtain ⟨r_2, th_3, e_4, h⟩ := bnd2_some h
    refine cl_Vi (As := [.int 1]) (rest := []) (wc := wY cI cJ y0 y1 y2 y3 y4 y5 y6 y7 y8 hs si ag la fo co cv ta rc ec su pe ti mn nu th) (w1 := wY cI cJ y0 y1 y2 y3 y4 y5 y6 y7 y8 hs si ag la fo co cv ta rc ec su pe ti mn nu th_3) (wr := []) ⟨hx, hb, hml, hown, hts⟩ (c_X1_holds l D cI cJ y0 y1 y2 y3 y4 y5 y6 y7 y8 _ hs si ag la fo co cv ta rc ec su pe ti mn nu th 1 r_2 th_3 e_4) (cwV 1 hts gX1_violations_X1_holds rfl rfl rfl (by decide +kernel) ⟨Nat.le_of_ble_eq_true rfl, Nat.le_of_ble_eq_true rfl⟩) hK hP hD hS hA [0, 1, 2, 3, 4, 5, 6, 7, 8] [] rfl rfl (by decide) (by decide) rfl rfl rfl rfl rfl hl.1 rfl (lv_room (Nat.le_of_ble_eq_true rfl)) dX1_violations_14 (fun H locs hP hD hS => ?_)
    have hP : va_P D vwCl (wY cI cJ y0 y1 y2 y3 y4 y5 y6 y7 y8 hs si ag la fo co cv ta rc ec su pe ti mn nu th_3) H := hP
    have hD : va_D A (wY cI cJ y0 y1 y2 y3 y4 y5 y6 y7 y8 hs si ag la fo co cv ta rc ec su pe ti mn nu th_3) := hD
    refine lv_if_eq (tgt := 22) hx hb dX1_violations_17 (by decide) (fun c_5 => ?_) (fun c_5 => ?_)
    · replace h := (if_pos c_5).symm.trans h
      refine lv_iconst (v := 0) hx hb dX1_violations_22 (by decide) ?_
      refine lv_istore_n (lv' := [(2, .int 0), (0, .ref y0), (1, .int a1)]) hx hb dX1_violations_23 rfl hl (by decide) rfl (fun ls hl => ?_)
      refine lv_iconst (v := 0) hx hb dX1_violations_24 (by decide) ?_
      refine lv_istore_n (lv' := [(3, .int 0), (2, .int 0), (0, .ref y0), (1, .int a1)]) hx hb dX1_violations_25 rfl hl (by decide) rfl (fun ls hl => ?_)
      exact L26 fu 0 0 th_3 _ _ _ h hP hD hS (lv_sub hl [2, 3, 1, 0] rfl)
    · replace h := (if_neg c_5).symm.trans h
      refine lv_iconst (v := (-1)) hx hb dX1_violations_20 (by decide) ?_
      cases h
      exact W.iret hx hb hr (fun t ht hW => ⟨⟨_, (), rfl, rfl, by rw [ht]; exact hP, va_K.moved hW.alike hK, hD⟩, hS.F ht⟩) hS.2.2 dX1_violations_21
  · replace h := (if_neg c_1).symm.trans h
    refine lv_iconst (v := 0) hx hb dX1_violations_9 (by decide) ?_
    refine lv_goto (tgt := 14) hx hb dX1_violations_10 (by decide) ?_
    obtain ⟨r_6, th_7, e_8, h⟩ := bnd2_some h
    refine cl_Vi (As := [.int 0]) (rest := []) (wc := wY cI cJ y0 y1 y2 y3 y4 y5 y6 y7 y8 hs si ag la fo co cv ta rc ec su pe ti mn nu th) (w1 := wY cI cJ y0 y1 y2 y3 y4 y5 y6 y7 y8 hs si ag la fo co cv ta rc ec su pe ti mn nu th_7) (wr := []) ⟨hx, hb, hml, hown, hts⟩ (c_X1_holds l D cI cJ y0 y1 y2 y3 y4 y5 y6 y7 y8 _ hs si ag la fo co cv ta rc ec su pe ti mn nu th 0 r_6 th_7 e_8) (cwV 1 hts gX1_violations_X1_holds rfl rfl rfl (by decide +kernel) ⟨Nat.le_of_ble_eq_true rfl, Nat.le_of_ble_eq_true rfl⟩) hK hP hD hS hA [0, 1, 2, 3, 4, 5, 6, 7, 8] [] rfl rfl (by decide) (by decide) rfl rfl rfl rfl rfl hl.1 rfl (lv_room (Nat.le_of_ble_eq_true rfl)) dX1_violations_14 (fun H locs hP hD hS => ?_)
    have hP : va_P D vwCl (wY cI cJ y0 y1 y2 y3 y4 y5 y6 y7 y8 hs si ag la fo co cv ta rc ec su pe ti mn nu th_7) H := hP
    have hD : va_D A (wY cI cJ y0 y1 y2 y3 y4 y5 y6 y7 y8 hs si ag la fo co cv ta rc ec su pe ti mn nu th_7) := hD
    refine lv_if_eq (tgt := 22) hx hb dX1_violations_17 (by decide) (fun c_9 => ?_) (fun c_9 => ?_)
    · replace h := (if_pos c_9).symm.trans h
      refine lv_iconst (v := 0) hx hb dX1_violations_22 (by decide) ?_
      refine lv_istore_n (lv' := [(2, .int 0), (0, .ref y0), (1, .int a1)]) hx hb dX1_violations_23 rfl hl (by decide) rfl (fun ls hl => ?_)
      refine lv_iconst (v := 0) hx hb dX1_violations_24 (by decide) ?_
      refine lv_istore_n (lv' := [(3, .int 0), (2, .int 0), (0, .ref y0), (1, .int a1)]) hx hb dX1_violations_25 rfl hl (by decide) rfl (fun ls hl => ?_)
      exact L26 fu 0 0 th_7 _ _ _ h hP hD hS (lv_sub hl [2, 3, 1, 0] rfl)
    · replace h := (if_neg c_9).symm.trans h
      refine lv_iconst (v := (-1)) hx hb dX1_violations_20 (by decide) ?_
      cases h
      exact W.iret hx hb hr (fun t ht hW => ⟨⟨_, (), rfl, rfl, by rw [ht]; exact hP, va_K.moved hW.alike hK, hD⟩, hS.F ht⟩) hS.2.2 dX1_violations_21
-- X1_quarter
def m_X1_quarter (ti : Int32) (th : Int32) : Option ((Int32) × ((Int32))) := (bnd2 (m_X1_plain th ti) (fun r_1 th_2 => some (r_1, th_2)))
set_option maxHeartbeats 4000000 in
set_option maxRecDepth 100000 in
theorem c_X1_quarter (l : Launch) (D : va_G) (cI cJ : ClassId) (y0 y1 y2 y3 y4 y5 y6 y7 y8 : Nat) (sz : Nat) (hs : Nat → Int32) (si : Nat → Int32) (ag : Nat → Int32) (la : Nat → Int32) (fo : Nat → Int32) (co : Nat → Int32) (cv : Nat → Int32) (ta : Nat → Int32) (rc : Int32) (ec : Int32) (su : Int32) (pe : Int32) (ti : Int32) (mn : Int32) (nu : Int32) (th : Int32) (r0 : Int32) (th' : Int32) (h : m_X1_quarter ti th = some (r0, th')) : Met l yX1_quarter wsX1_quarter ({ frames := 1, cells := 0, slots := 0, locals := 21 }) (va_Pc [.ref y0] (bx_Pre D [(cI, .int), (cJ, .long)] (wY cI cJ y0 y1 y2 y3 y4 y5 y6 y7 y8 hs si ag la fo co cv ta rc ec su pe ti mn nu th) sz)) (va_Qi (fun (r : Int32) (_ : Unit) => r = r0) (fun (_ : Unit) t => bx_Post D [(cI, .int), (cJ, .long)] (wY cI cJ y0 y1 y2 y3 y4 y5 y6 y7 y8 hs si ag la fo co cv ta rc ec su pe ti mn nu th') (va_A (wY cI cJ y0 y1 y2 y3 y4 y5 y6 y7 y8 hs si ag la fo co cv ta rc ec su pe ti mn nu th) sz) t) (va_A (wY cI cJ y0 y1 y2 y3 y4 y5 y6 y7 y8 hs si ag la fo co cv ta rc ec su pe ti mn nu th) sz)) 0 0 (va_A (wY cI cJ y0 y1 y2 y3 y4 y5 y6 y7 y8 hs si ag la fo co cv ta rc ec su pe ti mn nu th) sz) := by
  refine Met.ofW (cc := cX1_quarter) (maxL := 1) (ret := (some .int)) (by decide) rfl ?_
  intro p e s m args below meth c s₁ B hml hv
  obtain ⟨rfl, hsz, hP, hK, hD0⟩ := hv
  have hx := B.exec
  have hb := B.bytes
  have hr := B.returns
  have hts := atoms_spec (ws := wsX1_quarter) B.pre
  have hown : s.vm.findClass RX1 = some m.cls := findClass_of_methodNamed B.named
  have hlocks := B.notSynchronized
  subst hsz
  have hD := hD0.self (sz := s.heap.size)
  generalize hAe : va_A (wY cI cJ y0 y1 y2 y3 y4 y5 y6 y7 y8 hs si ag la fo co cv ta rc ec su pe ti mn nu th) s.heap.size = A at hD ⊢
  have hA : ∀ q : Nat, s.heap.size ≤ q → A q := fun q h9 => by rw [← hAe]; exact Or.inr h9
  have hS : va_S A s.heap s.heap [] := va_S.rf
  have hin : ∀ w ∈ wsX10, w ∈ wsX1_quarter := fun _ h9 => List.mem_cons_of_mem _ (List.mem_append_right _ h9)
  have hw_0 := hts (.fieldLink RX1 61 "RoleMinerModel" "time" "I") (by decide +kernel)
  have hl := lv_entry ([.ref y0]) (n := 1) (Nat.le_of_ble_eq_true rfl)
  rw [lg_entry_eq]
  generalize (lg_sl ([.ref y0]) ++ List.replicate (1 - (lg_sl ([.ref y0])).length) Slot.unset).toArray = ls at hl ⊢
  have hl : lv_has ls 1 [(0, .ref y0)] := hl
  rw [m_X1_quarter] at h
  refine lv_aload_n hx hb dX1_quarter_0 rfl (lv_at hl 0 rfl) ?_
  refine lv_aload_n hx hb dX1_quarter_1 rfl (lv_at hl 0 rfl) ?_
  refine va_get (D := D) (ci := 1) (v := .int ti) (C := RX1) (T := TX1) (N := 16) hx hb hts hin hown hK hP 0 rfl rfl 12 (by decide) hw_0 (fun _ h9 => h9) rfl dX1_quarter_2 ?_
  obtain ⟨r_1, th_2, e_3, h⟩ := bnd2_some h
  refine cl_Vi (As := [.int ti]) (rest := []) (wc := wY cI cJ y0 y1 y2 y3 y4 y5 y6 y7 y8 hs si ag la fo co cv ta rc ec su pe ti mn nu th) (w1 := wY cI cJ y0 y1 y2 y3 y4 y5 y6 y7 y8 hs si ag la fo co cv ta rc ec su pe ti mn nu th_2) (wr := []) ⟨hx, hb, hml, hown, hts⟩ (c_X1_plain l D cI cJ y0 y1 y2 y3 y4 y5 y6 y7 y8 _ hs si ag la fo co cv ta rc ec su pe ti mn nu th ti r_1 th_2 e_3) (cwV 1 hts gX1_quarter_X1_plain rfl rfl rfl (by decide +kernel) ⟨Nat.le_of_ble_eq_true rfl, Nat.le_of_ble_eq_true rfl⟩) hK hP hD hS hA [0, 1, 2, 3, 4, 5, 6, 7, 8] [] rfl rfl (by decide) (by decide) rfl rfl rfl rfl rfl hl.1 rfl (lv_room (Nat.le_of_ble_eq_true rfl)) dX1_quarter_5 (fun H locs hP hD hS => ?_)
  have hP : va_P D vwCl (wY cI cJ y0 y1 y2 y3 y4 y5 y6 y7 y8 hs si ag la fo co cv ta rc ec su pe ti mn nu th_2) H := hP
  have hD : va_D A (wY cI cJ y0 y1 y2 y3 y4 y5 y6 y7 y8 hs si ag la fo co cv ta rc ec su pe ti mn nu th_2) := hD
  cases h
  exact W.iret hx hb hr (fun t ht hW => ⟨⟨_, (), rfl, rfl, by rw [ht]; exact hP, va_K.moved hW.alike hK, hD⟩, hS.F ht⟩) hS.2.2 dX1_quarter_8
-- X1_due
def m_X1_due (fu : Nat) (hs : Nat → Int32) (si : Nat → Int32) (pe : Int32) (ti : Int32) (th : Int32) (a1 : Int32) : Option ((Int32) × ((Int32))) := (if (m_X1_isUser a1) = 0 then (bnd2 (m_X1_holds th 1) (fun r_2 th_3 => (if r_2 = 0 then (bnd1 (m_X1_old fu hs si pe a1 (ti + 1)) (fun r_6 => some (r_6, th_3))) else some ((-1), th_3)))) else (bnd2 (m_X1_holds th 0) (fun r_8 th_9 => (if r_8 = 0 then (bnd1 (m_X1_old fu hs si pe a1 (ti + 1)) (fun r_12 => some (r_12, th_9))) else some ((-1), th_9)))))
set_option maxHeartbeats 4000000 in
set_option maxRecDepth 100000 in
theorem c_X1_due (l : Launch) (D : va_G) (cI cJ : ClassId) (y0 y1 y2 y3 y4 y5 y6 y7 y8 : Nat) (sz : Nat) (hs : Nat → Int32) (si : Nat → Int32) (ag : Nat → Int32) (la : Nat → Int32) (fo : Nat → Int32) (co : Nat → Int32) (cv : Nat → Int32) (ta : Nat → Int32) (rc : Int32) (ec : Int32) (su : Int32) (pe : Int32) (ti : Int32) (mn : Int32) (nu : Int32) (th : Int32) (fu : Nat) (a1 : Int32) (r0 : Int32) (th' : Int32) (h : m_X1_due fu hs si pe ti th a1 = some (r0, th')) : Met l yX1_due wsX1_due ({ frames := 2, cells := 0, slots := 0, locals := 46 }) (va_Pc [.ref y0, .int a1] (bx_Pre D [(cI, .int), (cJ, .long)] (wY cI cJ y0 y1 y2 y3 y4 y5 y6 y7 y8 hs si ag la fo co cv ta rc ec su pe ti mn nu th) sz)) (va_Qi (fun (r : Int32) (_ : Unit) => r = r0) (fun (_ : Unit) t => bx_Post D [(cI, .int), (cJ, .long)] (wY cI cJ y0 y1 y2 y3 y4 y5 y6 y7 y8 hs si ag la fo co cv ta rc ec su pe ti mn nu th') (va_A (wY cI cJ y0 y1 y2 y3 y4 y5 y6 y7 y8 hs si ag la fo co cv ta rc ec su pe ti mn nu th) sz) t) (va_A (wY cI cJ y0 y1 y2 y3 y4 y5 y6 y7 y8 hs si ag la fo co cv ta rc ec su pe ti mn nu th) sz)) 0 0 (va_A (wY cI cJ y0 y1 y2 y3 y4 y5 y6 y7 y8 hs si ag la fo co cv ta rc ec su pe ti mn nu th) sz) := by
  refine Met.ofW (cc := cX1_due) (maxL := 2) (ret := (some .int)) (by decide) rfl ?_
  intro p e s m args below meth c s₁ B hml hv
  obtain ⟨rfl, hsz, hP, hK, hD0⟩ := hv
  have hx := B.exec
  have hb := B.bytes
  have hr := B.returns
  have hts := atoms_spec (ws := wsX1_due) B.pre
  have hown : s.vm.findClass RX1 = some m.cls := findClass_of_methodNamed B.named
  have hlocks := B.notSynchronized
  subst hsz
  have hD := hD0.self (sz := s.heap.size)
  generalize hAe : va_A (wY cI cJ y0 y1 y2 y3 y4 y5 y6 y7 y8 hs si ag la fo co cv ta rc ec su pe ti mn nu th) s.heap.size = A at hD ⊢
  have hA : ∀ q : Nat, s.heap.size ≤ q → A q := fun q h9 => by rw [← hAe]; exact Or.inr h9
  have hS : va_S A s.heap s.heap [] := va_S.rf
  have hin : ∀ w ∈ wsX10, w ∈ wsX1_due := fun _ h9 => List.mem_cons_of_mem _ (List.mem_append_right _ h9)
  have hw_0 := hts (.fieldLink RX1 61 "RoleMinerModel" "time" "I") (by decide +kernel)
  have hl := lv_entry ([.ref y0, .int a1]) (n := 2) (Nat.le_of_ble_eq_true rfl)
  rw [lg_entry_eq]
  generalize (lg_sl ([.ref y0, .int a1]) ++ List.replicate (2 - (lg_sl ([.ref y0, .int a1])).length) Slot.unset).toArray = ls at hl ⊢
  have hl : lv_has ls 2 [(0, .ref y0), (1, .int a1)] := hl
  rw [m_X1_due] at h
  refine lv_aload_n hx hb dX1_due_0 rfl (lv_at hl 0 rfl) ?_
  refine lv_aload_n hx hb dX1_due_1 rfl (lv_at hl 0 rfl) ?_
  refine lv_iload_n hx hb dX1_due_2 rfl (lv_at hl 1 rfl) ?_
  refine cl_Vi (As := [.int a1]) (rest := [.ref y0]) (wc := wY cI cJ y0 y1 y2 y3 y4 y5 y6 y7 y8 hs si ag la fo co cv ta rc ec su pe ti mn nu th) (w1 := wY cI cJ y0 y1 y2 y3 y4 y5 y6 y7 y8 hs si ag la fo co cv ta rc ec su pe ti mn nu th) (wr := []) ⟨hx, hb, hml, hown, hts⟩ (c_X1_isUser l D cI cJ y0 y1 y2 y3 y4 y5 y6 y7 y8 _ hs si ag la fo co cv ta rc ec su pe ti mn nu th a1) (cwV 1 hts gX1_due_X1_isUser rfl rfl rfl (by decide +kernel) ⟨Nat.le_of_ble_eq_true rfl, Nat.le_of_ble_eq_true rfl⟩) hK hP hD hS hA [0, 1, 2, 3, 4, 5, 6, 7, 8] [] rfl rfl (by decide) (by decide) rfl rfl rfl rfl rfl hl.1 rfl (lv_room (Nat.le_of_ble_eq_true rfl)) dX1_due_3 (fun H locs hP hD hS => ?_)
  have hP : va_P D vwCl (wY cI cJ y0 y1 y2 y3 y4 y5 y6 y7 y8 hs si ag la fo co cv ta rc ec su pe ti mn nu th) H := hP
  have hD : va_D A (wY cI cJ y0 y1 y2 y3 y4 y5 y6 y7 y8 hs si ag la fo co cv ta rc ec su pe ti mn nu th) := hD
  refine lv_if_eq (tgt := 13) hx hb dX1_due_6 (by decide) (fun c_1 => ?_) (fun c_1 => ?_)
  · replace h := (if_pos c_1).symm.trans h
    refine lv_iconst (v := 1) hx hb dX1_due_13 (by decide) ?_
    obtain ⟨r_2, th_3, e_4, h⟩ := bnd2_some h
    refine cl_Vi (As := [.int 1]) (rest := []) (wc := wY cI cJ y0 y1 y2 y3 y4 y5 y6 y7 y8 hs si ag la fo co cv ta rc ec su pe ti mn nu th) (w1 := wY cI cJ y0 y1 y2 y3 y4 y5 y6 y7 y8 hs si ag la fo co cv ta rc ec su pe ti mn nu th_3) (wr := []) ⟨hx, hb, hml, hown, hts⟩ (c_X1_holds l D cI cJ y0 y1 y2 y3 y4 y5 y6 y7 y8 _ hs si ag la fo co cv ta rc ec su pe ti mn nu th 1 r_2 th_3 e_4) (cwV 1 hts gX1_due_X1_holds rfl rfl rfl (by decide +kernel) ⟨Nat.le_of_ble_eq_true rfl, Nat.le_of_ble_eq_true rfl⟩) hK hP hD hS hA [0, 1, 2, 3, 4, 5, 6, 7, 8] [] rfl rfl (by decide) (by decide) rfl rfl rfl rfl rfl hl.1 rfl (lv_room (Nat.le_of_ble_eq_true rfl)) dX1_due_14 (fun H locs hP hD hS => ?_)
    have hP : va_P D vwCl (wY cI cJ y0 y1 y2 y3 y4 y5 y6 y7 y8 hs si ag la fo co cv ta rc ec su pe ti mn nu th_3) H := hP
    have hD : va_D A (wY cI cJ y0 y1 y2 y3 y4 y5 y6 y7 y8 hs si ag la fo co cv ta rc ec su pe ti mn nu th_3) := hD
    refine lv_if_eq (tgt := 24) hx hb dX1_due_17 (by decide) (fun c_5 => ?_) (fun c_5 => ?_)
    · replace h := (if_pos c_5).symm.trans h
      refine lv_aload_n hx hb dX1_due_24 rfl (lv_at hl 0 rfl) ?_
      refine lv_iload_n hx hb dX1_due_25 rfl (lv_at hl 1 rfl) ?_
      refine lv_aload_n hx hb dX1_due_26 rfl (lv_at hl 0 rfl) ?_
      refine va_get (D := D) (ci := 1) (v := .int ti) (C := RX1) (T := TX1) (N := 16) hx hb hts hin hown hK hP 0 rfl rfl 12 (by decide) hw_0 (fun _ h9 => h9) rfl dX1_due_27 ?_
      refine lv_iconst (v := 1) hx hb dX1_due_30 (by decide) ?_
      refine lv_iadd hx hb dX1_due_31 ?_
      obtain ⟨r_6, e_7, h⟩ := bnd1_some h
      refine cl_Vi (As := [.int a1, .int (ti + 1)]) (rest := []) (wc := wY cI cJ y0 y1 y2 y3 y4 y5 y6 y7 y8 hs si ag la fo co cv ta rc ec su pe ti mn nu th_3) (w1 := wY cI cJ y0 y1 y2 y3 y4 y5 y6 y7 y8 hs si ag la fo co cv ta rc ec su pe ti mn nu th_3) (wr := []) ⟨hx, hb, hml, hown, hts⟩ (c_X1_old l D cI cJ y0 y1 y2 y3 y4 y5 y6 y7 y8 _ hs si ag la fo co cv ta rc ec su pe ti mn nu th_3 fu a1 (ti + 1) r_6 e_7) (cwV 2 hts gX1_due_X1_old rfl rfl rfl (by decide +kernel) ⟨Nat.le_of_ble_eq_true rfl, Nat.le_of_ble_eq_true rfl⟩) hK hP hD hS hA [0, 1, 2, 3, 4, 5, 6, 7, 8] [] rfl rfl (by decide) (by decide) rfl rfl rfl rfl rfl hl.1 rfl (lv_room (Nat.le_of_ble_eq_true rfl)) dX1_due_32 (fun H locs hP hD hS => ?_)
      have hP : va_P D vwCl (wY cI cJ y0 y1 y2 y3 y4 y5 y6 y7 y8 hs si ag la fo co cv ta rc ec su pe ti mn nu th_3) H := hP
      have hD : va_D A (wY cI cJ y0 y1 y2 y3 y4 y5 y6 y7 y8 hs si ag la fo co cv ta rc ec su pe ti mn nu th_3) := hD
      cases h
      exact W.iret hx hb hr (fun t ht hW => ⟨⟨_, (), rfl, rfl, by rw [ht]; exact hP, va_K.moved hW.alike hK, hD⟩, hS.F ht⟩) hS.2.2 dX1_due_35
    · replace h := (if_neg c_5).symm.trans h
      refine lv_iconst (v := (-1)) hx hb dX1_due_20 (by decide) ?_
      refine lv_goto (tgt := 35) hx hb dX1_due_21 (by decide) ?_
      cases h
      exact W.iret hx hb hr (fun t ht hW => ⟨⟨_, (), rfl, rfl, by rw [ht]; exact hP, va_K.moved hW.alike hK, hD⟩, hS.F ht⟩) hS.2.2 dX1_due_35
  · replace h := (if_neg c_1).symm.trans h
    refine lv_iconst (v := 0) hx hb dX1_due_9 (by decide) ?_
    refine lv_goto (tgt := 14) hx hb dX1_due_10 (by decide) ?_
    obtain ⟨r_8, th_9, e_10, h⟩ := bnd2_some h
    refine cl_Vi (As := [.int 0]) (rest := []) (wc := wY cI cJ y0 y1 y2 y3 y4 y5 y6 y7 y8 hs si ag la fo co cv ta rc ec su pe ti mn nu th) (w1 := wY cI cJ y0 y1 y2 y3 y4 y5 y6 y7 y8 hs si ag la fo co cv ta rc ec su pe ti mn nu th_9) (wr := []) ⟨hx, hb, hml, hown, hts⟩ (c_X1_holds l D cI cJ y0 y1 y2 y3 y4 y5 y6 y7 y8 _ hs si ag la fo co cv ta rc ec su pe ti mn nu th 0 r_8 th_9 e_10) (cwV 1 hts gX1_due_X1_holds rfl rfl rfl (by decide +kernel) ⟨Nat.le_of_ble_eq_true rfl, Nat.le_of_ble_eq_true rfl⟩) hK hP hD hS hA [0, 1, 2, 3, 4, 5, 6, 7, 8] [] rfl rfl (by decide) (by decide) rfl rfl rfl rfl rfl hl.1 rfl (lv_room (Nat.le_of_ble_eq_true rfl)) dX1_due_14 (fun H locs hP hD hS => ?_)
    have hP : va_P D vwCl (wY cI cJ y0 y1 y2 y3 y4 y5 y6 y7 y8 hs si ag la fo co cv ta rc ec su pe ti mn nu th_9) H := hP
    have hD : va_D A (wY cI cJ y0 y1 y2 y3 y4 y5 y6 y7 y8 hs si ag la fo co cv ta rc ec su pe ti mn nu th_9) := hD
    refine lv_if_eq (tgt := 24) hx hb dX1_due_17 (by decide) (fun c_11 => ?_) (fun c_11 => ?_)
    · replace h := (if_pos c_11).symm.trans h
      refine lv_aload_n hx hb dX1_due_24 rfl (lv_at hl 0 rfl) ?_
      refine lv_iload_n hx hb dX1_due_25 rfl (lv_at hl 1 rfl) ?_
      refine lv_aload_n hx hb dX1_due_26 rfl (lv_at hl 0 rfl) ?_
      refine va_get (D := D) (ci := 1) (v := .int ti) (C := RX1) (T := TX1) (N := 16) hx hb hts hin hown hK hP 0 rfl rfl 12 (by decide) hw_0 (fun _ h9 => h9) rfl dX1_due_27 ?_
      refine lv_iconst (v := 1) hx hb dX1_due_30 (by decide) ?_
      refine lv_iadd hx hb dX1_due_31 ?_
      obtain ⟨r_12, e_13, h⟩ := bnd1_some h
      refine cl_Vi (As := [.int a1, .int (ti + 1)]) (rest := []) (wc := wY cI cJ y0 y1 y2 y3 y4 y5 y6 y7 y8 hs si ag la fo co cv ta rc ec su pe ti mn nu th_9) (w1 := wY cI cJ y0 y1 y2 y3 y4 y5 y6 y7 y8 hs si ag la fo co cv ta rc ec su pe ti mn nu th_9) (wr := []) ⟨hx, hb, hml, hown, hts⟩ (c_X1_old l D cI cJ y0 y1 y2 y3 y4 y5 y6 y7 y8 _ hs si ag la fo co cv ta rc ec su pe ti mn nu th_9 fu a1 (ti + 1) r_12 e_13) (cwV 2 hts gX1_due_X1_old rfl rfl rfl (by decide +kernel) ⟨Nat.le_of_ble_eq_true rfl, Nat.le_of_ble_eq_true rfl⟩) hK hP hD hS hA [0, 1, 2, 3, 4, 5, 6, 7, 8] [] rfl rfl (by decide) (by decide) rfl rfl rfl rfl rfl hl.1 rfl (lv_room (Nat.le_of_ble_eq_true rfl)) dX1_due_32 (fun H locs hP hD hS => ?_)
      have hP : va_P D vwCl (wY cI cJ y0 y1 y2 y3 y4 y5 y6 y7 y8 hs si ag la fo co cv ta rc ec su pe ti mn nu th_9) H := hP
      have hD : va_D A (wY cI cJ y0 y1 y2 y3 y4 y5 y6 y7 y8 hs si ag la fo co cv ta rc ec su pe ti mn nu th_9) := hD
      cases h
      exact W.iret hx hb hr (fun t ht hW => ⟨⟨_, (), rfl, rfl, by rw [ht]; exact hP, va_K.moved hW.alike hK, hD⟩, hS.F ht⟩) hS.2.2 dX1_due_35
    · replace h := (if_neg c_11).symm.trans h
      refine lv_iconst (v := (-1)) hx hb dX1_due_20 (by decide) ?_
      refine lv_goto (tgt := 35) hx hb dX1_due_21 (by decide) ?_
      cases h
      exact W.iret hx hb hr (fun t ht hW => ⟨⟨_, (), rfl, rfl, by rw [ht]; exact hP, va_K.moved hW.alike hK, hD⟩, hS.F ht⟩) hS.2.2 dX1_due_35
-- X1_candidates
def m_X1_candidates (fu : Nat) (hs : Nat → Int32) (ag : Nat → Int32) (fo : Nat → Int32) (co : Nat → Int32) (su : Int32) (nu : Int32) (th : Int32) : Option ((Int32) × ((Nat → Int32)) × ((Nat → Int32)) × ((Int32)) × ((Int32))) := (bnd3 (m_X1_find fu hs ag fo co su nu) (fun fo_1 co_2 nu_3 => (bnd2 (m_X1_plain th nu_3) (fun r_5 th_6 => some (r_5, fo_1, co_2, nu_3, th_6)))))
set_option maxHeartbeats 4000000 in
set_option maxRecDepth 100000 in
theorem c_X1_candidates (l : Launch) (D : va_G) (cI cJ : ClassId) (y0 y1 y2 y3 y4 y5 y6 y7 y8 : Nat) (sz : Nat) (hs : Nat → Int32) (si : Nat → Int32) (ag : Nat → Int32) (la : Nat → Int32) (fo : Nat → Int32) (co : Nat → Int32) (cv : Nat → Int32) (ta : Nat → Int32) (rc : Int32) (ec : Int32) (su : Int32) (pe : Int32) (ti : Int32) (mn : Int32) (nu : Int32) (th : Int32) (fu : Nat) (r0 : Int32) (fo' : Nat → Int32) (co' : Nat → Int32) (nu' : Int32) (th' : Int32) (h : m_X1_candidates fu hs ag fo co su nu th = some (r0, fo', co', nu', th')) : Met l yX1_candidates wsX1_candidates ({ frames := 3, cells := 0, slots := 0, locals := 68 }) (va_Pc [.ref y0] (bx_Pre D [(cI, .int), (cJ, .long)] (wY cI cJ y0 y1 y2 y3 y4 y5 y6 y7 y8 hs si ag la fo co cv ta rc ec su pe ti mn nu th) sz)) (va_Qi (fun (r : Int32) (_ : Unit) => r = r0) (fun (_ : Unit) t => bx_Post D [(cI, .int), (cJ, .long)] (wY cI cJ y0 y1 y2 y3 y4 y5 y6 y7 y8 hs si ag la fo' co' cv ta rc ec su pe ti mn nu' th') (va_A (wY cI cJ y0 y1 y2 y3 y4 y5 y6 y7 y8 hs si ag la fo co cv ta rc ec su pe ti mn nu th) sz) t) (va_A (wY cI cJ y0 y1 y2 y3 y4 y5 y6 y7 y8 hs si ag la fo co cv ta rc ec su pe ti mn nu th) sz)) 0 0 (va_A (wY cI cJ y0 y1 y2 y3 y4 y5 y6 y7 y8 hs si ag la fo co cv ta rc ec su pe ti mn nu th) sz) := by
  refine Met.ofW (cc := cX1_candidates) (maxL := 1) (ret := (some .int)) (by decide) rfl ?_
  intro p e s m args below meth c s₁ B hml hv
  obtain ⟨rfl, hsz, hP, hK, hD0⟩ := hv
  have hx := B.exec
  have hb := B.bytes
  have hr := B.returns
  have hts := atoms_spec (ws := wsX1_candidates) B.pre
  have hown : s.vm.findClass RX1 = some m.cls := findClass_of_methodNamed B.named
  have hlocks := B.notSynchronized
  subst hsz
  have hD := hD0.self (sz := s.heap.size)
  generalize hAe : va_A (wY cI cJ y0 y1 y2 y3 y4 y5 y6 y7 y8 hs si ag la fo co cv ta rc ec su pe ti mn nu th) s.heap.size = A at hD ⊢
  have hA : ∀ q : Nat, s.heap.size ≤ q → A q := fun q h9 => by rw [← hAe]; exact Or.inr h9
  have hS : va_S A s.heap s.heap [] := va_S.rf
  have hin : ∀ w ∈ wsX10, w ∈ wsX1_candidates := fun _ h9 => List.mem_cons_of_mem _ (List.mem_append_right _ h9)
  have hw_0 := hts (.fieldLink RX1 86 "RoleMinerModel" "number" "I") (by decide +kernel)
  have hl := lv_entry ([.ref y0]) (n := 1) (Nat.le_of_ble_eq_true rfl)
  rw [lg_entry_eq]
  generalize (lg_sl ([.ref y0]) ++ List.replicate (1 - (lg_sl ([.ref y0])).length) Slot.unset).toArray = ls at hl ⊢
  have hl : lv_has ls 1 [(0, .ref y0)] := hl
  rw [m_X1_candidates] at h
  refine lv_aload_n hx hb dX1_candidates_0 rfl (lv_at hl 0 rfl) ?_
  obtain ⟨fo_1, co_2, nu_3, e_4, h⟩ := bnd3_some h
  refine cl_Vv (As := []) (rest := []) (wc := wY cI cJ y0 y1 y2 y3 y4 y5 y6 y7 y8 hs si ag la fo co cv ta rc ec su pe ti mn nu th) (w1 := wY cI cJ y0 y1 y2 y3 y4 y5 y6 y7 y8 hs si ag la fo_1 co_2 cv ta rc ec su pe ti mn nu_3 th) (wr := []) ⟨hx, hb, hml, hown, hts⟩ (c_X1_find l D cI cJ y0 y1 y2 y3 y4 y5 y6 y7 y8 _ hs si ag la fo co cv ta rc ec su pe ti mn nu th fu  fo_1 co_2 nu_3 e_4) (cwV 0 hts gX1_candidates_X1_find rfl rfl rfl (by decide +kernel) ⟨Nat.le_of_ble_eq_true rfl, Nat.le_of_ble_eq_true rfl⟩) hK hP hD hS hA [0, 1, 2, 3, 4, 5, 6, 7, 8] [] rfl rfl (by decide) (by decide) rfl rfl rfl rfl rfl hl.1 rfl (lv_room (Nat.le_of_ble_eq_true rfl)) dX1_candidates_1 (fun H locs hP hD hS => ?_)
  have hP : va_P D vwCl (wY cI cJ y0 y1 y2 y3 y4 y5 y6 y7 y8 hs si ag la fo_1 co_2 cv ta rc ec su pe ti mn nu_3 th) H := hP
  have hD : va_D A (wY cI cJ y0 y1 y2 y3 y4 y5 y6 y7 y8 hs si ag la fo_1 co_2 cv ta rc ec su pe ti mn nu_3 th) := hD
  refine lv_aload_n hx hb dX1_candidates_4 rfl (lv_at hl 0 rfl) ?_
  refine lv_aload_n hx hb dX1_candidates_5 rfl (lv_at hl 0 rfl) ?_
  refine va_get (D := D) (ci := 1) (v := .int nu_3) (C := RX1) (T := TX1) (N := 16) hx hb hts hin hown hK hP 0 rfl rfl 14 (by decide) hw_0 (fun _ h9 => h9) rfl dX1_candidates_6 ?_
  obtain ⟨r_5, th_6, e_7, h⟩ := bnd2_some h
  refine cl_Vi (As := [.int nu_3]) (rest := []) (wc := wY cI cJ y0 y1 y2 y3 y4 y5 y6 y7 y8 hs si ag la fo_1 co_2 cv ta rc ec su pe ti mn nu_3 th) (w1 := wY cI cJ y0 y1 y2 y3 y4 y5 y6 y7 y8 hs si ag la fo_1 co_2 cv ta rc ec su pe ti mn nu_3 th_6) (wr := []) ⟨hx, hb, hml, hown, hts⟩ (c_X1_plain l D cI cJ y0 y1 y2 y3 y4 y5 y6 y7 y8 _ hs si ag la fo_1 co_2 cv ta rc ec su pe ti mn nu_3 th nu_3 r_5 th_6 e_7) (cwV 1 hts gX1_candidates_X1_plain rfl rfl rfl (by decide +kernel) ⟨Nat.le_of_ble_eq_true rfl, Nat.le_of_ble_eq_true rfl⟩) hK hP hD hS hA [0, 1, 2, 3, 4, 5, 6, 7, 8] [] rfl rfl (by decide) (by decide) rfl rfl rfl rfl rfl hl.1 rfl (lv_room (Nat.le_of_ble_eq_true rfl)) dX1_candidates_9 (fun H locs hP hD hS => ?_)
  have hP : va_P D vwCl (wY cI cJ y0 y1 y2 y3 y4 y5 y6 y7 y8 hs si ag la fo_1 co_2 cv ta rc ec su pe ti mn nu_3 th_6) H := hP
  have hD : va_D A (wY cI cJ y0 y1 y2 y3 y4 y5 y6 y7 y8 hs si ag la fo_1 co_2 cv ta rc ec su pe ti mn nu_3 th_6) := hD
  cases h
  exact W.iret hx hb hr (fun t ht hW => ⟨⟨_, (), rfl, rfl, by rw [ht]; exact hP, va_K.moved hW.alike hK, hD⟩, hS.F ht⟩) hS.2.2 dX1_candidates_12
-- X1_candidate
def m_X1_candidate (fu : Nat) (hs : Nat → Int32) (ag : Nat → Int32) (fo : Nat → Int32) (co : Nat → Int32) (su : Int32) (nu : Int32) (th : Int32) (a1 : Int32) : Option ((Int32) × ((Nat → Int32)) × ((Nat → Int32)) × ((Int32)) × ((Int32))) := (bnd3 (m_X1_find fu hs ag fo co su nu) (fun fo_1 co_2 nu_3 => (if (m_X1_between a1 0 (nu_3 - 1)) = 0 then (bnd2 (m_X1_holds th 1) (fun r_6 th_7 => (if r_6 = 0 then (ix a1 256 (some ((fo_1 (Int32.toNatClampNeg a1)), fo_1, co_2, nu_3, th_7))) else some ((-1), fo_1, co_2, nu_3, th_7)))) else (bnd2 (m_X1_holds th 0) (fun r_11 th_12 => (if r_11 = 0 then (ix a1 256 (some ((fo_1 (Int32.toNatClampNeg a1)), fo_1, co_2, nu_3, th_12))) else some ((-1), fo_1, co_2, nu_3, th_12)))))))
set_option maxHeartbeats 4000000 in
set_option maxRecDepth 100000 in
theorem c_X1_candidate (l : Launch) (D : va_G) (cI cJ : ClassId) (y0 y1 y2 y3 y4 y5 y6 y7 y8 : Nat) (sz : Nat) (hs : Nat → Int32) (si : Nat → Int32) (ag : Nat → Int32) (la : Nat → Int32) (fo : Nat → Int32) (co : Nat → Int32) (cv : Nat → Int32) (ta : Nat → Int32) (rc : Int32) (ec : Int32) (su : Int32) (pe : Int32) (ti : Int32) (mn : Int32) (nu : Int32) (th : Int32) (fu : Nat) (a1 : Int32) (r0 : Int32) (fo' : Nat → Int32) (co' : Nat → Int32) (nu' : Int32) (th' : Int32) (h : m_X1_candidate fu hs ag fo co su nu th a1 = some (r0, fo', co', nu', th')) : Met l yX1_candidate wsX1_candidate ({ frames := 3, cells := 0, slots := 0, locals := 68 }) (va_Pc [.ref y0, .int a1] (bx_Pre D [(cI, .int), (cJ, .long)] (wY cI cJ y0 y1 y2 y3 y4 y5 y6 y7 y8 hs si ag la fo co cv ta rc ec su pe ti mn nu th) sz)) (va_Qi (fun (r : Int32) (_ : Unit) => r = r0) (fun (_ : Unit) t => bx_Post D [(cI, .int), (cJ, .long)] (wY cI cJ y0 y1 y2 y3 y4 y5 y6 y7 y8 hs si ag la fo' co' cv ta rc ec su pe ti mn nu' th') (va_A (wY cI cJ y0 y1 y2 y3 y4 y5 y6 y7 y8 hs si ag la fo co cv ta rc ec su pe ti mn nu th) sz) t) (va_A (wY cI cJ y0 y1 y2 y3 y4 y5 y6 y7 y8 hs si ag la fo co cv ta rc ec su pe ti mn nu th) sz)) 0 0 (va_A (wY cI cJ y0 y1 y2 y3 y4 y5 y6 y7 y8 hs si ag la fo co cv ta rc ec su pe ti mn nu th) sz) := by
  refine Met.ofW (cc := cX1_candidate) (maxL := 2) (ret := (some .int)) (by decide) rfl ?_
  intro p e s m args below meth c s₁ B hml hv
  obtain ⟨rfl, hsz, hP, hK, hD0⟩ := hv
  have hx := B.exec
  have hb := B.bytes
  have hr := B.returns
  have hts := atoms_spec (ws := wsX1_candidate) B.pre
  have hown : s.vm.findClass RX1 = some m.cls := findClass_of_methodNamed B.named
  have hlocks := B.notSynchronized
  subst hsz
  have hD := hD0.self (sz := s.heap.size)
  generalize hAe : va_A (wY cI cJ y0 y1 y2 y3 y4 y5 y6 y7 y8 hs si ag la fo co cv ta rc ec su pe ti mn nu th) s.heap.size = A at hD ⊢
  have hA : ∀ q : Nat, s.heap.size ≤ q → A q := fun q h9 => by rw [← hAe]; exact Or.inr h9
  have hS : va_S A s.heap s.heap [] := va_S.rf
  have hin : ∀ w ∈ wsX10, w ∈ wsX1_candidate := fun _ h9 => List.mem_cons_of_mem _ (List.mem_append_right _ h9)
  have hw_0 := hts (.fieldLink RX1 86 "RoleMinerModel" "number" "I") (by decide +kernel)
  have hw_1 := hts (.fieldLink RX1 22 "RoleMinerModel" "found" "[I") (by decide +kernel)
  have hl := lv_entry ([.ref y0, .int a1]) (n := 2) (Nat.le_of_ble_eq_true rfl)
  rw [lg_entry_eq]
  generalize (lg_sl ([.ref y0, .int a1]) ++ List.replicate (2 - (lg_sl ([.ref y0, .int a1])).length) Slot.unset).toArray = ls at hl ⊢
  have hl : lv_has ls 2 [(0, .ref y0), (1, .int a1)] := hl
  rw [m_X1_candidate] at h
  refine lv_aload_n hx hb dX1_candidate_0 rfl (lv_at hl 0 rfl) ?_
  obtain ⟨fo_1, co_2, nu_3, e_4, h⟩ := bnd3_some h
  refine cl_Vv (As := []) (rest := []) (wc := wY cI cJ y0 y1 y2 y3 y4 y5 y6 y7 y8 hs si ag la fo co cv ta rc ec su pe ti mn nu th) (w1 := wY cI cJ y0 y1 y2 y3 y4 y5 y6 y7 y8 hs si ag la fo_1 co_2 cv ta rc ec su pe ti mn nu_3 th) (wr := []) ⟨hx, hb, hml, hown, hts⟩ (c_X1_find l D cI cJ y0 y1 y2 y3 y4 y5 y6 y7 y8 _ hs si ag la fo co cv ta rc ec su pe ti mn nu th fu  fo_1 co_2 nu_3 e_4) (cwV 0 hts gX1_candidate_X1_find rfl rfl rfl (by decide +kernel) ⟨Nat.le_of_ble_eq_true rfl, Nat.le_of_ble_eq_true rfl⟩) hK hP hD hS hA [0, 1, 2, 3, 4, 5, 6, 7, 8] [] rfl rfl (by decide) (by decide) rfl rfl rfl rfl rfl hl.1 rfl (lv_room (Nat.le_of_ble_eq_true rfl)) dX1_candidate_1 (fun H locs hP hD hS => ?_)
  have hP : va_P D vwCl (wY cI cJ y0 y1 y2 y3 y4 y5 y6 y7 y8 hs si ag la fo_1 co_2 cv ta rc ec su pe ti mn nu_3 th) H := hP
  have hD : va_D A (wY cI cJ y0 y1 y2 y3 y4 y5 y6 y7 y8 hs si ag la fo_1 co_2 cv ta rc ec su pe ti mn nu_3 th) := hD
  refine lv_aload_n hx hb dX1_candidate_4 rfl (lv_at hl 0 rfl) ?_
  refine lv_aload_n hx hb dX1_candidate_5 rfl (lv_at hl 0 rfl) ?_
  refine lv_iload_n hx hb dX1_candidate_6 rfl (lv_at hl 1 rfl) ?_
  refine lv_iconst (v := 0) hx hb dX1_candidate_7 (by decide) ?_
  refine lv_aload_n hx hb dX1_candidate_8 rfl (lv_at hl 0 rfl) ?_
  refine va_get (D := D) (ci := 1) (v := .int nu_3) (C := RX1) (T := TX1) (N := 16) hx hb hts hin hown hK hP 0 rfl rfl 14 (by decide) hw_0 (fun _ h9 => h9) rfl dX1_candidate_9 ?_
  refine lv_iconst (v := 1) hx hb dX1_candidate_12 (by decide) ?_
  refine lv_isub hx hb dX1_candidate_13 ?_
  refine cl_Vi (As := [.int a1, .int 0, .int (nu_3 - 1)]) (rest := [.ref y0]) (wc := wY cI cJ y0 y1 y2 y3 y4 y5 y6 y7 y8 hs si ag la fo_1 co_2 cv ta rc ec su pe ti mn nu_3 th) (w1 := wY cI cJ y0 y1 y2 y3 y4 y5 y6 y7 y8 hs si ag la fo_1 co_2 cv ta rc ec su pe ti mn nu_3 th) (wr := []) ⟨hx, hb, hml, hown, hts⟩ (c_X1_between l D cI cJ y0 y1 y2 y3 y4 y5 y6 y7 y8 _ hs si ag la fo_1 co_2 cv ta rc ec su pe ti mn nu_3 th a1 0 (nu_3 - 1)) (cwV 3 hts gX1_candidate_X1_between rfl rfl rfl (by decide +kernel) ⟨Nat.le_of_ble_eq_true rfl, Nat.le_of_ble_eq_true rfl⟩) hK hP hD hS hA [0, 1, 2, 3, 4, 5, 6, 7, 8] [] rfl rfl (by decide) (by decide) rfl rfl rfl rfl rfl hl.1 rfl (lv_room (Nat.le_of_ble_eq_true rfl)) dX1_candidate_14 (fun H locs hP hD hS => ?_)
  have hP : va_P D vwCl (wY cI cJ y0 y1 y2 y3 y4 y5 y6 y7 y8 hs si ag la fo_1 co_2 cv ta rc ec su pe ti mn nu_3 th) H := hP
  have hD : va_D A (wY cI cJ y0 y1 y2 y3 y4 y5 y6 y7 y8 hs si ag la fo_1 co_2 cv ta rc ec su pe ti mn nu_3 th) := hD
  refine lv_if_eq (tgt := 24) hx hb dX1_candidate_17 (by decide) (fun c_5 => ?_) (fun c_5 => ?_)
  · replace h := (if_pos c_5).symm.trans h
    refine lv_iconst (v := 1) hx hb dX1_candidate_24 (by decide) ?_
    obtain ⟨r_6, th_7, e_8, h⟩ := bnd2_some h
    refine cl_Vi (As := [.int 1]) (rest := []) (wc := wY cI cJ y0 y1 y2 y3 y4 y5 y6 y7 y8 hs si ag la fo_1 co_2 cv ta rc ec su pe ti mn nu_3 th) (w1 := wY cI cJ y0 y1 y2 y3 y4 y5 y6 y7 y8 hs si ag la fo_1 co_2 cv ta rc ec su pe ti mn nu_3 th_7) (wr := []) ⟨hx, hb, hml, hown, hts⟩ (c_X1_holds l D cI cJ y0 y1 y2 y3 y4 y5 y6 y7 y8 _ hs si ag la fo_1 co_2 cv ta rc ec su pe ti mn nu_3 th 1 r_6 th_7 e_8) (cwV 1 hts gX1_candidate_X1_holds rfl rfl rfl (by decide +kernel) ⟨Nat.le_of_ble_eq_true rfl, Nat.le_of_ble_eq_true rfl⟩) hK hP hD hS hA [0, 1, 2, 3, 4, 5, 6, 7, 8] [] rfl rfl (by decide) (by decide) rfl rfl rfl rfl rfl hl.1 rfl (lv_room (Nat.le_of_ble_eq_true rfl)) dX1_candidate_25 (fun H locs hP hD hS => ?_)
    have hP : va_P D vwCl (wY cI cJ y0 y1 y2 y3 y4 y5 y6 y7 y8 hs si ag la fo_1 co_2 cv ta rc ec su pe ti mn nu_3 th_7) H := hP
    have hD : va_D A (wY cI cJ y0 y1 y2 y3 y4 y5 y6 y7 y8 hs si ag la fo_1 co_2 cv ta rc ec su pe ti mn nu_3 th_7) := hD
    refine lv_if_eq (tgt := 35) hx hb dX1_candidate_28 (by decide) (fun c_9 => ?_) (fun c_9 => ?_)
    · replace h := (if_pos c_9).symm.trans h
      refine lv_aload_n hx hb dX1_candidate_35 rfl (lv_at hl 0 rfl) ?_
      refine va_get (D := D) (ci := 1) (v := .ref y5) (C := RX1) (T := TX1) (N := 16) hx hb hts hin hown hK hP 0 rfl rfl 4 (by decide) hw_1 (fun _ h9 => h9) rfl dX1_candidate_36 ?_
      refine lv_iload_n hx hb dX1_candidate_39 rfl (lv_at hl 1 rfl) ?_
      obtain ⟨h_10, h⟩ := ix_some h
      refine va_iald hx hb hK hP 5 0 rfl rfl h_10 dX1_candidate_40 ?_
      cases h
      exact W.iret hx hb hr (fun t ht hW => ⟨⟨_, (), rfl, rfl, by rw [ht]; exact hP, va_K.moved hW.alike hK, hD⟩, hS.F ht⟩) hS.2.2 dX1_candidate_41
    · replace h := (if_neg c_9).symm.trans h
      refine lv_iconst (v := (-1)) hx hb dX1_candidate_31 (by decide) ?_
      refine lv_goto (tgt := 41) hx hb dX1_candidate_32 (by decide) ?_
      cases h
      exact W.iret hx hb hr (fun t ht hW => ⟨⟨_, (), rfl, rfl, by rw [ht]; exact hP, va_K.moved hW.alike hK, hD⟩, hS.F ht⟩) hS.2.2 dX1_candidate_41
  · replace h := (if_neg c_5).symm.trans h
    refine lv_iconst (v := 0) hx hb dX1_candidate_20 (by decide) ?_
    refine lv_goto (tgt := 25) hx hb dX1_candidate_21 (by decide) ?_
    obtain ⟨r_11, th_12, e_13, h⟩ := bnd2_some h
    refine cl_Vi (As := [.int 0]) (rest := []) (wc := wY cI cJ y0 y1 y2 y3 y4 y5 y6 y7 y8 hs si ag la fo_1 co_2 cv ta rc ec su pe ti mn nu_3 th) (w1 := wY cI cJ y0 y1 y2 y3 y4 y5 y6 y7 y8 hs si ag la fo_1 co_2 cv ta rc ec su pe ti mn nu_3 th_12) (wr := []) ⟨hx, hb, hml, hown, hts⟩ (c_X1_holds l D cI cJ y0 y1 y2 y3 y4 y5 y6 y7 y8 _ hs si ag la fo_1 co_2 cv ta rc ec su pe ti mn nu_3 th 0 r_11 th_12 e_13) (cwV 1 hts gX1_candidate_X1_holds rfl rfl rfl (by decide +kernel) ⟨Nat.le_of_ble_eq_true rfl, Nat.le_of_ble_eq_true rfl⟩) hK hP hD hS hA [0, 1, 2, 3, 4, 5, 6, 7, 8] [] rfl rfl (by decide) (by decide) rfl rfl rfl rfl rfl hl.1 rfl (lv_room (Nat.le_of_ble_eq_true rfl)) dX1_candidate_25 (fun H locs hP hD hS => ?_)
    have hP : va_P D vwCl (wY cI cJ y0 y1 y2 y3 y4 y5 y6 y7 y8 hs si ag la fo_1 co_2 cv ta rc ec su pe ti mn nu_3 th_12) H := hP
    have hD : va_D A (wY cI cJ y0 y1 y2 y3 y4 y5 y6 y7 y8 hs si ag la fo_1 co_2 cv ta rc ec su pe ti mn nu_3 th_12) := hD
    refine lv_if_eq (tgt := 35) hx hb dX1_candidate_28 (by decide) (fun c_14 => ?_) (fun c_14 => ?_)
    · replace h := (if_pos c_14).symm.trans h
      refine lv_aload_n hx hb dX1_candidate_35 rfl (lv_at hl 0 rfl) ?_
      refine va_get (D := D) (ci := 1) (v := .ref y5) (C := RX1) (T := TX1) (N := 16) hx hb hts hin hown hK hP 0 rfl rfl 4 (by decide) hw_1 (fun _ h9 => h9) rfl dX1_candidate_36 ?_
      refine lv_iload_n hx hb dX1_candidate_39 rfl (lv_at hl 1 rfl) ?_
      obtain ⟨h_15, h⟩ := ix_some h
      refine va_iald hx hb hK hP 5 0 rfl rfl h_15 dX1_candidate_40 ?_
      cases h
      exact W.iret hx hb hr (fun t ht hW => ⟨⟨_, (), rfl, rfl, by rw [ht]; exact hP, va_K.moved hW.alike hK, hD⟩, hS.F ht⟩) hS.2.2 dX1_candidate_41
    · replace h := (if_neg c_14).symm.trans h
      refine lv_iconst (v := (-1)) hx hb dX1_candidate_31 (by decide) ?_
      refine lv_goto (tgt := 41) hx hb dX1_candidate_32 (by decide) ?_
      cases h
      exact W.iret hx hb hr (fun t ht hW => ⟨⟨_, (), rfl, rfl, by rw [ht]; exact hP, va_K.moved hW.alike hK, hD⟩, hS.F ht⟩) hS.2.2 dX1_candidate_41
-- X1_holders
def m_X1_holders (fu : Nat) (hs : Nat → Int32) (th : Int32) (a1 : Int32) : Option ((Int32) × ((Int32))) := (if (m_X1_between a1 0 4095) = 0 then (bnd2 (m_X1_holds th 1) (fun r_2 th_3 => (if r_2 = 0 then (bnd1 (m_X1_whoHas fu hs a1) (fun r_6 => some (r_6, th_3))) else some ((-1), th_3)))) else (bnd2 (m_X1_holds th 0) (fun r_8 th_9 => (if r_8 = 0 then (bnd1 (m_X1_whoHas fu hs a1) (fun r_12 => some (r_12, th_9))) else some ((-1), th_9)))))
set_option maxHeartbeats 4000000 in
set_option maxRecDepth 100000 in
theorem c_X1_holders (l : Launch) (D : va_G) (cI cJ : ClassId) (y0 y1 y2 y3 y4 y5 y6 y7 y8 : Nat) (sz : Nat) (hs : Nat → Int32) (si : Nat → Int32) (ag : Nat → Int32) (la : Nat → Int32) (fo : Nat → Int32) (co : Nat → Int32) (cv : Nat → Int32) (ta : Nat → Int32) (rc : Int32) (ec : Int32) (su : Int32) (pe : Int32) (ti : Int32) (mn : Int32) (nu : Int32) (th : Int32) (fu : Nat) (a1 : Int32) (r0 : Int32) (th' : Int32) (h : m_X1_holders fu hs th a1 = some (r0, th')) : Met l yX1_holders wsX1_holders ({ frames := 2, cells := 0, slots := 0, locals := 45 }) (va_Pc [.ref y0, .int a1] (bx_Pre D [(cI, .int), (cJ, .long)] (wY cI cJ y0 y1 y2 y3 y4 y5 y6 y7 y8 hs si ag la fo co cv ta rc ec su pe ti mn nu th) sz)) (va_Qi (fun (r : Int32) (_ : Unit) => r = r0) (fun (_ : Unit) t => bx_Post D [(cI, .int), (cJ, .long)] (wY cI cJ y0 y1 y2 y3 y4 y5 y6 y7 y8 hs si ag la fo co cv ta rc ec su pe ti mn nu th') (va_A (wY cI cJ y0 y1 y2 y3 y4 y5 y6 y7 y8 hs si ag la fo co cv ta rc ec su pe ti mn nu th) sz) t) (va_A (wY cI cJ y0 y1 y2 y3 y4 y5 y6 y7 y8 hs si ag la fo co cv ta rc ec su pe ti mn nu th) sz)) 0 0 (va_A (wY cI cJ y0 y1 y2 y3 y4 y5 y6 y7 y8 hs si ag la fo co cv ta rc ec su pe ti mn nu th) sz) := by
  refine Met.ofW (cc := cX1_holders) (maxL := 2) (ret := (some .int)) (by decide) rfl ?_
  intro p e s m args below meth c s₁ B hml hv
  obtain ⟨rfl, hsz, hP, hK, hD0⟩ := hv
  have hx := B.exec
  have hb := B.bytes
  have hr := B.returns
  have hts := atoms_spec (ws := wsX1_holders) B.pre
  have hown : s.vm.findClass RX1 = some m.cls := findClass_of_methodNamed B.named
  have hlocks := B.notSynchronized
  subst hsz
  have hD := hD0.self (sz := s.heap.size)
  generalize hAe : va_A (wY cI cJ y0 y1 y2 y3 y4 y5 y6 y7 y8 hs si ag la fo co cv ta rc ec su pe ti mn nu th) s.heap.size = A at hD ⊢
  have hA : ∀ q : Nat, s.heap.size ≤ q → A q := fun q h9 => by rw [← hAe]; exact Or.inr h9
  have hS : va_S A s.heap s.heap [] := va_S.rf
  have hin : ∀ w ∈ wsX10, w ∈ wsX1_holders := fun _ h9 => List.mem_cons_of_mem _ (List.mem_append_right _ h9)
  have hl := lv_entry ([.ref y0, .int a1]) (n := 2) (Nat.le_of_ble_eq_true rfl)
  rw [lg_entry_eq]
  generalize (lg_sl ([.ref y0, .int a1]) ++ List.replicate (2 - (lg_sl ([.ref y0, .int a1])).length) Slot.unset).toArray = ls at hl ⊢
  have hl : lv_has ls 2 [(0, .ref y0), (1, .int a1)] := hl
  rw [m_X1_holders] at h
  refine lv_aload_n hx hb dX1_holders_0 rfl (lv_at hl 0 rfl) ?_
  refine lv_aload_n hx hb dX1_holders_1 rfl (lv_at hl 0 rfl) ?_
  refine lv_iload_n hx hb dX1_holders_2 rfl (lv_at hl 1 rfl) ?_
  refine lv_iconst (v := 0) hx hb dX1_holders_3 (by decide) ?_
  refine lv_sipush (v := 4095) hx hb dX1_holders_4 (by decide) ?_
  refine cl_Vi (As := [.int a1, .int 0, .int 4095]) (rest := [.ref y0]) (wc := wY cI cJ y0 y1 y2 y3 y4 y5 y6 y7 y8 hs si ag la fo co cv ta rc ec su pe ti mn nu th) (w1 := wY cI cJ y0 y1 y2 y3 y4 y5 y6 y7 y8 hs si ag la fo co cv ta rc ec su pe ti mn nu th) (wr := []) ⟨hx, hb, hml, hown, hts⟩ (c_X1_between l D cI cJ y0 y1 y2 y3 y4 y5 y6 y7 y8 _ hs si ag la fo co cv ta rc ec su pe ti mn nu th a1 0 4095) (cwV 3 hts gX1_holders_X1_between rfl rfl rfl (by decide +kernel) ⟨Nat.le_of_ble_eq_true rfl, Nat.le_of_ble_eq_true rfl⟩) hK hP hD hS hA [0, 1, 2, 3, 4, 5, 6, 7, 8] [] rfl rfl (by decide) (by decide) rfl rfl rfl rfl rfl hl.1 rfl (lv_room (Nat.le_of_ble_eq_true rfl)) dX1_holders_7 (fun H locs hP hD hS => ?_)
  have hP : va_P D vwCl (wY cI cJ y0 y1 y2 y3 y4 y5 y6 y7 y8 hs si ag la fo co cv ta rc ec su pe ti mn nu th) H := hP
  have hD : va_D A (wY cI cJ y0 y1 y2 y3 y4 y5 y6 y7 y8 hs si ag la fo co cv ta rc ec su pe ti mn nu th) := hD
  refine lv_if_eq (tgt := 17) hx hb dX1_holders_10 (by decide) (fun c_1 => ?_) (fun c_1 => ?_)
  · replace h := (if_pos c_1).symm.trans h
    refine lv_iconst (v := 1) hx hb dX1_holders_17 (by decide) ?_
    obtain ⟨r_2, th_3, e_4, h⟩ := bnd2_some h
    refine cl_Vi (As := [.int 1]) (rest := []) (wc := wY cI cJ y0 y1 y2 y3 y4 y5 y6 y7 y8 hs si ag la fo co cv ta rc ec su pe ti mn nu th) (w1 := wY cI cJ y0 y1 y2 y3 y4 y5 y6 y7 y8 hs si ag la fo co cv ta rc ec su pe ti mn nu th_3) (wr := []) ⟨hx, hb, hml, hown, hts⟩ (c_X1_holds l D cI cJ y0 y1 y2 y3 y4 y5 y6 y7 y8 _ hs si ag la fo co cv ta rc ec su pe ti mn nu th 1 r_2 th_3 e_4) (cwV 1 hts gX1_holders_X1_holds rfl rfl rfl (by decide +kernel) ⟨Nat.le_of_ble_eq_true rfl, Nat.le_of_ble_eq_true rfl⟩) hK hP hD hS hA [0, 1, 2, 3, 4, 5, 6, 7, 8] [] rfl rfl (by decide) (by decide) rfl rfl rfl rfl rfl hl.1 rfl (lv_room (Nat.le_of_ble_eq_true rfl)) dX1_holders_18 (fun H locs hP hD hS => ?_)
    have hP : va_P D vwCl (wY cI cJ y0 y1 y2 y3 y4 y5 y6 y7 y8 hs si ag la fo co cv ta rc ec su pe ti mn nu th_3) H := hP
    have hD : va_D A (wY cI cJ y0 y1 y2 y3 y4 y5 y6 y7 y8 hs si ag la fo co cv ta rc ec su pe ti mn nu th_3) := hD
    refine lv_if_eq (tgt := 28) hx hb dX1_holders_21 (by decide) (fun c_5 => ?_) (fun c_5 => ?_)
    · replace h := (if_pos c_5).symm.trans h
      refine lv_aload_n hx hb dX1_holders_28 rfl (lv_at hl 0 rfl) ?_
      refine lv_iload_n hx hb dX1_holders_29 rfl (lv_at hl 1 rfl) ?_
      obtain ⟨r_6, e_7, h⟩ := bnd1_some h
      refine cl_Vi (As := [.int a1]) (rest := []) (wc := wY cI cJ y0 y1 y2 y3 y4 y5 y6 y7 y8 hs si ag la fo co cv ta rc ec su pe ti mn nu th_3) (w1 := wY cI cJ y0 y1 y2 y3 y4 y5 y6 y7 y8 hs si ag la fo co cv ta rc ec su pe ti mn nu th_3) (wr := []) ⟨hx, hb, hml, hown, hts⟩ (c_X1_whoHas l D cI cJ y0 y1 y2 y3 y4 y5 y6 y7 y8 _ hs si ag la fo co cv ta rc ec su pe ti mn nu th_3 fu a1 r_6 e_7) (cwV 1 hts gX1_holders_X1_whoHas rfl rfl rfl (by decide +kernel) ⟨Nat.le_of_ble_eq_true rfl, Nat.le_of_ble_eq_true rfl⟩) hK hP hD hS hA [0, 1, 2, 3, 4, 5, 6, 7, 8] [] rfl rfl (by decide) (by decide) rfl rfl rfl rfl rfl hl.1 rfl (lv_room (Nat.le_of_ble_eq_true rfl)) dX1_holders_30 (fun H locs hP hD hS => ?_)
      have hP : va_P D vwCl (wY cI cJ y0 y1 y2 y3 y4 y5 y6 y7 y8 hs si ag la fo co cv ta rc ec su pe ti mn nu th_3) H := hP
      have hD : va_D A (wY cI cJ y0 y1 y2 y3 y4 y5 y6 y7 y8 hs si ag la fo co cv ta rc ec su pe ti mn nu th_3) := hD
      cases h
      exact W.iret hx hb hr (fun t ht hW => ⟨⟨_, (), rfl, rfl, by rw [ht]; exact hP, va_K.moved hW.alike hK, hD⟩, hS.F ht⟩) hS.2.2 dX1_holders_33
    · replace h := (if_neg c_5).symm.trans h
      refine lv_iconst (v := (-1)) hx hb dX1_holders_24 (by decide) ?_
      refine lv_goto (tgt := 33) hx hb dX1_holders_25 (by decide) ?_
      cases h
      exact W.iret hx hb hr (fun t ht hW => ⟨⟨_, (), rfl, rfl, by rw [ht]; exact hP, va_K.moved hW.alike hK, hD⟩, hS.F ht⟩) hS.2.2 dX1_holders_33
  · replace h := (if_neg c_1).symm.trans h
    refine lv_iconst (v := 0) hx hb dX1_holders_13 (by decide) ?_
    refine lv_goto (tgt := 18) hx hb dX1_holders_14 (by decide) ?_
    obtain ⟨r_8, th_9, e_10, h⟩ := bnd2_some h
    refine cl_Vi (As := [.int 0]) (rest := []) (wc := wY cI cJ y0 y1 y2 y3 y4 y5 y6 y7 y8 hs si ag la fo co cv ta rc ec su pe ti mn nu th) (w1 := wY cI cJ y0 y1 y2 y3 y4 y5 y6 y7 y8 hs si ag la fo co cv ta rc ec su pe ti mn nu th_9) (wr := []) ⟨hx, hb, hml, hown, hts⟩ (c_X1_holds l D cI cJ y0 y1 y2 y3 y4 y5 y6 y7 y8 _ hs si ag la fo co cv ta rc ec su pe ti mn nu th 0 r_8 th_9 e_10) (cwV 1 hts gX1_holders_X1_holds rfl rfl rfl (by decide +kernel) ⟨Nat.le_of_ble_eq_true rfl, Nat.le_of_ble_eq_true rfl⟩) hK hP hD hS hA [0, 1, 2, 3, 4, 5, 6, 7, 8] [] rfl rfl (by decide) (by decide) rfl rfl rfl rfl rfl hl.1 rfl (lv_room (Nat.le_of_ble_eq_true rfl)) dX1_holders_18 (fun H locs hP hD hS => ?_)
    have hP : va_P D vwCl (wY cI cJ y0 y1 y2 y3 y4 y5 y6 y7 y8 hs si ag la fo co cv ta rc ec su pe ti mn nu th_9) H := hP
    have hD : va_D A (wY cI cJ y0 y1 y2 y3 y4 y5 y6 y7 y8 hs si ag la fo co cv ta rc ec su pe ti mn nu th_9) := hD
    refine lv_if_eq (tgt := 28) hx hb dX1_holders_21 (by decide) (fun c_11 => ?_) (fun c_11 => ?_)
    · replace h := (if_pos c_11).symm.trans h
      refine lv_aload_n hx hb dX1_holders_28 rfl (lv_at hl 0 rfl) ?_
      refine lv_iload_n hx hb dX1_holders_29 rfl (lv_at hl 1 rfl) ?_
      obtain ⟨r_12, e_13, h⟩ := bnd1_some h
      refine cl_Vi (As := [.int a1]) (rest := []) (wc := wY cI cJ y0 y1 y2 y3 y4 y5 y6 y7 y8 hs si ag la fo co cv ta rc ec su pe ti mn nu th_9) (w1 := wY cI cJ y0 y1 y2 y3 y4 y5 y6 y7 y8 hs si ag la fo co cv ta rc ec su pe ti mn nu th_9) (wr := []) ⟨hx, hb, hml, hown, hts⟩ (c_X1_whoHas l D cI cJ y0 y1 y2 y3 y4 y5 y6 y7 y8 _ hs si ag la fo co cv ta rc ec su pe ti mn nu th_9 fu a1 r_12 e_13) (cwV 1 hts gX1_holders_X1_whoHas rfl rfl rfl (by decide +kernel) ⟨Nat.le_of_ble_eq_true rfl, Nat.le_of_ble_eq_true rfl⟩) hK hP hD hS hA [0, 1, 2, 3, 4, 5, 6, 7, 8] [] rfl rfl (by decide) (by decide) rfl rfl rfl rfl rfl hl.1 rfl (lv_room (Nat.le_of_ble_eq_true rfl)) dX1_holders_30 (fun H locs hP hD hS => ?_)
      have hP : va_P D vwCl (wY cI cJ y0 y1 y2 y3 y4 y5 y6 y7 y8 hs si ag la fo co cv ta rc ec su pe ti mn nu th_9) H := hP
      have hD : va_D A (wY cI cJ y0 y1 y2 y3 y4 y5 y6 y7 y8 hs si ag la fo co cv ta rc ec su pe ti mn nu th_9) := hD
      cases h
      exact W.iret hx hb hr (fun t ht hW => ⟨⟨_, (), rfl, rfl, by rw [ht]; exact hP, va_K.moved hW.alike hK, hD⟩, hS.F ht⟩) hS.2.2 dX1_holders_33
    · replace h := (if_neg c_11).symm.trans h
      refine lv_iconst (v := (-1)) hx hb dX1_holders_24 (by decide) ?_
      refine lv_goto (tgt := 33) hx hb dX1_holders_25 (by decide) ?_
      cases h
      exact W.iret hx hb hr (fun t ht hW => ⟨⟨_, (), rfl, rfl, by rw [ht]; exact hP, va_K.moved hW.alike hK, hD⟩, hS.F ht⟩) hS.2.2 dX1_holders_33
-- X1_costOf
def m_X1_costOf (fu : Nat) (hs : Nat → Int32) (ag : Nat → Int32) (fo : Nat → Int32) (co : Nat → Int32) (cv : Nat → Int32) (rc : Int32) (ec : Int32) (su : Int32) (nu : Int32) (th : Int32) (a1 : Int32) : Option ((Int32) × ((Nat → Int32)) × ((Nat → Int32)) × ((Nat → Int32)) × ((Int32)) × ((Int32))) := (bnd4 (m_X1_isTooMuch fu hs ag fo co su nu) (fun r_1 fo_2 co_3 nu_4 => (if r_1 = 0 then (if a1 < 0 then (bnd2 (m_X1_holds th 2) (fun r_8 th_9 => (if r_8 = 0 then (bnd2 (m_X1_price fu hs fo_2 cv rc ec nu_4 a1) (fun r_12 cv_13 => some (r_12, fo_2, co_3, cv_13, nu_4, th_9))) else some ((-1), fo_2, co_3, cv, nu_4, th_9)))) else (if (a1 >>> (nu_4 &&& 31)) = 0 then (bnd2 (m_X1_holds th 0) (fun r_16 th_17 => (if r_16 = 0 then (bnd2 (m_X1_price fu hs fo_2 cv rc ec nu_4 a1) (fun r_20 cv_21 => some (r_20, fo_2, co_3, cv_21, nu_4, th_17))) else some ((-1), fo_2, co_3, cv, nu_4, th_17)))) else (bnd2 (m_X1_holds th 2) (fun r_23 th_24 => (if r_23 = 0 then (bnd2 (m_X1_price fu hs fo_2 cv rc ec nu_4 a1) (fun r_27 cv_28 => some (r_27, fo_2, co_3, cv_28, nu_4, th_24))) else some ((-1), fo_2, co_3, cv, nu_4, th_24)))))) else (bnd2 (m_X1_holds th 1) (fun r_30 th_31 => (if r_30 = 0 then (bnd2 (m_X1_price fu hs fo_2 cv rc ec nu_4 a1) (fun r_34 cv_35 => some (r_34, fo_2, co_3, cv_35, nu_4, th_31))) else some ((-1), fo_2, co_3, cv, nu_4, th_31)))))))
set_option maxHeartbeats 4000000 in
set_option maxRecDepth 100000 in
theorem c_X1_costOf (l : Launch) (D : va_G) (cI cJ : ClassId) (y0 y1 y2 y3 y4 y5 y6 y7 y8 : Nat) (sz : Nat) (hs : Nat → Int32) (si : Nat → Int32) (ag : Nat → Int32) (la : Nat → Int32) (fo : Nat → Int32) (co : Nat → Int32) (cv : Nat → Int32) (ta : Nat → Int32) (rc : Int32) (ec : Int32) (su : Int32) (pe : Int32) (ti : Int32) (mn : Int32) (nu : Int32) (th : Int32) (fu : Nat) (a1 : Int32) (r0 : Int32) (fo' : Nat → Int32) (co' : Nat → Int32) (cv' : Nat → Int32) (nu' : Int32) (th' : Int32) (h : m_X1_costOf fu hs ag fo co cv rc ec su nu th a1 = some (r0, fo', co', cv', nu', th')) : Met l yX1_costOf wsX1_costOf ({ frames := 4, cells := 0, slots := 0, locals := 88 }) (va_Pc [.ref y0, .int a1] (bx_Pre D [(cI, .int), (cJ, .long)] (wY cI cJ y0 y1 y2 y3 y4 y5 y6 y7 y8 hs si ag la fo co cv ta rc ec su pe ti mn nu th) sz)) (va_Qi (fun (r : Int32) (_ : Unit) => r = r0) (fun (_ : Unit) t => bx_Post D [(cI, .int), (cJ, .long)] (wY cI cJ y0 y1 y2 y3 y4 y5 y6 y7 y8 hs si ag la fo' co' cv' ta rc ec su pe ti mn nu' th') (va_A (wY cI cJ y0 y1 y2 y3 y4 y5 y6 y7 y8 hs si ag la fo co cv ta rc ec su pe ti mn nu th) sz) t) (va_A (wY cI cJ y0 y1 y2 y3 y4 y5 y6 y7 y8 hs si ag la fo co cv ta rc ec su pe ti mn nu th) sz)) 0 0 (va_A (wY cI cJ y0 y1 y2 y3 y4 y5 y6 y7 y8 hs si ag la fo co cv ta rc ec su pe ti mn nu th) sz) := by
  refine Met.ofW (cc := cX1_costOf) (maxL := 2) (ret := (some .int)) (by decide) rfl ?_
  intro p e s m args below meth c s₁ B hml hv
  obtain ⟨rfl, hsz, hP, hK, hD0⟩ := hv
  have hx := B.exec
  have hb := B.bytes
  have hr := B.returns
  have hts := atoms_spec (ws := wsX1_costOf) B.pre
  have hown : s.vm.findClass RX1 = some m.cls := findClass_of_methodNamed B.named
  have hlocks := B.notSynchronized
  subst hsz
  have hD := hD0.self (sz := s.heap.size)
  generalize hAe : va_A (wY cI cJ y0 y1 y2 y3 y4 y5 y6 y7 y8 hs si ag la fo co cv ta rc ec su pe ti mn nu th) s.heap.size = A at hD ⊢
  have hA : ∀ q : Nat, s.heap.size ≤ q → A q := fun q h9 => by rw [← hAe]; exact Or.inr h9
  have hS : va_S A s.heap s.heap [] := va_S.rf
  have hin : ∀ w ∈ wsX10, w ∈ wsX1_costOf := fun _ h9 => List.mem_cons_of_mem _ (List.mem_append_right _ h9)
  have hw_0 := hts (.fieldLink RX1 86 "RoleMinerModel" "number" "I") (by decide +kernel)
  have hl := lv_entry ([.ref y0, .int a1]) (n := 2) (Nat.le_of_ble_eq_true rfl)
  rw [lg_entry_eq]
  generalize (lg_sl ([.ref y0, .int a1]) ++ List.replicate (2 - (lg_sl ([.ref y0, .int a1])).length) Slot.unset).toArray = ls at hl ⊢
  have hl : lv_has ls 2 [(0, .ref y0), (1, .int a1)] := hl
  rw [m_X1_costOf] at h
  refine lv_aload_n hx hb dX1_costOf_0 rfl (lv_at hl 0 rfl) ?_
  refine lv_aload_n hx hb dX1_costOf_1 rfl (lv_at hl 0 rfl) ?_
  obtain ⟨r_1, fo_2, co_3, nu_4, e_5, h⟩ := bnd4_some h
  refine cl_Vi (As := []) (rest := [.ref y0]) (wc := wY cI cJ y0 y1 y2 y3 y4 y5 y6 y7 y8 hs si ag la fo co cv ta rc ec su pe ti mn nu th) (w1 := wY cI cJ y0 y1 y2 y3 y4 y5 y6 y7 y8 hs si ag la fo_2 co_3 cv ta rc ec su pe ti mn nu_4 th) (wr := []) ⟨hx, hb, hml, hown, hts⟩ (c_X1_isTooMuch l D cI cJ y0 y1 y2 y3 y4 y5 y6 y7 y8 _ hs si ag la fo co cv ta rc ec su pe ti mn nu th fu  r_1 fo_2 co_3 nu_4 e_5) (cwV 0 hts gX1_costOf_X1_isTooMuch rfl rfl rfl (by decide +kernel) ⟨Nat.le_of_ble_eq_true rfl, Nat.le_of_ble_eq_true rfl⟩) hK hP hD hS hA [0, 1, 2, 3, 4, 5, 6, 7, 8] [] rfl rfl (by decide) (by decide) rfl rfl rfl rfl rfl hl.1 rfl (lv_room (Nat.le_of_ble_eq_true rfl)) dX1_costOf_2 (fun H locs hP hD hS => ?_)
  have hP : va_P D vwCl (wY cI cJ y0 y1 y2 y3 y4 y5 y6 y7 y8 hs si ag la fo_2 co_3 cv ta rc ec su pe ti mn nu_4 th) H := hP
  have hD : va_D A (wY cI cJ y0 y1 y2 y3 y4 y5 y6 y7 y8 hs si ag la fo_2 co_3 cv ta rc ec su pe ti mn nu_4 th) := hD
  refine lv_if_eq (tgt := 12) hx hb dX1_costOf_5 (by decide) (fun c_6 => ?_) (fun c_6 => ?_)
  · replace h := (if_pos c_6).symm.trans h
    refine lv_iload_n hx hb dX1_costOf_12 rfl (lv_at hl 1 rfl) ?_
    refine lv_if_lt (tgt := 25) hx hb dX1_costOf_13 (by decide) (fun c_7 => ?_) (fun c_7 => ?_)
    · replace h := (if_pos c_7).symm.trans h
      refine lv_iconst (v := 2) hx hb dX1_costOf_25 (by decide) ?_
      refine lv_goto (tgt := 30) hx hb dX1_costOf_26 (by decide) ?_
      obtain ⟨r_8, th_9, e_10, h⟩ := bnd2_some h
      refine cl_Vi (As := [.int 2]) (rest := []) (wc := wY cI cJ y0 y1 y2 y3 y4 y5 y6 y7 y8 hs si ag la fo_2 co_3 cv ta rc ec su pe ti mn nu_4 th) (w1 := wY cI cJ y0 y1 y2 y3 y4 y5 y6 y7 y8 hs si ag la fo_2 co_3 cv ta rc ec su pe ti mn nu_4 th_9) (wr := []) ⟨hx, hb, hml, hown, hts⟩ (c_X1_holds l D cI cJ y0 y1 y2 y3 y4 y5 y6 y7 y8 _ hs si ag la fo_2 co_3 cv ta rc ec su pe ti mn nu_4 th 2 r_8 th_9 e_10) (cwV 1 hts gX1_costOf_X1_holds rfl rfl rfl (by decide +kernel) ⟨Nat.le_of_ble_eq_true rfl, Nat.le_of_ble_eq_true rfl⟩) hK hP hD hS hA [0, 1, 2, 3, 4, 5, 6, 7, 8] [] rfl rfl (by decide) (by decide) rfl rfl rfl rfl rfl hl.1 rfl (lv_room (Nat.le_of_ble_eq_true rfl)) dX1_costOf_30 (fun H locs hP hD hS => ?_)
      have hP : va_P D vwCl (wY cI cJ y0 y1 y2 y3 y4 y5 y6 y7 y8 hs si ag la fo_2 co_3 cv ta rc ec su pe ti mn nu_4 th_9) H := hP
      have hD : va_D A (wY cI cJ y0 y1 y2 y3 y4 y5 y6 y7 y8 hs si ag la fo_2 co_3 cv ta rc ec su pe ti mn nu_4 th_9) := hD
      refine lv_if_eq (tgt := 38) hx hb dX1_costOf_33 (by decide) (fun c_11 => ?_) (fun c_11 => ?_)
      · replace h := (if_pos c_11).symm.trans h
        refine lv_aload_n hx hb dX1_costOf_38 rfl (lv_at hl 0 rfl) ?_
        refine lv_iload_n hx hb dX1_costOf_39 rfl (lv_at hl 1 rfl) ?_
        obtain ⟨r_12, cv_13, e_14, h⟩ := bnd2_some h
        refine cl_Vi (As := [.int a1]) (rest := []) (wc := wY cI cJ y0 y1 y2 y3 y4 y5 y6 y7 y8 hs si ag la fo_2 co_3 cv ta rc ec su pe ti mn nu_4 th_9) (w1 := wY cI cJ y0 y1 y2 y3 y4 y5 y6 y7 y8 hs si ag la fo_2 co_3 cv_13 ta rc ec su pe ti mn nu_4 th_9) (wr := []) ⟨hx, hb, hml, hown, hts⟩ (c_X1_price l D cI cJ y0 y1 y2 y3 y4 y5 y6 y7 y8 _ hs si ag la fo_2 co_3 cv ta rc ec su pe ti mn nu_4 th_9 fu a1 r_12 cv_13 e_14) (cwV 1 hts gX1_costOf_X1_price rfl rfl rfl (by decide +kernel) ⟨Nat.le_of_ble_eq_true rfl, Nat.le_of_ble_eq_true rfl⟩) hK hP hD hS hA [0, 1, 2, 3, 4, 5, 6, 7, 8] [] rfl rfl (by decide) (by decide) rfl rfl rfl rfl rfl hl.1 rfl (lv_room (Nat.le_of_ble_eq_true rfl)) dX1_costOf_40 (fun H locs hP hD hS => ?_)
        have hP : va_P D vwCl (wY cI cJ y0 y1 y2 y3 y4 y5 y6 y7 y8 hs si ag la fo_2 co_3 cv_13 ta rc ec su pe ti mn nu_4 th_9) H := hP
        have hD : va_D A (wY cI cJ y0 y1 y2 y3 y4 y5 y6 y7 y8 hs si ag la fo_2 co_3 cv_13 ta rc ec su pe ti mn nu_4 th_9) := hD
        cases h
        exact W.iret hx hb hr (fun t ht hW => ⟨⟨_, (), rfl, rfl, by rw [ht]; exact hP, va_K.moved hW.alike hK, hD⟩, hS.F ht⟩) hS.2.2 dX1_costOf_43
      · replace h := (if_neg c_11).symm.trans h
        refine lv_iconst (v := (-1)) hx hb dX1_costOf_36 (by decide) ?_
        cases h
        exact W.iret hx hb hr (fun t ht hW => ⟨⟨_, (), rfl, rfl, by rw [ht]; exact hP, va_K.moved hW.alike hK, hD⟩, hS.F ht⟩) hS.2.2 dX1_costOf_37
    · replace h := (if_neg c_7).symm.trans h
      refine lv_iload_n hx hb dX1_costOf_16 rfl (lv_at hl 1 rfl) ?_
      refine lv_aload_n hx hb dX1_costOf_17 rfl (lv_at hl 0 rfl) ?_
      refine va_get (D := D) (ci := 1) (v := .int nu_4) (C := RX1) (T := TX1) (N := 16) hx hb hts hin hown hK hP 0 rfl rfl 14 (by decide) hw_0 (fun _ h9 => h9) rfl dX1_costOf_18 ?_
      refine lv_ishr hx hb dX1_costOf_21 ?_
      refine lv_if_eq (tgt := 29) hx hb dX1_costOf_22 (by decide) (fun c_15 => ?_) (fun c_15 => ?_)
      · replace h := (if_pos c_15).symm.trans h
        refine lv_iconst (v := 0) hx hb dX1_costOf_29 (by decide) ?_
        obtain ⟨r_16, th_17, e_18, h⟩ := bnd2_some h
        refine cl_Vi (As := [.int 0]) (rest := []) (wc := wY cI cJ y0 y1 y2 y3 y4 y5 y6 y7 y8 hs si ag la fo_2 co_3 cv ta rc ec su pe ti mn nu_4 th) (w1 := wY cI cJ y0 y1 y2 y3 y4 y5 y6 y7 y8 hs si ag la fo_2 co_3 cv ta rc ec su pe ti mn nu_4 th_17) (wr := []) ⟨hx, hb, hml, hown, hts⟩ (c_X1_holds l D cI cJ y0 y1 y2 y3 y4 y5 y6 y7 y8 _ hs si ag la fo_2 co_3 cv ta rc ec su pe ti mn nu_4 th 0 r_16 th_17 e_18) (cwV 1 hts gX1_costOf_X1_holds rfl rfl rfl (by decide +kernel) ⟨Nat.le_of_ble_eq_true rfl, Nat.le_of_ble_eq_true rfl⟩) hK hP hD hS hA [0, 1, 2, 3, 4, 5, 6, 7, 8] [] rfl rfl (by decide) (by decide) rfl rfl rfl rfl rfl hl.1 rfl (lv_room (Nat.le_of_ble_eq_true rfl)) dX1_costOf_30 (fun H locs hP hD hS => ?_)
        have hP : va_P D vwCl (wY cI cJ y0 y1 y2 y3 y4 y5 y6 y7 y8 hs si ag la fo_2 co_3 cv ta rc ec su pe ti mn nu_4 th_17) H := hP
        have hD : va_D A (wY cI cJ y0 y1 y2 y3 y4 y5 y6 y7 y8 hs si ag la fo_2 co_3 cv ta rc ec su pe ti mn nu_4 th_17) := hD
        refine lv_if_eq (tgt := 38) hx hb dX1_costOf_33 (by decide) (fun c_19 => ?_) (fun c_19 => ?_)
        · replace h := (if_pos c_19).symm.trans h
          refine lv_aload_n hx hb dX1_costOf_38 rfl (lv_at hl 0 rfl) ?_
          refine lv_iload_n hx hb dX1_costOf_39 rfl (lv_at hl 1 rfl) ?_
          obtain ⟨r_20, cv_21, e_22, h⟩ := bnd2_some h
          refine cl_Vi (As := [.int a1]) (rest := []) (wc := wY cI cJ y0 y1 y2 y3 y4 y5 y6 y7 y8 hs si ag la fo_2 co_3 cv ta rc ec su pe ti mn nu_4 th_17) (w1 := wY cI cJ y0 y1 y2 y3 y4 y5 y6 y7 y8 hs si ag la fo_2 co_3 cv_21 ta rc ec su pe ti mn nu_4 th_17) (wr := []) ⟨hx, hb, hml, hown, hts⟩ (c_X1_price l D cI cJ y0 y1 y2 y3 y4 y5 y6 y7 y8 _ hs si ag la fo_2 co_3 cv ta rc ec su pe ti mn nu_4 th_17 fu a1 r_20 cv_21 e_22) (cwV 1 hts gX1_costOf_X1_price rfl rfl rfl (by decide +kernel) ⟨Nat.le_of_ble_eq_true rfl, Nat.le_of_ble_eq_true rfl⟩) hK hP hD hS hA [0, 1, 2, 3, 4, 5, 6, 7, 8] [] rfl rfl (by decide) (by decide) rfl rfl rfl rfl rfl hl.1 rfl (lv_room (Nat.le_of_ble_eq_true rfl)) dX1_costOf_40 (fun H locs hP hD hS => ?_)
          have hP : va_P D vwCl (wY cI cJ y0 y1 y2 y3 y4 y5 y6 y7 y8 hs si ag la fo_2 co_3 cv_21 ta rc ec su pe ti mn nu_4 th_17) H := hP
          have hD : va_D A (wY cI cJ y0 y1 y2 y3 y4 y5 y6 y7 y8 hs si ag la fo_2 co_3 cv_21 ta rc ec su pe ti mn nu_4 th_17) := hD
          cases h
          exact W.iret hx hb hr (fun t ht hW => ⟨⟨_, (), rfl, rfl, by rw [ht]; exact hP, va_K.moved hW.alike hK, hD⟩, hS.F ht⟩) hS.2.2 dX1_costOf_43
        · replace h := (if_neg c_19).symm.trans h
          refine lv_iconst (v := (-1)) hx hb dX1_costOf_36 (by decide) ?_
          cases h
          exact W.iret hx hb hr (fun t ht hW => ⟨⟨_, (), rfl, rfl, by rw [ht]; exact hP, va_K.moved hW.alike hK, hD⟩, hS.F ht⟩) hS.2.2 dX1_costOf_37
      · replace h := (if_neg c_15).symm.trans h
        refine lv_iconst (v := 2) hx hb dX1_costOf_25 (by decide) ?_
        refine lv_goto (tgt := 30) hx hb dX1_costOf_26 (by decide) ?_
        obtain ⟨r_23, th_24, e_25, h⟩ := bnd2_some h
        refine cl_Vi (As := [.int 2]) (rest := []) (wc := wY cI cJ y0 y1 y2 y3 y4 y5 y6 y7 y8 hs si ag la fo_2 co_3 cv ta rc ec su pe ti mn nu_4 th) (w1 := wY cI cJ y0 y1 y2 y3 y4 y5 y6 y7 y8 hs si ag la fo_2 co_3 cv ta rc ec su pe ti mn nu_4 th_24) (wr := []) ⟨hx, hb, hml, hown, hts⟩ (c_X1_holds l D cI cJ y0 y1 y2 y3 y4 y5 y6 y7 y8 _ hs si ag la fo_2 co_3 cv ta rc ec su pe ti mn nu_4 th 2 r_23 th_24 e_25) (cwV 1 hts gX1_costOf_X1_holds rfl rfl rfl (by decide +kernel) ⟨Nat.le_of_ble_eq_true rfl, Nat.le_of_ble_eq_true rfl⟩) hK hP hD hS hA [0, 1, 2, 3, 4, 5, 6, 7, 8] [] rfl rfl (by decide) (by decide) rfl rfl rfl rfl rfl hl.1 rfl (lv_room (Nat.le_of_ble_eq_true rfl)) dX1_costOf_30 (fun H locs hP hD hS => ?_)
        have hP : va_P D vwCl (wY cI cJ y0 y1 y2 y3 y4 y5 y6 y7 y8 hs si ag la fo_2 co_3 cv ta rc ec su pe ti mn nu_4 th_24) H := hP
        have hD : va_D A (wY cI cJ y0 y1 y2 y3 y4 y5 y6 y7 y8 hs si ag la fo_2 co_3 cv ta rc ec su pe ti mn nu_4 th_24) := hD
        refine lv_if_eq (tgt := 38) hx hb dX1_costOf_33 (by decide) (fun c_26 => ?_) (fun c_26 => ?_)
        · replace h := (if_pos c_26).symm.trans h
          refine lv_aload_n hx hb dX1_costOf_38 rfl (lv_at hl 0 rfl) ?_
          refine lv_iload_n hx hb dX1_costOf_39 rfl (lv_at hl 1 rfl) ?_
          obtain ⟨r_27, cv_28, e_29, h⟩ := bnd2_some h
          refine cl_Vi (As := [.int a1]) (rest := []) (wc := wY cI cJ y0 y1 y2 y3 y4 y5 y6 y7 y8 hs si ag la fo_2 co_3 cv ta rc ec su pe ti mn nu_4 th_24) (w1 := wY cI cJ y0 y1 y2 y3 y4 y5 y6 y7 y8 hs si ag la fo_2 co_3 cv_28 ta rc ec su pe ti mn nu_4 th_24) (wr := []) ⟨hx, hb, hml, hown, hts⟩ (c_X1_price l D cI cJ y0 y1 y2 y3 y4 y5 y6 y7 y8 _ hs si ag la fo_2 co_3 cv ta rc ec su pe ti mn nu_4 th_24 fu a1 r_27 cv_28 e_29) (cwV 1 hts gX1_costOf_X1_price rfl rfl rfl (by decide +kernel) ⟨Nat.le_of_ble_eq_true rfl, Nat.le_of_ble_eq_true rfl⟩) hK hP hD hS hA [0, 1, 2, 3, 4, 5, 6, 7, 8] [] rfl rfl (by decide) (by decide) rfl rfl rfl rfl rfl hl.1 rfl (lv_room (Nat.le_of_ble_eq_true rfl)) dX1_costOf_40 (fun H locs hP hD hS => ?_)
          have hP : va_P D vwCl (wY cI cJ y0 y1 y2 y3 y4 y5 y6 y7 y8 hs si ag la fo_2 co_3 cv_28 ta rc ec su pe ti mn nu_4 th_24) H := hP
          have hD : va_D A (wY cI cJ y0 y1 y2 y3 y4 y5 y6 y7 y8 hs si ag la fo_2 co_3 cv_28 ta rc ec su pe ti mn nu_4 th_24) := hD
          cases h
          exact W.iret hx hb hr (fun t ht hW => ⟨⟨_, (), rfl, rfl, by rw [ht]; exact hP, va_K.moved hW.alike hK, hD⟩, hS.F ht⟩) hS.2.2 dX1_costOf_43
        · replace h := (if_neg c_26).symm.trans h
          refine lv_iconst (v := (-1)) hx hb dX1_costOf_36 (by decide) ?_
          cases h
          exact W.iret hx hb hr (fun t ht hW => ⟨⟨_, (), rfl, rfl, by rw [ht]; exact hP, va_K.moved hW.alike hK, hD⟩, hS.F ht⟩) hS.2.2 dX1_costOf_37
  · replace h := (if_neg c_6).symm.trans h
    refine lv_iconst (v := 1) hx hb dX1_costOf_8 (by decide) ?_
    refine lv_goto (tgt := 30) hx hb dX1_costOf_9 (by decide) ?_
    obtain ⟨r_30, th_31, e_32, h⟩ := bnd2_some h
    refine cl_Vi (As := [.int 1]) (rest := []) (wc := wY cI cJ y0 y1 y2 y3 y4 y5 y6 y7 y8 hs si ag la fo_2 co_3 cv ta rc ec su pe ti mn nu_4 th) (w1 := wY cI cJ y0 y1 y2 y3 y4 y5 y6 y7 y8 hs si ag la fo_2 co_3 cv ta rc ec su pe ti mn nu_4 th_31) (wr := []) ⟨hx, hb, hml, hown, hts⟩ (c_X1_holds l D cI cJ y0 y1 y2 y3 y4 y5 y6 y7 y8 _ hs si ag la fo_2 co_3 cv ta rc ec su pe ti mn nu_4 th 1 r_30 th_31 e_32) (cwV 1 hts gX1_costOf_X1_holds rfl rfl rfl (by decide +kernel) ⟨Nat.le_of_ble_eq_true rfl, Nat.le_of_ble_eq_true rfl⟩) hK hP hD hS hA [0, 1, 2, 3, 4, 5, 6, 7, 8] [] rfl rfl (by decide) (by decide) rfl rfl rfl rfl rfl hl.1 rfl (lv_room (Nat.le_of_ble_eq_true rfl)) dX1_costOf_30 (fun H locs hP hD hS => ?_)
    have hP : va_P D vwCl (wY cI cJ y0 y1 y2 y3 y4 y5 y6 y7 y8 hs si ag la fo_2 co_3 cv ta rc ec su pe ti mn nu_4 th_31) H := hP
    have hD : va_D A (wY cI cJ y0 y1 y2 y3 y4 y5 y6 y7 y8 hs si ag la fo_2 co_3 cv ta rc ec su pe ti mn nu_4 th_31) := hD
    refine lv_if_eq (tgt := 38) hx hb dX1_costOf_33 (by decide) (fun c_33 => ?_) (fun c_33 => ?_)
    · replace h := (if_pos c_33).symm.trans h
      refine lv_aload_n hx hb dX1_costOf_38 rfl (lv_at hl 0 rfl) ?_
      refine lv_iload_n hx hb dX1_costOf_39 rfl (lv_at hl 1 rfl) ?_
      obtain ⟨r_34, cv_35, e_36, h⟩ := bnd2_some h
      refine cl_Vi (As := [.int a1]) (rest := []) (wc := wY cI cJ y0 y1 y2 y3 y4 y5 y6 y7 y8 hs si ag la fo_2 co_3 cv ta rc ec su pe ti mn nu_4 th_31) (w1 := wY cI cJ y0 y1 y2 y3 y4 y5 y6 y7 y8 hs si ag la fo_2 co_3 cv_35 ta rc ec su pe ti mn nu_4 th_31) (wr := []) ⟨hx, hb, hml, hown, hts⟩ (c_X1_price l D cI cJ y0 y1 y2 y3 y4 y5 y6 y7 y8 _ hs si ag la fo_2 co_3 cv ta rc ec su pe ti mn nu_4 th_31 fu a1 r_34 cv_35 e_36) (cwV 1 hts gX1_costOf_X1_price rfl rfl rfl (by decide +kernel) ⟨Nat.le_of_ble_eq_true rfl, Nat.le_of_ble_eq_true rfl⟩) hK hP hD hS hA [0, 1, 2, 3, 4, 5, 6, 7, 8] [] rfl rfl (by decide) (by decide) rfl rfl rfl rfl rfl hl.1 rfl (lv_room (Nat.le_of_ble_eq_true rfl)) dX1_costOf_40 (fun H locs hP hD hS => ?_)
      have hP : va_P D vwCl (wY cI cJ y0 y1 y2 y3 y4 y5 y6 y7 y8 hs si ag la fo_2 co_3 cv_35 ta rc ec su pe ti mn nu_4 th_31) H := hP
      have hD : va_D A (wY cI cJ y0 y1 y2 y3 y4 y5 y6 y7 y8 hs si ag la fo_2 co_3 cv_35 ta rc ec su pe ti mn nu_4 th_31) := hD
      cases h
      exact W.iret hx hb hr (fun t ht hW => ⟨⟨_, (), rfl, rfl, by rw [ht]; exact hP, va_K.moved hW.alike hK, hD⟩, hS.F ht⟩) hS.2.2 dX1_costOf_43
    · replace h := (if_neg c_33).symm.trans h
      refine lv_iconst (v := (-1)) hx hb dX1_costOf_36 (by decide) ?_
      cases h
      exact W.iret hx hb hr (fun t ht hW => ⟨⟨_, (), rfl, rfl, by rw [ht]; exact hP, va_K.moved hW.alike hK, hD⟩, hS.F ht⟩) hS.2.2 dX1_costOf_37
-- X1_leastCost
def m_X1_leastCost_29 (fu : Nat) (hs : Nat → Int32) (ag : Nat → Int32) (rc : Int32) (ec : Int32) (su : Int32) : Nat → Int32 → Int32 → (Nat → Int32) → (Nat → Int32) → (Nat → Int32) → (Int32) → (Int32) → Option ((Int32) × ((Nat → Int32)) × ((Nat → Int32)) × ((Nat → Int32)) × ((Int32)) × ((Int32)))
  | 0, _, _, _, _, _, _, _ => none
  | n + 1, v1, v2, fo, co, cv, nu, th => (if (1 <<< (nu &&& 31)) ≤ v2 then some (v1, fo, co, cv, nu, th) else (bnd2 (m_X1_price fu hs fo cv rc ec nu v2) (fun r_22 cv_23 => (if v1 ≤ r_22 then (m_X1_leastCost_29 fu hs ag rc ec su n v1 (v2 + 1) fo co cv_23 nu th) else (m_X1_leastCost_29 fu hs ag rc ec su n r_22 (v2 + 1) fo co cv_23 nu th)))))
def m_X1_leastCost (fu : Nat) (hs : Nat → Int32) (ag : Nat → Int32) (fo : Nat → Int32) (co : Nat → Int32) (cv : Nat → Int32) (rc : Int32) (ec : Int32) (su : Int32) (nu : Int32) (th : Int32) : Option ((Int32) × ((Nat → Int32)) × ((Nat → Int32)) × ((Nat → Int32)) × ((Int32)) × ((Int32))) := (bnd4 (m_X1_isTooMuch fu hs ag fo co su nu) (fun r_1 fo_2 co_3 nu_4 => (if r_1 = 0 then (bnd2 (m_X1_holds th 0) (fun r_7 th_8 => (if r_7 = 0 then (bnd2 (m_X1_price fu hs fo_2 cv rc ec nu_4 0) (fun r_11 cv_12 => (m_X1_leastCost_29 fu hs ag rc ec su fu r_11 1 fo_2 co_3 cv_12 nu_4 th_8))) else some ((-1), fo_2, co_3, cv, nu_4, th_8)))) else (bnd2 (m_X1_holds th 1) (fun r_14 th_15 => (if r_14 = 0 then (bnd2 (m_X1_price fu hs fo_2 cv rc ec nu_4 0) (fun r_18 cv_19 => (m_X1_leastCost_29 fu hs ag rc ec su fu r_18 1 fo_2 co_3 cv_19 nu_4 th_15))) else some ((-1), fo_2, co_3, cv, nu_4, th_15)))))))
set_option maxHeartbeats 4000000 in
set_option maxRecDepth 100000 in
theorem c_X1_leastCost (l : Launch) (D : va_G) (cI cJ : ClassId) (y0 y1 y2 y3 y4 y5 y6 y7 y8 : Nat) (sz : Nat) (hs : Nat → Int32) (si : Nat → Int32) (ag : Nat → Int32) (la : Nat → Int32) (fo : Nat → Int32) (co : Nat → Int32) (cv : Nat → Int32) (ta : Nat → Int32) (rc : Int32) (ec : Int32) (su : Int32) (pe : Int32) (ti : Int32) (mn : Int32) (nu : Int32) (th : Int32) (fu : Nat) (r0 : Int32) (fo' : Nat → Int32) (co' : Nat → Int32) (cv' : Nat → Int32) (nu' : Int32) (th' : Int32) (h : m_X1_leastCost fu hs ag fo co cv rc ec su nu th = some (r0, fo', co', cv', nu', th')) : Met l yX1_leastCost wsX1_leastCost ({ frames := 4, cells := 0, slots := 0, locals := 88 }) (va_Pc [.ref y0] (bx_Pre D [(cI, .int), (cJ, .long)] (wY cI cJ y0 y1 y2 y3 y4 y5 y6 y7 y8 hs si ag la fo co cv ta rc ec su pe ti mn nu th) sz)) (va_Qi (fun (r : Int32) (_ : Unit) => r = r0) (fun (_ : Unit) t => bx_Post D [(cI, .int), (cJ, .long)] (wY cI cJ y0 y1 y2 y3 y4 y5 y6 y7 y8 hs si ag la fo' co' cv' ta rc ec su pe ti mn nu' th') (va_A (wY cI cJ y0 y1 y2 y3 y4 y5 y6 y7 y8 hs si ag la fo co cv ta rc ec su pe ti mn nu th) sz) t) (va_A (wY cI cJ y0 y1 y2 y3 y4 y5 y6 y7 y8 hs si ag la fo co cv ta rc ec su pe ti mn nu th) sz)) 0 0 (va_A (wY cI cJ y0 y1 y2 y3 y4 y5 y6 y7 y8 hs si ag la fo co cv ta rc ec su pe ti mn nu th) sz) := by
  refine Met.ofW (cc := cX1_leastCost) (maxL := 4) (ret := (some .int)) (by decide) rfl ?_
  intro p e s m args below meth c s₁ B hml hv
  obtain ⟨rfl, hsz, hP, hK, hD0⟩ := hv
  have hx := B.exec
  have hb := B.bytes
  have hr := B.returns
  have hts := atoms_spec (ws := wsX1_leastCost) B.pre
  have hown : s.vm.findClass RX1 = some m.cls := findClass_of_methodNamed B.named
  have hlocks := B.notSynchronized
  subst hsz
  have hD := hD0.self (sz := s.heap.size)
  generalize hAe : va_A (wY cI cJ y0 y1 y2 y3 y4 y5 y6 y7 y8 hs si ag la fo co cv ta rc ec su pe ti mn nu th) s.heap.size = A at hD ⊢
  have hA : ∀ q : Nat, s.heap.size ≤ q → A q := fun q h9 => by rw [← hAe]; exact Or.inr h9
  have hS : va_S A s.heap s.heap [] := va_S.rf
  have hin : ∀ w ∈ wsX10, w ∈ wsX1_leastCost := fun _ h9 => List.mem_cons_of_mem _ (List.mem_append_right _ h9)
  have hw_0 := hts (.fieldLink RX1 86 "RoleMinerModel" "number" "I") (by decide +kernel)
  have hl := lv_entry ([.ref y0]) (n := 4) (Nat.le_of_ble_eq_true rfl)
  rw [lg_entry_eq]
  generalize (lg_sl ([.ref y0]) ++ List.replicate (4 - (lg_sl ([.ref y0])).length) Slot.unset).toArray = ls at hl ⊢
  have hl : lv_has ls 4 [(0, .ref y0)] := hl
  have L29 : ∀ (n : Nat) (v1 : Int32) (v2 : Int32) (fo : Nat → Int32) (co : Nat → Int32) (cv : Nat → Int32) (nu : Int32) (th : Int32) (H : Heap) (locs : List Loc) (ls : Array Slot), m_X1_leastCost_29 fu hs ag rc ec su n v1 v2 fo co cv nu th = some (r0, fo', co', cv', nu', th') → va_P D vwCl (wY cI cJ y0 y1 y2 y3 y4 y5 y6 y7 y8 hs si ag la fo co cv ta rc ec su pe ti mn nu th) H → va_D A (wY cI cJ y0 y1 y2 y3 y4 y5 y6 y7 y8 hs si ag la fo co cv ta rc ec su pe ti mn nu th) → va_S A s.heap H locs → lv_has ls 4 [(0, .ref y0), (1, .int v1), (2, .int v2)] → W p l e (headSpec wsX1_leastCost ({ frames := 4, cells := 0, slots := 0, locals := 88 })).room s m ([.ref y0] : List Value).toArray below meth c H locs 0 0 (MQ below (va_Qi (fun (r : Int32) (_ : Unit) => r = r0) (fun (_ : Unit) t => bx_Post D [(cI, .int), (cJ, .long)] (wY cI cJ y0 y1 y2 y3 y4 y5 y6 y7 y8 hs si ag la fo' co' cv' ta rc ec su pe ti mn nu' th') A t) A) ([.ref y0] : List Value).toArray s 0 0 A) (F0 m 29 ls []) := by
    intro n
    induction n with
    | zero =>
      intro v1 v2 fo co cv nu th H locs ls h
      rw [m_X1_leastCost_29] at h
      cases h
    | succ n ih =>
      intro v1 v2 fo co cv nu th H locs ls h hP hD hS hl
      rw [m_X1_leastCost_29] at h
      refine lv_iload_n hx hb dX1_leastCost_29 rfl (lv_at hl 2 rfl) ?_
      refine lv_iconst (v := 1) hx hb dX1_leastCost_30 (by decide) ?_
      refine lv_aload_n hx hb dX1_leastCost_31 rfl (lv_at hl 0 rfl) ?_
      refine va_get (D := D) (ci := 1) (v := .int nu) (C := RX1) (T := TX1) (N := 16) hx hb hts hin hown hK hP 0 rfl rfl 14 (by decide) hw_0 (fun _ h9 => h9) rfl dX1_leastCost_32 ?_
      refine lv_ishl hx hb dX1_leastCost_35 ?_
      refine lv_icmp_ge (tgt := 62) hx hb dX1_leastCost_36 (by decide) (fun c_21 => ?_) (fun c_21 => ?_)
      · replace h := (if_pos c_21).symm.trans h
        refine lv_iload_n hx hb dX1_leastCost_62 rfl (lv_at hl 1 rfl) ?_
        cases h
        exact W.iret hx hb hr (fun t ht hW => ⟨⟨_, (), rfl, rfl, by rw [ht]; exact hP, va_K.moved hW.alike hK, hD⟩, hS.F ht⟩) hS.2.2 dX1_leastCost_63
      · replace h := (if_neg c_21).symm.trans h
        refine lv_aload_n hx hb dX1_leastCost_39 rfl (lv_at hl 0 rfl) ?_
        refine lv_iload_n hx hb dX1_leastCost_40 rfl (lv_at hl 2 rfl) ?_
        obtain ⟨r_22, cv_23, e_24, h⟩ := bnd2_some h
        refine cl_Vi (As := [.int v2]) (rest := []) (wc := wY cI cJ y0 y1 y2 y3 y4 y5 y6 y7 y8 hs si ag la fo co cv ta rc ec su pe ti mn nu th) (w1 := wY cI cJ y0 y1 y2 y3 y4 y5 y6 y7 y8 hs si ag la fo co cv_23 ta rc ec su pe ti mn nu th) (wr := []) ⟨hx, hb, hml, hown, hts⟩ (c_X1_price l D cI cJ y0 y1 y2 y3 y4 y5 y6 y7 y8 _ hs si ag la fo co cv ta rc ec su pe ti mn nu th fu v2 r_22 cv_23 e_24) (cwV 1 hts gX1_leastCost_X1_price rfl rfl rfl (by decide +kernel) ⟨Nat.le_of_ble_eq_true rfl, Nat.le_of_ble_eq_true rfl⟩) hK hP hD hS hA [0, 1, 2, 3, 4, 5, 6, 7, 8] [] rfl rfl (by decide) (by decide) rfl rfl rfl rfl rfl hl.1 rfl (lv_room (Nat.le_of_ble_eq_true rfl)) dX1_leastCost_41 (fun H locs hP hD hS => ?_)
        have hP : va_P D vwCl (wY cI cJ y0 y1 y2 y3 y4 y5 y6 y7 y8 hs si ag la fo co cv_23 ta rc ec su pe ti mn nu th) H := hP
        have hD : va_D A (wY cI cJ y0 y1 y2 y3 y4 y5 y6 y7 y8 hs si ag la fo co cv_23 ta rc ec su pe ti mn nu th) := hD
        refine lv_istore_n (lv' := [(3, .int r_22), (0, .ref y0), (1, .int v1), (2, .int v2)]) hx hb dX1_leastCost_44 rfl hl (by decide) rfl (fun ls hl => ?_)
        refine lv_iload_n hx hb dX1_leastCost_45 rfl (lv_at hl 0 rfl) ?_
        refine lv_iload_n hx hb dX1_leastCost_46 rfl (lv_at hl 2 rfl) ?_
        refine lv_icmp_ge (tgt := 54) hx hb dX1_leastCost_47 (by decide) (fun c_25 => ?_) (fun c_25 => ?_)
        · replace h := (if_pos c_25).symm.trans h
          refine lv_iload_n hx hb dX1_leastCost_54 rfl (lv_at hl 2 rfl) ?_
          refine lv_istore_n (lv' := [(1, .int v1), (3, .int r_22), (0, .ref y0), (2, .int v2)]) hx hb dX1_leastCost_55 rfl hl (by decide) rfl (fun ls hl => ?_)
          refine lv_iinc (v := (v2 + 1)) (lv' := [(2, .int (v2 + 1)), (1, .int v1), (3, .int r_22), (0, .ref y0)]) hx hb dX1_leastCost_56 hl (k := 3) rfl rfl (by decide) rfl (fun ls hl => ?_)
          refine lv_goto (tgt := 29) hx hb dX1_leastCost_59 (by decide) ?_
          exact ih v1 (v2 + 1) fo co cv_23 nu th _ _ _ h hP hD hS (lv_sub hl [3, 1, 0] rfl)
        · replace h := (if_neg c_25).symm.trans h
          refine lv_iload_n hx hb dX1_leastCost_50 rfl (lv_at hl 0 rfl) ?_
          refine lv_goto (tgt := 55) hx hb dX1_leastCost_51 (by decide) ?_
          refine lv_istore_n (lv' := [(1, .int r_22), (3, .int r_22), (0, .ref y0), (2, .int v2)]) hx hb dX1_leastCost_55 rfl hl (by decide) rfl (fun ls hl => ?_)
          refine lv_iinc (v := (v2 + 1)) (lv' := [(2, .int (v2 + 1)), (1, .int r_22), (3, .int r_22), (0, .ref y0)]) hx hb dX1_leastCost_56 hl (k := 3) rfl rfl (by decide) rfl (fun ls hl => ?_)
          refine lv_goto (tgt := 29) hx hb dX1_leastCost_59 (by decide) ?_
          exact ih r_22 (v2 + 1) fo co cv_23 nu th _ _ _ h hP hD hS (lv_sub hl [3, 1, 0] rfl)
  rw [m_X1_leastCost] at h
  refine lv_aload_n hx hb dX1_leastCost_0 rfl (lv_at hl 0 rfl) ?_
  refine lv_aload_n hx hb dX1_leastCost_1 rfl (lv_at hl 0 rfl) ?_
  obtain ⟨r_1, fo_2, co_3, nu_4, e_5, h⟩ := bnd4_some h
  refine cl_Vi (As := []) (rest := [.ref y0]) (wc := wY cI cJ y0 y1 y2 y3 y4 y5 y6 y7 y8 hs si ag la fo co cv ta rc ec su pe ti mn nu th) (w1 := wY cI cJ y0 y1 y2 y3 y4 y5 y6 y7 y8 hs si ag la fo_2 co_3 cv ta rc ec su pe ti mn nu_4 th) (wr := []) ⟨hx, hb, hml, hown, hts⟩ (c_X1_isTooMuch l D cI cJ y0 y1 y2 y3 y4 y5 y6 y7 y8 _ hs si ag la fo co cv ta rc ec su pe ti mn nu th fu  r_1 fo_2 co_3 nu_4 e_5) (cwV 0 hts gX1_leastCost_X1_isTooMuch rfl rfl rfl (by decide +kernel) ⟨Nat.le_of_ble_eq_true rfl, Nat.le_of_ble_eq_true rfl⟩) hK hP hD hS hA [0, 1, 2, 3, 4, 5, 6, 7, 8] [] rfl rfl (by decide) (by decide) rfl rfl rfl rfl rfl hl.1 rfl (lv_room (Nat.le_of_ble_eq_true rfl)) dX1_leastCost_2 (fun H locs hP hD hS => ?_)
  have hP : va_P D vwCl (wY cI cJ y0 y1 y2 y3 y4 y5 y6 y7 y8 hs si ag la fo_2 co_3 cv ta rc ec su pe ti mn nu_4 th) H := hP
  have hD : va_D A (wY cI cJ y0 y1 y2 y3 y4 y5 y6 y7 y8 hs si ag la fo_2 co_3 cv ta rc ec su pe ti mn nu_4 th) := hD
  refine lv_if_eq (tgt := 12) hx hb dX1_leastCost_5 (by decide) (fun c_6 => ?_) (fun c_6 => ?_)
  · replace h := (if_pos c_6).symm.trans h
    refine lv_iconst (v := 0) hx hb dX1_leastCost_12 (by decide) ?_
    obtain ⟨r_7, th_8, e_9, h⟩ := bnd2_some h
    refine cl_Vi (As := [.int 0]) (rest := []) (wc := wY cI cJ y0 y1 y2 y3 y4 y5 y6 y7 y8 hs si ag la fo_2 co_3 cv ta rc ec su pe ti mn nu_4 th) (w1 := wY cI cJ y0 y1 y2 y3 y4 y5 y6 y7 y8 hs si ag la fo_2 co_3 cv ta rc ec su pe ti mn nu_4 th_8) (wr := []) ⟨hx, hb, hml, hown, hts⟩ (c_X1_holds l D cI cJ y0 y1 y2 y3 y4 y5 y6 y7 y8 _ hs si ag la fo_2 co_3 cv ta rc ec su pe ti mn nu_4 th 0 r_7 th_8 e_9) (cwV 1 hts gX1_leastCost_X1_holds rfl rfl rfl (by decide +kernel) ⟨Nat.le_of_ble_eq_true rfl, Nat.le_of_ble_eq_true rfl⟩) hK hP hD hS hA [0, 1, 2, 3, 4, 5, 6, 7, 8] [] rfl rfl (by decide) (by decide) rfl rfl rfl rfl rfl hl.1 rfl (lv_room (Nat.le_of_ble_eq_true rfl)) dX1_leastCost_13 (fun H locs hP hD hS => ?_)
    have hP : va_P D vwCl (wY cI cJ y0 y1 y2 y3 y4 y5 y6 y7 y8 hs si ag la fo_2 co_3 cv ta rc ec su pe ti mn nu_4 th_8) H := hP
    have hD : va_D A (wY cI cJ y0 y1 y2 y3 y4 y5 y6 y7 y8 hs si ag la fo_2 co_3 cv ta rc ec su pe ti mn nu_4 th_8) := hD
    refine lv_if_eq (tgt := 21) hx hb dX1_leastCost_16 (by decide) (fun c_10 => ?_) (fun c_10 => ?_)
    · replace h := (if_pos c_10).symm.trans h
      refine lv_aload_n hx hb dX1_leastCost_21 rfl (lv_at hl 0 rfl) ?_
      refine lv_iconst (v := 0) hx hb dX1_leastCost_22 (by decide) ?_
      obtain ⟨r_11, cv_12, e_13, h⟩ := bnd2_some h
      refine cl_Vi (As := [.int 0]) (rest := []) (wc := wY cI cJ y0 y1 y2 y3 y4 y5 y6 y7 y8 hs si ag la fo_2 co_3 cv ta rc ec su pe ti mn nu_4 th_8) (w1 := wY cI cJ y0 y1 y2 y3 y4 y5 y6 y7 y8 hs si ag la fo_2 co_3 cv_12 ta rc ec su pe ti mn nu_4 th_8) (wr := []) ⟨hx, hb, hml, hown, hts⟩ (c_X1_price l D cI cJ y0 y1 y2 y3 y4 y5 y6 y7 y8 _ hs si ag la fo_2 co_3 cv ta rc ec su pe ti mn nu_4 th_8 fu 0 r_11 cv_12 e_13) (cwV 1 hts gX1_leastCost_X1_price rfl rfl rfl (by decide +kernel) ⟨Nat.le_of_ble_eq_true rfl, Nat.le_of_ble_eq_true rfl⟩) hK hP hD hS hA [0, 1, 2, 3, 4, 5, 6, 7, 8] [] rfl rfl (by decide) (by decide) rfl rfl rfl rfl rfl hl.1 rfl (lv_room (Nat.le_of_ble_eq_true rfl)) dX1_leastCost_23 (fun H locs hP hD hS => ?_)
      have hP : va_P D vwCl (wY cI cJ y0 y1 y2 y3 y4 y5 y6 y7 y8 hs si ag la fo_2 co_3 cv_12 ta rc ec su pe ti mn nu_4 th_8) H := hP
      have hD : va_D A (wY cI cJ y0 y1 y2 y3 y4 y5 y6 y7 y8 hs si ag la fo_2 co_3 cv_12 ta rc ec su pe ti mn nu_4 th_8) := hD
      refine lv_istore_n (lv' := [(1, .int r_11), (0, .ref y0)]) hx hb dX1_leastCost_26 rfl hl (by decide) rfl (fun ls hl => ?_)
      refine lv_iconst (v := 1) hx hb dX1_leastCost_27 (by decide) ?_
      refine lv_istore_n (lv' := [(2, .int 1), (1, .int r_11), (0, .ref y0)]) hx hb dX1_leastCost_28 rfl hl (by decide) rfl (fun ls hl => ?_)
      exact L29 fu r_11 1 fo_2 co_3 cv_12 nu_4 th_8 _ _ _ h hP hD hS (lv_sub hl [2, 1, 0] rfl)
    · replace h := (if_neg c_10).symm.trans h
      refine lv_iconst (v := (-1)) hx hb dX1_leastCost_19 (by decide) ?_
      cases h
      exact W.iret hx hb hr (fun t ht hW => ⟨⟨_, (), rfl, rfl, by rw [ht]; exact hP, va_K.moved hW.alike hK, hD⟩, hS.F ht⟩) hS.2.2 dX1_leastCost_20
  · replace h := (if_neg c_6).symm.trans h
    refine lv_iconst (v := 1) hx hb dX1_leastCost_8 (by decide) ?_
    refine lv_goto (tgt := 13) hx hb dX1_leastCost_9 (by decide) ?_
    obtain ⟨r_14, th_15, e_16, h⟩ := bnd2_some h
    refine cl_Vi (As := [.int 1]) (rest := []) (wc := wY cI cJ y0 y1 y2 y3 y4 y5 y6 y7 y8 hs si ag la fo_2 co_3 cv ta rc ec su pe ti mn nu_4 th) (w1 := wY cI cJ y0 y1 y2 y3 y4 y5 y6 y7 y8 hs si ag la fo_2 co_3 cv ta rc ec su pe ti mn nu_4 th_15) (wr := []) ⟨hx, hb, hml, hown, hts⟩ (c_X1_holds l D cI cJ y0 y1 y2 y3 y4 y5 y6 y7 y8 _ hs si ag la fo_2 co_3 cv ta rc ec su pe ti mn nu_4 th 1 r_14 th_15 e_16) (cwV 1 hts gX1_leastCost_X1_holds rfl rfl rfl (by decide +kernel) ⟨Nat.le_of_ble_eq_true rfl, Nat.le_of_ble_eq_true rfl⟩) hK hP hD hS hA [0, 1, 2, 3, 4, 5, 6, 7, 8] [] rfl rfl (by decide) (by decide) rfl rfl rfl rfl rfl hl.1 rfl (lv_room (Nat.le_of_ble_eq_true rfl)) dX1_leastCost_13 (fun H locs hP hD hS => ?_)
    have hP : va_P D vwCl (wY cI cJ y0 y1 y2 y3 y4 y5 y6 y7 y8 hs si ag la fo_2 co_3 cv ta rc ec su pe ti mn nu_4 th_15) H := hP
    have hD : va_D A (wY cI cJ y0 y1 y2 y3 y4 y5 y6 y7 y8 hs si ag la fo_2 co_3 cv ta rc ec su pe ti mn nu_4 th_15) := hD
    refine lv_if_eq (tgt := 21) hx hb dX1_leastCost_16 (by decide) (fun c_17 => ?_) (fun c_17 => ?_)
    · replace h := (if_pos c_17).symm.trans h
      refine lv_aload_n hx hb dX1_leastCost_21 rfl (lv_at hl 0 rfl) ?_
      refine lv_iconst (v := 0) hx hb dX1_leastCost_22 (by decide) ?_
      obtain ⟨r_18, cv_19, e_20, h⟩ := bnd2_some h
      refine cl_Vi (As := [.int 0]) (rest := []) (wc := wY cI cJ y0 y1 y2 y3 y4 y5 y6 y7 y8 hs si ag la fo_2 co_3 cv ta rc ec su pe ti mn nu_4 th_15) (w1 := wY cI cJ y0 y1 y2 y3 y4 y5 y6 y7 y8 hs si ag la fo_2 co_3 cv_19 ta rc ec su pe ti mn nu_4 th_15) (wr := []) ⟨hx, hb, hml, hown, hts⟩ (c_X1_price l D cI cJ y0 y1 y2 y3 y4 y5 y6 y7 y8 _ hs si ag la fo_2 co_3 cv ta rc ec su pe ti mn nu_4 th_15 fu 0 r_18 cv_19 e_20) (cwV 1 hts gX1_leastCost_X1_price rfl rfl rfl (by decide +kernel) ⟨Nat.le_of_ble_eq_true rfl, Nat.le_of_ble_eq_true rfl⟩) hK hP hD hS hA [0, 1, 2, 3, 4, 5, 6, 7, 8] [] rfl rfl (by decide) (by decide) rfl rfl rfl rfl rfl hl.1 rfl (lv_room (Nat.le_of_ble_eq_true rfl)) dX1_leastCost_23 (fun H locs hP hD hS => ?_)
      have hP : va_P D vwCl (wY cI cJ y0 y1 y2 y3 y4 y5 y6 y7 y8 hs si ag la fo_2 co_3 cv_19 ta rc ec su pe ti mn nu_4 th_15) H := hP
      have hD : va_D A (wY cI cJ y0 y1 y2 y3 y4 y5 y6 y7 y8 hs si ag la fo_2 co_3 cv_19 ta rc ec su pe ti mn nu_4 th_15) := hD
      refine lv_istore_n (lv' := [(1, .int r_18), (0, .ref y0)]) hx hb dX1_leastCost_26 rfl hl (by decide) rfl (fun ls hl => ?_)
      refine lv_iconst (v := 1) hx hb dX1_leastCost_27 (by decide) ?_
      refine lv_istore_n (lv' := [(2, .int 1), (1, .int r_18), (0, .ref y0)]) hx hb dX1_leastCost_28 rfl hl (by decide) rfl (fun ls hl => ?_)
      exact L29 fu r_18 1 fo_2 co_3 cv_19 nu_4 th_15 _ _ _ h hP hD hS (lv_sub hl [2, 1, 0] rfl)
    · replace h := (if_neg c_17).symm.trans h
      refine lv_iconst (v := (-1)) hx hb dX1_leastCost_19 (by decide) ?_
      cases h
      exact W.iret hx hb hr (fun t ht hW => ⟨⟨_, (), rfl, rfl, by rw [ht]; exact hP, va_K.moved hW.alike hK, hD⟩, hS.F ht⟩) hS.2.2 dX1_leastCost_20
-- X1_isRole
def m_X1_isRole (mn : Int32) (a1 : Int32) : (Int32) := (m_X1_between a1 0 (mn - 1))
theorem nb_X1_isRole (mn : Int32) (a1 : Int32) : narrow .boolean (.int (m_X1_isRole mn a1)) = .int (m_X1_isRole mn a1) := by
  rw [m_X1_isRole]; exact nb_X1_between ..
set_option maxHeartbeats 4000000 in
set_option maxRecDepth 100000 in
theorem c_X1_isRole (l : Launch) (D : va_G) (cI cJ : ClassId) (y0 y1 y2 y3 y4 y5 y6 y7 y8 : Nat) (sz : Nat) (hs : Nat → Int32) (si : Nat → Int32) (ag : Nat → Int32) (la : Nat → Int32) (fo : Nat → Int32) (co : Nat → Int32) (cv : Nat → Int32) (ta : Nat → Int32) (rc : Int32) (ec : Int32) (su : Int32) (pe : Int32) (ti : Int32) (mn : Int32) (nu : Int32) (th : Int32) (a1 : Int32) : Met l yX1_isRole wsX1_isRole ({ frames := 1, cells := 0, slots := 0, locals := 23 }) (va_Pc [.ref y0, .int a1] (bx_Pre D [(cI, .int), (cJ, .long)] (wY cI cJ y0 y1 y2 y3 y4 y5 y6 y7 y8 hs si ag la fo co cv ta rc ec su pe ti mn nu th) sz)) (va_Qi (fun (r : Int32) (_ : Unit) => r = m_X1_isRole mn a1) (fun (_ : Unit) t => bx_Post D [(cI, .int), (cJ, .long)] (wY cI cJ y0 y1 y2 y3 y4 y5 y6 y7 y8 hs si ag la fo co cv ta rc ec su pe ti mn nu th) (va_A (wY cI cJ y0 y1 y2 y3 y4 y5 y6 y7 y8 hs si ag la fo co cv ta rc ec su pe ti mn nu th) sz) t) (va_A (wY cI cJ y0 y1 y2 y3 y4 y5 y6 y7 y8 hs si ag la fo co cv ta rc ec su pe ti mn nu th) sz)) 0 0 (va_A (wY cI cJ y0 y1 y2 y3 y4 y5 y6 y7 y8 hs si ag la fo co cv ta rc ec su pe ti mn nu th) sz) := by
  refine Met.ofW (cc := cX1_isRole) (maxL := 2) (ret := (some .boolean)) (by decide) rfl ?_
  intro p e s m args below meth c s₁ B hml hv
  obtain ⟨rfl, hsz, hP, hK, hD0⟩ := hv
  have hx := B.exec
  have hb := B.bytes
  have hr := B.returns
  have hts := atoms_spec (ws := wsX1_isRole) B.pre
  have hown : s.vm.findClass RX1 = some m.cls := findClass_of_methodNamed B.named
  have hlocks := B.notSynchronized
  subst hsz
  have hD := hD0.self (sz := s.heap.size)
  generalize hAe : va_A (wY cI cJ y0 y1 y2 y3 y4 y5 y6 y7 y8 hs si ag la fo co cv ta rc ec su pe ti mn nu th) s.heap.size = A at hD ⊢
  have hA : ∀ q : Nat, s.heap.size ≤ q → A q := fun q h9 => by rw [← hAe]; exact Or.inr h9
  have hS : va_S A s.heap s.heap [] := va_S.rf
  have hin : ∀ w ∈ wsX10, w ∈ wsX1_isRole := fun _ h9 => List.mem_cons_of_mem _ (List.mem_append_right _ h9)
  have hw_0 := hts (.fieldLink RX1 112 "RoleMinerModel" "many" "I") (by decide +kernel)
  have hl := lv_entry ([.ref y0, .int a1]) (n := 2) (Nat.le_of_ble_eq_true rfl)
  rw [lg_entry_eq]
  generalize (lg_sl ([.ref y0, .int a1]) ++ List.replicate (2 - (lg_sl ([.ref y0, .int a1])).length) Slot.unset).toArray = ls at hl ⊢
  have hl : lv_has ls 2 [(0, .ref y0), (1, .int a1)] := hl
  refine lv_aload_n hx hb dX1_isRole_0 rfl (lv_at hl 0 rfl) ?_
  refine lv_iload_n hx hb dX1_isRole_1 rfl (lv_at hl 1 rfl) ?_
  refine lv_iconst (v := 0) hx hb dX1_isRole_2 (by decide) ?_
  refine lv_aload_n hx hb dX1_isRole_3 rfl (lv_at hl 0 rfl) ?_
  refine va_get (D := D) (ci := 1) (v := .int mn) (C := RX1) (T := TX1) (N := 16) hx hb hts hin hown hK hP 0 rfl rfl 13 (by decide) hw_0 (fun _ h9 => h9) rfl dX1_isRole_4 ?_
  refine lv_iconst (v := 1) hx hb dX1_isRole_7 (by decide) ?_
  refine lv_isub hx hb dX1_isRole_8 ?_
  refine cl_Vi (As := [.int a1, .int 0, .int (mn - 1)]) (rest := []) (wc := wY cI cJ y0 y1 y2 y3 y4 y5 y6 y7 y8 hs si ag la fo co cv ta rc ec su pe ti mn nu th) (w1 := wY cI cJ y0 y1 y2 y3 y4 y5 y6 y7 y8 hs si ag la fo co cv ta rc ec su pe ti mn nu th) (wr := []) ⟨hx, hb, hml, hown, hts⟩ (c_X1_between l D cI cJ y0 y1 y2 y3 y4 y5 y6 y7 y8 _ hs si ag la fo co cv ta rc ec su pe ti mn nu th a1 0 (mn - 1)) (cwV 3 hts gX1_isRole_X1_between rfl rfl rfl (by decide +kernel) ⟨Nat.le_of_ble_eq_true rfl, Nat.le_of_ble_eq_true rfl⟩) hK hP hD hS hA [0, 1, 2, 3, 4, 5, 6, 7, 8] [] rfl rfl (by decide) (by decide) rfl rfl rfl rfl rfl hl.1 rfl (lv_room (Nat.le_of_ble_eq_true rfl)) dX1_isRole_9 (fun H locs hP hD hS => ?_)
  have hP : va_P D vwCl (wY cI cJ y0 y1 y2 y3 y4 y5 y6 y7 y8 hs si ag la fo co cv ta rc ec su pe ti mn nu th) H := hP
  have hD : va_D A (wY cI cJ y0 y1 y2 y3 y4 y5 y6 y7 y8 hs si ag la fo co cv ta rc ec su pe ti mn nu th) := hD
  exact W.zret hx hb hr (nb_X1_between ..) (fun t ht hW => ⟨⟨_, (), rfl, (by rw [m_X1_isRole]), by rw [ht]; exact hP, va_K.moved hW.alike hK, hD⟩, hS.F ht⟩) hS.2.2 dX1_isRole_12
-- X1_roles
def m_X1_roles (mn : Int32) (th : Int32) : Option ((Int32) × ((Int32))) := (bnd2 (m_X1_plain th mn) (fun r_1 th_2 => some (r_1, th_2)))
set_option maxHeartbeats 4000000 in
set_option maxRecDepth 100000 in
theorem c_X1_roles (l : Launch) (D : va_G) (cI cJ : ClassId) (y0 y1 y2 y3 y4 y5 y6 y7 y8 : Nat) (sz : Nat) (hs : Nat → Int32) (si : Nat → Int32) (ag : Nat → Int32) (la : Nat → Int32) (fo : Nat → Int32) (co : Nat → Int32) (cv : Nat → Int32) (ta : Nat → Int32) (rc : Int32) (ec : Int32) (su : Int32) (pe : Int32) (ti : Int32) (mn : Int32) (nu : Int32) (th : Int32) (r0 : Int32) (th' : Int32) (h : m_X1_roles mn th = some (r0, th')) : Met l yX1_roles wsX1_roles ({ frames := 1, cells := 0, slots := 0, locals := 21 }) (va_Pc [.ref y0] (bx_Pre D [(cI, .int), (cJ, .long)] (wY cI cJ y0 y1 y2 y3 y4 y5 y6 y7 y8 hs si ag la fo co cv ta rc ec su pe ti mn nu th) sz)) (va_Qi (fun (r : Int32) (_ : Unit) => r = r0) (fun (_ : Unit) t => bx_Post D [(cI, .int), (cJ, .long)] (wY cI cJ y0 y1 y2 y3 y4 y5 y6 y7 y8 hs si ag la fo co cv ta rc ec su pe ti mn nu th') (va_A (wY cI cJ y0 y1 y2 y3 y4 y5 y6 y7 y8 hs si ag la fo co cv ta rc ec su pe ti mn nu th) sz) t) (va_A (wY cI cJ y0 y1 y2 y3 y4 y5 y6 y7 y8 hs si ag la fo co cv ta rc ec su pe ti mn nu th) sz)) 0 0 (va_A (wY cI cJ y0 y1 y2 y3 y4 y5 y6 y7 y8 hs si ag la fo co cv ta rc ec su pe ti mn nu th) sz) := by
  refine Met.ofW (cc := cX1_roles) (maxL := 1) (ret := (some .int)) (by decide) rfl ?_
  intro p e s m args below meth c s₁ B hml hv
  obtain ⟨rfl, hsz, hP, hK, hD0⟩ := hv
  have hx := B.exec
  have hb := B.bytes
  have hr := B.returns
  have hts := atoms_spec (ws := wsX1_roles) B.pre
  have hown : s.vm.findClass RX1 = some m.cls := findClass_of_methodNamed B.named
  have hlocks := B.notSynchronized
  subst hsz
  have hD := hD0.self (sz := s.heap.size)
  generalize hAe : va_A (wY cI cJ y0 y1 y2 y3 y4 y5 y6 y7 y8 hs si ag la fo co cv ta rc ec su pe ti mn nu th) s.heap.size = A at hD ⊢
  have hA : ∀ q : Nat, s.heap.size ≤ q → A q := fun q h9 => by rw [← hAe]; exact Or.inr h9
  have hS : va_S A s.heap s.heap [] := va_S.rf
  have hin : ∀ w ∈ wsX10, w ∈ wsX1_roles := fun _ h9 => List.mem_cons_of_mem _ (List.mem_append_right _ h9)
  have hw_0 := hts (.fieldLink RX1 112 "RoleMinerModel" "many" "I") (by decide +kernel)
  have hl := lv_entry ([.ref y0]) (n := 1) (Nat.le_of_ble_eq_true rfl)
  rw [lg_entry_eq]
  generalize (lg_sl ([.ref y0]) ++ List.replicate (1 - (lg_sl ([.ref y0])).length) Slot.unset).toArray = ls at hl ⊢
  have hl : lv_has ls 1 [(0, .ref y0)] := hl
  rw [m_X1_roles] at h
  refine lv_aload_n hx hb dX1_roles_0 rfl (lv_at hl 0 rfl) ?_
  refine lv_aload_n hx hb dX1_roles_1 rfl (lv_at hl 0 rfl) ?_
  refine va_get (D := D) (ci := 1) (v := .int mn) (C := RX1) (T := TX1) (N := 16) hx hb hts hin hown hK hP 0 rfl rfl 13 (by decide) hw_0 (fun _ h9 => h9) rfl dX1_roles_2 ?_
  obtain ⟨r_1, th_2, e_3, h⟩ := bnd2_some h
  refine cl_Vi (As := [.int mn]) (rest := []) (wc := wY cI cJ y0 y1 y2 y3 y4 y5 y6 y7 y8 hs si ag la fo co cv ta rc ec su pe ti mn nu th) (w1 := wY cI cJ y0 y1 y2 y3 y4 y5 y6 y7 y8 hs si ag la fo co cv ta rc ec su pe ti mn nu th_2) (wr := []) ⟨hx, hb, hml, hown, hts⟩ (c_X1_plain l D cI cJ y0 y1 y2 y3 y4 y5 y6 y7 y8 _ hs si ag la fo co cv ta rc ec su pe ti mn nu th mn r_1 th_2 e_3) (cwV 1 hts gX1_roles_X1_plain rfl rfl rfl (by decide +kernel) ⟨Nat.le_of_ble_eq_true rfl, Nat.le_of_ble_eq_true rfl⟩) hK hP hD hS hA [0, 1, 2, 3, 4, 5, 6, 7, 8] [] rfl rfl (by decide) (by decide) rfl rfl rfl rfl rfl hl.1 rfl (lv_room (Nat.le_of_ble_eq_true rfl)) dX1_roles_5 (fun H locs hP hD hS => ?_)
  have hP : va_P D vwCl (wY cI cJ y0 y1 y2 y3 y4 y5 y6 y7 y8 hs si ag la fo co cv ta rc ec su pe ti mn nu th_2) H := hP
  have hD : va_D A (wY cI cJ y0 y1 y2 y3 y4 y5 y6 y7 y8 hs si ag la fo co cv ta rc ec su pe ti mn nu th_2) := hD
  cases h
  exact W.iret hx hb hr (fun t ht hW => ⟨⟨_, (), rfl, rfl, by rw [ht]; exact hP, va_K.moved hW.alike hK, hD⟩, hS.F ht⟩) hS.2.2 dX1_roles_8
-- X1_role
def m_X1_role (la : Nat → Int32) (mn : Int32) (th : Int32) (a1 : Int32) : Option ((Int32) × ((Int32))) := (if (m_X1_isRole mn a1) = 0 then (bnd2 (m_X1_holds th 1) (fun r_2 th_3 => (if r_2 = 0 then (ix a1 256 (some ((la (Int32.toNatClampNeg a1)), th_3))) else some ((-1), th_3)))) else (bnd2 (m_X1_holds th 0) (fun r_7 th_8 => (if r_7 = 0 then (ix a1 256 (some ((la (Int32.toNatClampNeg a1)), th_8))) else some ((-1), th_8)))))
set_option maxHeartbeats 4000000 in
set_option maxRecDepth 100000 in
theorem c_X1_role (l : Launch) (D : va_G) (cI cJ : ClassId) (y0 y1 y2 y3 y4 y5 y6 y7 y8 : Nat) (sz : Nat) (hs : Nat → Int32) (si : Nat → Int32) (ag : Nat → Int32) (la : Nat → Int32) (fo : Nat → Int32) (co : Nat → Int32) (cv : Nat → Int32) (ta : Nat → Int32) (rc : Int32) (ec : Int32) (su : Int32) (pe : Int32) (ti : Int32) (mn : Int32) (nu : Int32) (th : Int32) (a1 : Int32) (r0 : Int32) (th' : Int32) (h : m_X1_role la mn th a1 = some (r0, th')) : Met l yX1_role wsX1_role ({ frames := 2, cells := 0, slots := 0, locals := 44 }) (va_Pc [.ref y0, .int a1] (bx_Pre D [(cI, .int), (cJ, .long)] (wY cI cJ y0 y1 y2 y3 y4 y5 y6 y7 y8 hs si ag la fo co cv ta rc ec su pe ti mn nu th) sz)) (va_Qi (fun (r : Int32) (_ : Unit) => r = r0) (fun (_ : Unit) t => bx_Post D [(cI, .int), (cJ, .long)] (wY cI cJ y0 y1 y2 y3 y4 y5 y6 y7 y8 hs si ag la fo co cv ta rc ec su pe ti mn nu th') (va_A (wY cI cJ y0 y1 y2 y3 y4 y5 y6 y7 y8 hs si ag la fo co cv ta rc ec su pe ti mn nu th) sz) t) (va_A (wY cI cJ y0 y1 y2 y3 y4 y5 y6 y7 y8 hs si ag la fo co cv ta rc ec su pe ti mn nu th) sz)) 0 0 (va_A (wY cI cJ y0 y1 y2 y3 y4 y5 y6 y7 y8 hs si ag la fo co cv ta rc ec su pe ti mn nu th) sz) := by
  refine Met.ofW (cc := cX1_role) (maxL := 2) (ret := (some .int)) (by decide) rfl ?_
  intro p e s m args below meth c s₁ B hml hv
  obtain ⟨rfl, hsz, hP, hK, hD0⟩ := hv
  have hx := B.exec
  have hb := B.bytes
  have hr := B.returns
  have hts := atoms_spec (ws := wsX1_role) B.pre
  have hown : s.vm.findClass RX1 = some m.cls := findClass_of_methodNamed B.named
  have hlocks := B.notSynchronized
  subst hsz
  have hD := hD0.self (sz := s.heap.size)
  generalize hAe : va_A (wY cI cJ y0 y1 y2 y3 y4 y5 y6 y7 y8 hs si ag la fo co cv ta rc ec su pe ti mn nu th) s.heap.size = A at hD ⊢
  have hA : ∀ q : Nat, s.heap.size ≤ q → A q := fun q h9 => by rw [← hAe]; exact Or.inr h9
  have hS : va_S A s.heap s.heap [] := va_S.rf
  have hin : ∀ w ∈ wsX10, w ∈ wsX1_role := fun _ h9 => List.mem_cons_of_mem _ (List.mem_append_right _ h9)
  have hw_0 := hts (.fieldLink RX1 19 "RoleMinerModel" "laid" "[I") (by decide +kernel)
  have hl := lv_entry ([.ref y0, .int a1]) (n := 2) (Nat.le_of_ble_eq_true rfl)
  rw [lg_entry_eq]
  generalize (lg_sl ([.ref y0, .int a1]) ++ List.replicate (2 - (lg_sl ([.ref y0, .int a1])).length) Slot.unset).toArray = ls at hl ⊢
  have hl : lv_has ls 2 [(0, .ref y0), (1, .int a1)] := hl
  rw [m_X1_role] at h
  refine lv_aload_n hx hb dX1_role_0 rfl (lv_at hl 0 rfl) ?_
  refine lv_aload_n hx hb dX1_role_1 rfl (lv_at hl 0 rfl) ?_
  refine lv_iload_n hx hb dX1_role_2 rfl (lv_at hl 1 rfl) ?_
  refine cl_Vi (As := [.int a1]) (rest := [.ref y0]) (wc := wY cI cJ y0 y1 y2 y3 y4 y5 y6 y7 y8 hs si ag la fo co cv ta rc ec su pe ti mn nu th) (w1 := wY cI cJ y0 y1 y2 y3 y4 y5 y6 y7 y8 hs si ag la fo co cv ta rc ec su pe ti mn nu th) (wr := []) ⟨hx, hb, hml, hown, hts⟩ (c_X1_isRole l D cI cJ y0 y1 y2 y3 y4 y5 y6 y7 y8 _ hs si ag la fo co cv ta rc ec su pe ti mn nu th a1) (cwV 1 hts gX1_role_X1_isRole rfl rfl rfl (by decide +kernel) ⟨Nat.le_of_ble_eq_true rfl, Nat.le_of_ble_eq_true rfl⟩) hK hP hD hS hA [0, 1, 2, 3, 4, 5, 6, 7, 8] [] rfl rfl (by decide) (by decide) rfl rfl rfl rfl rfl hl.1 rfl (lv_room (Nat.le_of_ble_eq_true rfl)) dX1_role_3 (fun H locs hP hD hS => ?_)
  have hP : va_P D vwCl (wY cI cJ y0 y1 y2 y3 y4 y5 y6 y7 y8 hs si ag la fo co cv ta rc ec su pe ti mn nu th) H := hP
  have hD : va_D A (wY cI cJ y0 y1 y2 y3 y4 y5 y6 y7 y8 hs si ag la fo co cv ta rc ec su pe ti mn nu th) := hD
  refine lv_if_eq (tgt := 13) hx hb dX1_role_6 (by decide) (fun c_1 => ?_) (fun c_1 => ?_)
  · replace h := (if_pos c_1).symm.trans h
    refine lv_iconst (v := 1) hx hb dX1_role_13 (by decide) ?_
    obtain ⟨r_2, th_3, e_4, h⟩ := bnd2_some h
    refine cl_Vi (As := [.int 1]) (rest := []) (wc := wY cI cJ y0 y1 y2 y3 y4 y5 y6 y7 y8 hs si ag la fo co cv ta rc ec su pe ti mn nu th) (w1 := wY cI cJ y0 y1 y2 y3 y4 y5 y6 y7 y8 hs si ag la fo co cv ta rc ec su pe ti mn nu th_3) (wr := []) ⟨hx, hb, hml, hown, hts⟩ (c_X1_holds l D cI cJ y0 y1 y2 y3 y4 y5 y6 y7 y8 _ hs si ag la fo co cv ta rc ec su pe ti mn nu th 1 r_2 th_3 e_4) (cwV 1 hts gX1_role_X1_holds rfl rfl rfl (by decide +kernel) ⟨Nat.le_of_ble_eq_true rfl, Nat.le_of_ble_eq_true rfl⟩) hK hP hD hS hA [0, 1, 2, 3, 4, 5, 6, 7, 8] [] rfl rfl (by decide) (by decide) rfl rfl rfl rfl rfl hl.1 rfl (lv_room (Nat.le_of_ble_eq_true rfl)) dX1_role_14 (fun H locs hP hD hS => ?_)
    have hP : va_P D vwCl (wY cI cJ y0 y1 y2 y3 y4 y5 y6 y7 y8 hs si ag la fo co cv ta rc ec su pe ti mn nu th_3) H := hP
    have hD : va_D A (wY cI cJ y0 y1 y2 y3 y4 y5 y6 y7 y8 hs si ag la fo co cv ta rc ec su pe ti mn nu th_3) := hD
    refine lv_if_eq (tgt := 24) hx hb dX1_role_17 (by decide) (fun c_5 => ?_) (fun c_5 => ?_)
    · replace h := (if_pos c_5).symm.trans h
      refine lv_aload_n hx hb dX1_role_24 rfl (lv_at hl 0 rfl) ?_
      refine va_get (D := D) (ci := 1) (v := .ref y4) (C := RX1) (T := TX1) (N := 16) hx hb hts hin hown hK hP 0 rfl rfl 3 (by decide) hw_0 (fun _ h9 => h9) rfl dX1_role_25 ?_
      refine lv_iload_n hx hb dX1_role_28 rfl (lv_at hl 1 rfl) ?_
      obtain ⟨h_6, h⟩ := ix_some h
      refine va_iald hx hb hK hP 4 0 rfl rfl h_6 dX1_role_29 ?_
      cases h
      exact W.iret hx hb hr (fun t ht hW => ⟨⟨_, (), rfl, rfl, by rw [ht]; exact hP, va_K.moved hW.alike hK, hD⟩, hS.F ht⟩) hS.2.2 dX1_role_30
    · replace h := (if_neg c_5).symm.trans h
      refine lv_iconst (v := (-1)) hx hb dX1_role_20 (by decide) ?_
      refine lv_goto (tgt := 30) hx hb dX1_role_21 (by decide) ?_
      cases h
      exact W.iret hx hb hr (fun t ht hW => ⟨⟨_, (), rfl, rfl, by rw [ht]; exact hP, va_K.moved hW.alike hK, hD⟩, hS.F ht⟩) hS.2.2 dX1_role_30
  · replace h := (if_neg c_1).symm.trans h
    refine lv_iconst (v := 0) hx hb dX1_role_9 (by decide) ?_
    refine lv_goto (tgt := 14) hx hb dX1_role_10 (by decide) ?_
    obtain ⟨r_7, th_8, e_9, h⟩ := bnd2_some h
    refine cl_Vi (As := [.int 0]) (rest := []) (wc := wY cI cJ y0 y1 y2 y3 y4 y5 y6 y7 y8 hs si ag la fo co cv ta rc ec su pe ti mn nu th) (w1 := wY cI cJ y0 y1 y2 y3 y4 y5 y6 y7 y8 hs si ag la fo co cv ta rc ec su pe ti mn nu th_8) (wr := []) ⟨hx, hb, hml, hown, hts⟩ (c_X1_holds l D cI cJ y0 y1 y2 y3 y4 y5 y6 y7 y8 _ hs si ag la fo co cv ta rc ec su pe ti mn nu th 0 r_7 th_8 e_9) (cwV 1 hts gX1_role_X1_holds rfl rfl rfl (by decide +kernel) ⟨Nat.le_of_ble_eq_true rfl, Nat.le_of_ble_eq_true rfl⟩) hK hP hD hS hA [0, 1, 2, 3, 4, 5, 6, 7, 8] [] rfl rfl (by decide) (by decide) rfl rfl rfl rfl rfl hl.1 rfl (lv_room (Nat.le_of_ble_eq_true rfl)) dX1_role_14 (fun H locs hP hD hS => ?_)
    have hP : va_P D vwCl (wY cI cJ y0 y1 y2 y3 y4 y5 y6 y7 y8 hs si ag la fo co cv ta rc ec su pe ti mn nu th_8) H := hP
    have hD : va_D A (wY cI cJ y0 y1 y2 y3 y4 y5 y6 y7 y8 hs si ag la fo co cv ta rc ec su pe ti mn nu th_8) := hD
    refine lv_if_eq (tgt := 24) hx hb dX1_role_17 (by decide) (fun c_10 => ?_) (fun c_10 => ?_)
    · replace h := (if_pos c_10).symm.trans h
      refine lv_aload_n hx hb dX1_role_24 rfl (lv_at hl 0 rfl) ?_
      refine va_get (D := D) (ci := 1) (v := .ref y4) (C := RX1) (T := TX1) (N := 16) hx hb hts hin hown hK hP 0 rfl rfl 3 (by decide) hw_0 (fun _ h9 => h9) rfl dX1_role_25 ?_
      refine lv_iload_n hx hb dX1_role_28 rfl (lv_at hl 1 rfl) ?_
      obtain ⟨h_11, h⟩ := ix_some h
      refine va_iald hx hb hK hP 4 0 rfl rfl h_11 dX1_role_29 ?_
      cases h
      exact W.iret hx hb hr (fun t ht hW => ⟨⟨_, (), rfl, rfl, by rw [ht]; exact hP, va_K.moved hW.alike hK, hD⟩, hS.F ht⟩) hS.2.2 dX1_role_30
    · replace h := (if_neg c_10).symm.trans h
      refine lv_iconst (v := (-1)) hx hb dX1_role_20 (by decide) ?_
      refine lv_goto (tgt := 30) hx hb dX1_role_21 (by decide) ?_
      cases h
      exact W.iret hx hb hr (fun t ht hW => ⟨⟨_, (), rfl, rfl, by rw [ht]; exact hP, va_K.moved hW.alike hK, hD⟩, hS.F ht⟩) hS.2.2 dX1_role_30
-- X1_rolesOf
def m_X1_rolesOf_26 (fu : Nat) (hs : Nat → Int32) (la : Nat → Int32) (mn : Int32) (a1 : Int32) : Nat → Int32 → Int32 → (Int32) → Option ((Int32) × ((Int32)))
  | 0, _, _, _ => none
  | n + 1, v2, v3, th => (if mn ≤ v3 then some (v2, th) else (ix v3 256 (bnd1 (m_X1_isWithin hs (la (Int32.toNatClampNeg v3)) a1) (fun r_12 => (if r_12 = 0 then (m_X1_rolesOf_26 fu hs la mn a1 n (v2 + 0) (v3 + 1) th) else (m_X1_rolesOf_26 fu hs la mn a1 n (v2 + 1) (v3 + 1) th))))))
def m_X1_rolesOf (fu : Nat) (hs : Nat → Int32) (la : Nat → Int32) (mn : Int32) (th : Int32) (a1 : Int32) : Option ((Int32) × ((Int32))) := (if (m_X1_isUser a1) = 0 then (bnd2 (m_X1_holds th 1) (fun r_2 th_3 => (if r_2 = 0 then (m_X1_rolesOf_26 fu hs la mn a1 fu 0 0 th_3) else some ((-1), th_3)))) else (bnd2 (m_X1_holds th 0) (fun r_6 th_7 => (if r_6 = 0 then (m_X1_rolesOf_26 fu hs la mn a1 fu 0 0 th_7) else some ((-1), th_7)))))
set_option maxHeartbeats 4000000 in
set_option maxRecDepth 100000 in
theorem c_X1_rolesOf (l : Launch) (D : va_G) (cI cJ : ClassId) (y0 y1 y2 y3 y4 y5 y6 y7 y8 : Nat) (sz : Nat) (hs : Nat → Int32) (si : Nat → Int32) (ag : Nat → Int32) (la : Nat → Int32) (fo : Nat → Int32) (co : Nat → Int32) (cv : Nat → Int32) (ta : Nat → Int32) (rc : Int32) (ec : Int32) (su : Int32) (pe : Int32) (ti : Int32) (mn : Int32) (nu : Int32) (th : Int32) (fu : Nat) (a1 : Int32) (r0 : Int32) (th' : Int32) (h : m_X1_rolesOf fu hs la mn th a1 = some (r0, th')) : Met l yX1_rolesOf wsX1_rolesOf ({ frames := 2, cells := 0, slots := 0, locals := 44 }) (va_Pc [.ref y0, .int a1] (bx_Pre D [(cI, .int), (cJ, .long)] (wY cI cJ y0 y1 y2 y3 y4 y5 y6 y7 y8 hs si ag la fo co cv ta rc ec su pe ti mn nu th) sz)) (va_Qi (fun (r : Int32) (_ : Unit) => r = r0) (fun (_ : Unit) t => bx_Post D [(cI, .int), (cJ, .long)] (wY cI cJ y0 y1 y2 y3 y4 y5 y6 y7 y8 hs si ag la fo co cv ta rc ec su pe ti mn nu th') (va_A (wY cI cJ y0 y1 y2 y3 y4 y5 y6 y7 y8 hs si ag la fo co cv ta rc ec su pe ti mn nu th) sz) t) (va_A (wY cI cJ y0 y1 y2 y3 y4 y5 y6 y7 y8 hs si ag la fo co cv ta rc ec su pe ti mn nu th) sz)) 0 0 (va_A (wY cI cJ y0 y1 y2 y3 y4 y5 y6 y7 y8 hs si ag la fo co cv ta rc ec su pe ti mn nu th) sz) := by
  refine Met.ofW (cc := cX1_rolesOf) (maxL := 4) (ret := (some .int)) (by decide) rfl ?_
  intro p e s m args below meth c s₁ B hml hv
  obtain ⟨rfl, hsz, hP, hK, hD0⟩ := hv
  have hx := B.exec
  have hb := B.bytes
  have hr := B.returns
  have hts := atoms_spec (ws := wsX1_rolesOf) B.pre
  have hown : s.vm.findClass RX1 = some m.cls := findClass_of_methodNamed B.named
  have hlocks := B.notSynchronized
  subst hsz
  have hD := hD0.self (sz := s.heap.size)
  generalize hAe : va_A (wY cI cJ y0 y1 y2 y3 y4 y5 y6 y7 y8 hs si ag la fo co cv ta rc ec su pe ti mn nu th) s.heap.size = A at hD ⊢
  have hA : ∀ q : Nat, s.heap.size ≤ q → A q := fun q h9 => by rw [← hAe]; exact Or.inr h9
  have hS : va_S A s.heap s.heap [] := va_S.rf
  have hin : ∀ w ∈ wsX10, w ∈ wsX1_rolesOf := fun _ h9 => List.mem_cons_of_mem _ (List.mem_append_right _ h9)
  have hw_0 := hts (.fieldLink RX1 112 "RoleMinerModel" "many" "I") (by decide +kernel)
  have hw_1 := hts (.fieldLink RX1 19 "RoleMinerModel" "laid" "[I") (by decide +kernel)
  have hl := lv_entry ([.ref y0, .int a1]) (n := 4) (Nat.le_of_ble_eq_true rfl)
  rw [lg_entry_eq]
  generalize (lg_sl ([.ref y0, .int a1]) ++ List.replicate (4 - (lg_sl ([.ref y0, .int a1])).length) Slot.unset).toArray = ls at hl ⊢
  have hl : lv_has ls 4 [(0, .ref y0), (1, .int a1)] := hl
  have L26 : ∀ (n : Nat) (v2 : Int32) (v3 : Int32) (th : Int32) (H : Heap) (locs : List Loc) (ls : Array Slot), m_X1_rolesOf_26 fu hs la mn a1 n v2 v3 th = some (r0, th') → va_P D vwCl (wY cI cJ y0 y1 y2 y3 y4 y5 y6 y7 y8 hs si ag la fo co cv ta rc ec su pe ti mn nu th) H → va_D A (wY cI cJ y0 y1 y2 y3 y4 y5 y6 y7 y8 hs si ag la fo co cv ta rc ec su pe ti mn nu th) → va_S A s.heap H locs → lv_has ls 4 [(0, .ref y0), (1, .int a1), (2, .int v2), (3, .int v3)] → W p l e (headSpec wsX1_rolesOf ({ frames := 2, cells := 0, slots := 0, locals := 44 })).room s m ([.ref y0, .int a1] : List Value).toArray below meth c H locs 0 0 (MQ below (va_Qi (fun (r : Int32) (_ : Unit) => r = r0) (fun (_ : Unit) t => bx_Post D [(cI, .int), (cJ, .long)] (wY cI cJ y0 y1 y2 y3 y4 y5 y6 y7 y8 hs si ag la fo co cv ta rc ec su pe ti mn nu th') A t) A) ([.ref y0, .int a1] : List Value).toArray s 0 0 A) (F0 m 26 ls []) := by
    intro n
    induction n with
    | zero =>
      intro v2 v3 th H locs ls h
      rw [m_X1_rolesOf_26] at h
      cases h
    | succ n ih =>
      intro v2 v3 th H locs ls h hP hD hS hl
      rw [m_X1_rolesOf_26] at h
      refine lv_iload_n hx hb dX1_rolesOf_26 rfl (lv_at hl 3 rfl) ?_
      refine lv_aload_n hx hb dX1_rolesOf_27 rfl (lv_at hl 0 rfl) ?_
      refine va_get (D := D) (ci := 1) (v := .int mn) (C := RX1) (T := TX1) (N := 16) hx hb hts hin hown hK hP 0 rfl rfl 13 (by decide) hw_0 (fun _ h9 => h9) rfl dX1_rolesOf_28 ?_
      refine lv_icmp_ge (tgt := 62) hx hb dX1_rolesOf_31 (by decide) (fun c_10 => ?_) (fun c_10 => ?_)
      · replace h := (if_pos c_10).symm.trans h
        refine lv_iload_n hx hb dX1_rolesOf_62 rfl (lv_at hl 2 rfl) ?_
        cases h
        exact W.iret hx hb hr (fun t ht hW => ⟨⟨_, (), rfl, rfl, by rw [ht]; exact hP, va_K.moved hW.alike hK, hD⟩, hS.F ht⟩) hS.2.2 dX1_rolesOf_63
      · replace h := (if_neg c_10).symm.trans h
        refine lv_iload_n hx hb dX1_rolesOf_34 rfl (lv_at hl 2 rfl) ?_
        refine lv_aload_n hx hb dX1_rolesOf_35 rfl (lv_at hl 0 rfl) ?_
        refine lv_aload_n hx hb dX1_rolesOf_36 rfl (lv_at hl 0 rfl) ?_
        refine va_get (D := D) (ci := 1) (v := .ref y4) (C := RX1) (T := TX1) (N := 16) hx hb hts hin hown hK hP 0 rfl rfl 3 (by decide) hw_1 (fun _ h9 => h9) rfl dX1_rolesOf_37 ?_
        refine lv_iload_n hx hb dX1_rolesOf_40 rfl (lv_at hl 3 rfl) ?_
        obtain ⟨h_11, h⟩ := ix_some h
        refine va_iald hx hb hK hP 4 0 rfl rfl h_11 dX1_rolesOf_41 ?_
        refine lv_iload_n hx hb dX1_rolesOf_42 rfl (lv_at hl 1 rfl) ?_
        obtain ⟨r_12, e_13, h⟩ := bnd1_some h
        refine cl_Vi (As := [.int (la (Int32.toNatClampNeg v3)), .int a1]) (rest := [.int v2]) (wc := wY cI cJ y0 y1 y2 y3 y4 y5 y6 y7 y8 hs si ag la fo co cv ta rc ec su pe ti mn nu th) (w1 := wY cI cJ y0 y1 y2 y3 y4 y5 y6 y7 y8 hs si ag la fo co cv ta rc ec su pe ti mn nu th) (wr := []) ⟨hx, hb, hml, hown, hts⟩ (c_X1_isWithin l D cI cJ y0 y1 y2 y3 y4 y5 y6 y7 y8 _ hs si ag la fo co cv ta rc ec su pe ti mn nu th (la (Int32.toNatClampNeg v3)) a1 r_12 e_13) (cwV 2 hts gX1_rolesOf_X1_isWithin rfl rfl rfl (by decide +kernel) ⟨Nat.le_of_ble_eq_true rfl, Nat.le_of_ble_eq_true rfl⟩) hK hP hD hS hA [0, 1, 2, 3, 4, 5, 6, 7, 8] [] rfl rfl (by decide) (by decide) rfl rfl rfl rfl rfl hl.1 rfl (lv_room (Nat.le_of_ble_eq_true rfl)) dX1_rolesOf_43 (fun H locs hP hD hS => ?_)
        have hP : va_P D vwCl (wY cI cJ y0 y1 y2 y3 y4 y5 y6 y7 y8 hs si ag la fo co cv ta rc ec su pe ti mn nu th) H := hP
        have hD : va_D A (wY cI cJ y0 y1 y2 y3 y4 y5 y6 y7 y8 hs si ag la fo co cv ta rc ec su pe ti mn nu th) := hD
        refine lv_if_eq (tgt := 53) hx hb dX1_rolesOf_46 (by decide) (fun c_14 => ?_) (fun c_14 => ?_)
        · replace h := (if_pos c_14).symm.trans h
          refine lv_iconst (v := 0) hx hb dX1_rolesOf_53 (by decide) ?_
          refine lv_iadd hx hb dX1_rolesOf_54 ?_
          refine lv_istore_n (lv' := [(2, .int (v2 + 0)), (0, .ref y0), (1, .int a1), (3, .int v3)]) hx hb dX1_rolesOf_55 rfl hl (by decide) rfl (fun ls hl => ?_)
          refine lv_iinc (v := (v3 + 1)) (lv' := [(3, .int (v3 + 1)), (2, .int (v2 + 0)), (0, .ref y0), (1, .int a1)]) hx hb dX1_rolesOf_56 hl (k := 3) rfl rfl (by decide) rfl (fun ls hl => ?_)
          refine lv_goto (tgt := 26) hx hb dX1_rolesOf_59 (by decide) ?_
          exact ih (v2 + 0) (v3 + 1) th _ _ _ h hP hD hS (lv_sub hl [2, 3, 1, 0] rfl)
        · replace h := (if_neg c_14).symm.trans h
          refine lv_iconst (v := 1) hx hb dX1_rolesOf_49 (by decide) ?_
          refine lv_goto (tgt := 54) hx hb dX1_rolesOf_50 (by decide) ?_
          refine lv_iadd hx hb dX1_rolesOf_54 ?_
          refine lv_istore_n (lv' := [(2, .int (v2 + 1)), (0, .ref y0), (1, .int a1), (3, .int v3)]) hx hb dX1_rolesOf_55 rfl hl (by decide) rfl (fun ls hl => ?_)
          refine lv_iinc (v := (v3 + 1)) (lv' := [(3, .int (v3 + 1)), (2, .int (v2 + 1)), (0, .ref y0), (1, .int a1)]) hx hb dX1_rolesOf_56 hl (k := 3) rfl rfl (by decide) rfl (fun ls hl => ?_)
          refine lv_goto (tgt := 26) hx hb dX1_rolesOf_59 (by decide) ?_
          exact ih (v2 + 1) (v3 + 1) th _ _ _ h hP hD hS (lv_sub hl [2, 3, 1, 0] rfl)
  rw [m_X1_rolesOf] at h
  refine lv_aload_n hx hb dX1_rolesOf_0 rfl (lv_at hl 0 rfl) ?_
  refine lv_aload_n hx hb dX1_rolesOf_1 rfl (lv_at hl 0 rfl) ?_
  refine lv_iload_n hx hb dX1_rolesOf_2 rfl (lv_at hl 1 rfl) ?_
  refine cl_Vi (As := [.int a1]) (rest := [.ref y0]) (wc := wY cI cJ y0 y1 y2 y3 y4 y5 y6 y7 y8 hs si ag la fo co cv ta rc ec su pe ti mn nu th) (w1 := wY cI cJ y0 y1 y2 y3 y4 y5 y6 y7 y8 hs si ag la fo co cv ta rc ec su pe ti mn nu th) (wr := []) ⟨hx, hb, hml, hown, hts⟩ (c_X1_isUser l D cI cJ y0 y1 y2 y3 y4 y5 y6 y7 y8 _ hs si ag la fo co cv ta rc ec su pe ti mn nu th a1) (cwV 1 hts gX1_rolesOf_X1_isUser rfl rfl rfl (by decide +kernel) ⟨Nat.le_of_ble_eq_true rfl, Nat.le_of_ble_eq_true rfl⟩) hK hP hD hS hA [0, 1, 2, 3, 4, 5, 6, 7, 8] [] rfl rfl (by decide) (by decide) rfl rfl rfl rfl rfl hl.1 rfl (lv_room (Nat.le_of_ble_eq_true rfl)) dX1_rolesOf_3 (fun H locs hP hD hS => ?_)
  have hP : va_P D vwCl (wY cI cJ y0 y1 y2 y3 y4 y5 y6 y7 y8 hs si ag la fo co cv ta rc ec su pe ti mn nu th) H := hP
  have hD : va_D A (wY cI cJ y0 y1 y2 y3 y4 y5 y6 y7 y8 hs si ag la fo co cv ta rc ec su pe ti mn nu th) := hD
  refine lv_if_eq (tgt := 13) hx hb dX1_rolesOf_6 (by decide) (fun c_1 => ?_) (fun c_1 => ?_)
  · replace h := (if_pos c_1).symm.trans h
    refine lv_iconst (v := 1) hx hb dX1_rolesOf_13 (by decide) ?_
    obtain ⟨r_2, th_3, e_4, h⟩ := bnd2_some h
    refine cl_Vi (As := [.int 1]) (rest := []) (wc := wY cI cJ y0 y1 y2 y3 y4 y5 y6 y7 y8 hs si ag la fo co cv ta rc ec su pe ti mn nu th) (w1 := wY cI cJ y0 y1 y2 y3 y4 y5 y6 y7 y8 hs si ag la fo co cv ta rc ec su pe ti mn nu th_3) (wr := []) ⟨hx, hb, hml, hown, hts⟩ (c_X1_holds l D cI cJ y0 y1 y2 y3 y4 y5 y6 y7 y8 _ hs si ag la fo co cv ta rc ec su pe ti mn nu th 1 r_2 th_3 e_4) (cwV 1 hts gX1_rolesOf_X1_holds rfl rfl rfl (by decide +kernel) ⟨Nat.le_of_ble_eq_true rfl, Nat.le_of_ble_eq_true rfl⟩) hK hP hD hS hA [0, 1, 2, 3, 4, 5, 6, 7, 8] [] rfl rfl (by decide) (by decide) rfl rfl rfl rfl rfl hl.1 rfl (lv_room (Nat.le_of_ble_eq_true rfl)) dX1_rolesOf_14 (fun H locs hP hD hS => ?_)
    have hP : va_P D vwCl (wY cI cJ y0 y1 y2 y3 y4 y5 y6 y7 y8 hs si ag la fo co cv ta rc ec su pe ti mn nu th_3) H := hP
    have hD : va_D A (wY cI cJ y0 y1 y2 y3 y4 y5 y6 y7 y8 hs si ag la fo co cv ta rc ec su pe ti mn nu th_3) := hD
    refine lv_if_eq (tgt := 22) hx hb dX1_rolesOf_17 (by decide) (fun c_5 => ?_) (fun c_5 => ?_)
    · replace h := (if_pos c_5).symm.trans h
      refine lv_iconst (v := 0) hx hb dX1_rolesOf_22 (by decide) ?_
      refine lv_istore_n (lv' := [(2, .int 0), (0, .ref y0), (1, .int a1)]) hx hb dX1_rolesOf_23 rfl hl (by decide) rfl (fun ls hl => ?_)
      refine lv_iconst (v := 0) hx hb dX1_rolesOf_24 (by decide) ?_
      refine lv_istore_n (lv' := [(3, .int 0), (2, .int 0), (0, .ref y0), (1, .int a1)]) hx hb dX1_rolesOf_25 rfl hl (by decide) rfl (fun ls hl => ?_)
      exact L26 fu 0 0 th_3 _ _ _ h hP hD hS (lv_sub hl [2, 3, 1, 0] rfl)
    · replace h := (if_neg c_5).symm.trans h
      refine lv_iconst (v := (-1)) hx hb dX1_rolesOf_20 (by decide) ?_
      cases h
      exact W.iret hx hb hr (fun t ht hW => ⟨⟨_, (), rfl, rfl, by rw [ht]; exact hP, va_K.moved hW.alike hK, hD⟩, hS.F ht⟩) hS.2.2 dX1_rolesOf_21
  · replace h := (if_neg c_1).symm.trans h
    refine lv_iconst (v := 0) hx hb dX1_rolesOf_9 (by decide) ?_
    refine lv_goto (tgt := 14) hx hb dX1_rolesOf_10 (by decide) ?_
    obtain ⟨r_6, th_7, e_8, h⟩ := bnd2_some h
    refine cl_Vi (As := [.int 0]) (rest := []) (wc := wY cI cJ y0 y1 y2 y3 y4 y5 y6 y7 y8 hs si ag la fo co cv ta rc ec su pe ti mn nu th) (w1 := wY cI cJ y0 y1 y2 y3 y4 y5 y6 y7 y8 hs si ag la fo co cv ta rc ec su pe ti mn nu th_7) (wr := []) ⟨hx, hb, hml, hown, hts⟩ (c_X1_holds l D cI cJ y0 y1 y2 y3 y4 y5 y6 y7 y8 _ hs si ag la fo co cv ta rc ec su pe ti mn nu th 0 r_6 th_7 e_8) (cwV 1 hts gX1_rolesOf_X1_holds rfl rfl rfl (by decide +kernel) ⟨Nat.le_of_ble_eq_true rfl, Nat.le_of_ble_eq_true rfl⟩) hK hP hD hS hA [0, 1, 2, 3, 4, 5, 6, 7, 8] [] rfl rfl (by decide) (by decide) rfl rfl rfl rfl rfl hl.1 rfl (lv_room (Nat.le_of_ble_eq_true rfl)) dX1_rolesOf_14 (fun H locs hP hD hS => ?_)
    have hP : va_P D vwCl (wY cI cJ y0 y1 y2 y3 y4 y5 y6 y7 y8 hs si ag la fo co cv ta rc ec su pe ti mn nu th_7) H := hP
    have hD : va_D A (wY cI cJ y0 y1 y2 y3 y4 y5 y6 y7 y8 hs si ag la fo co cv ta rc ec su pe ti mn nu th_7) := hD
    refine lv_if_eq (tgt := 22) hx hb dX1_rolesOf_17 (by decide) (fun c_9 => ?_) (fun c_9 => ?_)
    · replace h := (if_pos c_9).symm.trans h
      refine lv_iconst (v := 0) hx hb dX1_rolesOf_22 (by decide) ?_
      refine lv_istore_n (lv' := [(2, .int 0), (0, .ref y0), (1, .int a1)]) hx hb dX1_rolesOf_23 rfl hl (by decide) rfl (fun ls hl => ?_)
      refine lv_iconst (v := 0) hx hb dX1_rolesOf_24 (by decide) ?_
      refine lv_istore_n (lv' := [(3, .int 0), (2, .int 0), (0, .ref y0), (1, .int a1)]) hx hb dX1_rolesOf_25 rfl hl (by decide) rfl (fun ls hl => ?_)
      exact L26 fu 0 0 th_7 _ _ _ h hP hD hS (lv_sub hl [2, 3, 1, 0] rfl)
    · replace h := (if_neg c_9).symm.trans h
      refine lv_iconst (v := (-1)) hx hb dX1_rolesOf_20 (by decide) ?_
      cases h
      exact W.iret hx hb hr (fun t ht hW => ⟨⟨_, (), rfl, rfl, by rw [ht]; exact hP, va_K.moved hW.alike hK, hD⟩, hS.F ht⟩) hS.2.2 dX1_rolesOf_21
-- X1_gotten
def m_X1_gotten_4 (fu : Nat) (hs : Nat → Int32) (la : Nat → Int32) (mn : Int32) (a1 : Int32) : Nat → Int32 → Int32 → Option ((Int32))
  | 0, _, _ => none
  | n + 1, v2, v3 => (if mn ≤ v3 then some v2 else (ix v3 256 (bnd1 (m_X1_isWithin hs (la (Int32.toNatClampNeg v3)) a1) (fun r_3 => (if r_3 = 0 then (m_X1_gotten_4 fu hs la mn a1 n (v2 ||| 0) (v3 + 1)) else (m_X1_gotten_4 fu hs la mn a1 n (v2 ||| (la (Int32.toNatClampNeg v3))) (v3 + 1)))))))
def m_X1_gotten (fu : Nat) (hs : Nat → Int32) (la : Nat → Int32) (mn : Int32) (a1 : Int32) : Option ((Int32)) := (m_X1_gotten_4 fu hs la mn a1 fu 0 0)
set_option maxHeartbeats 4000000 in
set_option maxRecDepth 100000 in
theorem c_X1_gotten (l : Launch) (D : va_G) (cI cJ : ClassId) (y0 y1 y2 y3 y4 y5 y6 y7 y8 : Nat) (sz : Nat) (hs : Nat → Int32) (si : Nat → Int32) (ag : Nat → Int32) (la : Nat → Int32) (fo : Nat → Int32) (co : Nat → Int32) (cv : Nat → Int32) (ta : Nat → Int32) (rc : Int32) (ec : Int32) (su : Int32) (pe : Int32) (ti : Int32) (mn : Int32) (nu : Int32) (th : Int32) (fu : Nat) (a1 : Int32) (r0 : Int32) (h : m_X1_gotten fu hs la mn a1 = some r0) : Met l yX1_gotten wsX1_gotten ({ frames := 1, cells := 0, slots := 0, locals := 22 }) (va_Pc [.ref y0, .int a1] (bx_Pre D [(cI, .int), (cJ, .long)] (wY cI cJ y0 y1 y2 y3 y4 y5 y6 y7 y8 hs si ag la fo co cv ta rc ec su pe ti mn nu th) sz)) (va_Qi (fun (r : Int32) (_ : Unit) => r = r0) (fun (_ : Unit) t => bx_Post D [(cI, .int), (cJ, .long)] (wY cI cJ y0 y1 y2 y3 y4 y5 y6 y7 y8 hs si ag la fo co cv ta rc ec su pe ti mn nu th) (va_A (wY cI cJ y0 y1 y2 y3 y4 y5 y6 y7 y8 hs si ag la fo co cv ta rc ec su pe ti mn nu th) sz) t) (va_A (wY cI cJ y0 y1 y2 y3 y4 y5 y6 y7 y8 hs si ag la fo co cv ta rc ec su pe ti mn nu th) sz)) 0 0 (va_A (wY cI cJ y0 y1 y2 y3 y4 y5 y6 y7 y8 hs si ag la fo co cv ta rc ec su pe ti mn nu th) sz) := by
  refine Met.ofW (cc := cX1_gotten) (maxL := 4) (ret := (some .int)) (by decide) rfl ?_
  intro p e s m args below meth c s₁ B hml hv
  obtain ⟨rfl, hsz, hP, hK, hD0⟩ := hv
  have hx := B.exec
  have hb := B.bytes
  have hr := B.returns
  have hts := atoms_spec (ws := wsX1_gotten) B.pre
  have hown : s.vm.findClass RX1 = some m.cls := findClass_of_methodNamed B.named
  have hlocks := B.notSynchronized
  subst hsz
  have hD := hD0.self (sz := s.heap.size)
  generalize hAe : va_A (wY cI cJ y0 y1 y2 y3 y4 y5 y6 y7 y8 hs si ag la fo co cv ta rc ec su pe ti mn nu th) s.heap.size = A at hD ⊢
  have hA : ∀ q : Nat, s.heap.size ≤ q → A q := fun q h9 => by rw [← hAe]; exact Or.inr h9
  have hS : va_S A s.heap s.heap [] := va_S.rf
  have hin : ∀ w ∈ wsX10, w ∈ wsX1_gotten := fun _ h9 => List.mem_cons_of_mem _ (List.mem_append_right _ h9)
  have hw_0 := hts (.fieldLink RX1 112 "RoleMinerModel" "many" "I") (by decide +kernel)
  have hw_1 := hts (.fieldLink RX1 19 "RoleMinerModel" "laid" "[I") (by decide +kernel)
  have hl := lv_entry ([.ref y0, .int a1]) (n := 4) (Nat.le_of_ble_eq_true rfl)
  rw [lg_entry_eq]
  generalize (lg_sl ([.ref y0, .int a1]) ++ List.replicate (4 - (lg_sl ([.ref y0, .int a1])).length) Slot.unset).toArray = ls at hl ⊢
  have hl : lv_has ls 4 [(0, .ref y0), (1, .int a1)] := hl
  have L4 : ∀ (n : Nat) (v2 : Int32) (v3 : Int32) (H : Heap) (locs : List Loc) (ls : Array Slot), m_X1_gotten_4 fu hs la mn a1 n v2 v3 = some r0 → va_P D vwCl (wY cI cJ y0 y1 y2 y3 y4 y5 y6 y7 y8 hs si ag la fo co cv ta rc ec su pe ti mn nu th) H → va_D A (wY cI cJ y0 y1 y2 y3 y4 y5 y6 y7 y8 hs si ag la fo co cv ta rc ec su pe ti mn nu th) → va_S A s.heap H locs → lv_has ls 4 [(0, .ref y0), (1, .int a1), (2, .int v2), (3, .int v3)] → W p l e (headSpec wsX1_gotten ({ frames := 1, cells := 0, slots := 0, locals := 22 })).room s m ([.ref y0, .int a1] : List Value).toArray below meth c H locs 0 0 (MQ below (va_Qi (fun (r : Int32) (_ : Unit) => r = r0) (fun (_ : Unit) t => bx_Post D [(cI, .int), (cJ, .long)] (wY cI cJ y0 y1 y2 y3 y4 y5 y6 y7 y8 hs si ag la fo co cv ta rc ec su pe ti mn nu th) A t) A) ([.ref y0, .int a1] : List Value).toArray s 0 0 A) (F0 m 4 ls []) := by
    intro n
    induction n with
    | zero =>
      intro v2 v3 H locs ls h
      rw [m_X1_gotten_4] at h
      cases h
    | succ n ih =>
      intro v2 v3 H locs ls h hP hD hS hl
      rw [m_X1_gotten_4] at h
      refine lv_iload_n hx hb dX1_gotten_4 rfl (lv_at hl 3 rfl) ?_
      refine lv_aload_n hx hb dX1_gotten_5 rfl (lv_at hl 0 rfl) ?_
      refine va_get (D := D) (ci := 1) (v := .int mn) (C := RX1) (T := TX1) (N := 16) hx hb hts hin hown hK hP 0 rfl rfl 13 (by decide) hw_0 (fun _ h9 => h9) rfl dX1_gotten_6 ?_
      refine lv_icmp_ge (tgt := 45) hx hb dX1_gotten_9 (by decide) (fun c_1 => ?_) (fun c_1 => ?_)
      · replace h := (if_pos c_1).symm.trans h
        refine lv_iload_n hx hb dX1_gotten_45 rfl (lv_at hl 2 rfl) ?_
        cases h
        exact W.iret hx hb hr (fun t ht hW => ⟨⟨_, (), rfl, rfl, by rw [ht]; exact hP, va_K.moved hW.alike hK, hD⟩, hS.F ht⟩) hS.2.2 dX1_gotten_46
      · replace h := (if_neg c_1).symm.trans h
        refine lv_iload_n hx hb dX1_gotten_12 rfl (lv_at hl 2 rfl) ?_
        refine lv_aload_n hx hb dX1_gotten_13 rfl (lv_at hl 0 rfl) ?_
        refine lv_aload_n hx hb dX1_gotten_14 rfl (lv_at hl 0 rfl) ?_
        refine va_get (D := D) (ci := 1) (v := .ref y4) (C := RX1) (T := TX1) (N := 16) hx hb hts hin hown hK hP 0 rfl rfl 3 (by decide) hw_1 (fun _ h9 => h9) rfl dX1_gotten_15 ?_
        refine lv_iload_n hx hb dX1_gotten_18 rfl (lv_at hl 3 rfl) ?_
        obtain ⟨h_2, h⟩ := ix_some h
        refine va_iald hx hb hK hP 4 0 rfl rfl h_2 dX1_gotten_19 ?_
        refine lv_iload_n hx hb dX1_gotten_20 rfl (lv_at hl 1 rfl) ?_
        obtain ⟨r_3, e_4, h⟩ := bnd1_some h
        refine cl_Vi (As := [.int (la (Int32.toNatClampNeg v3)), .int a1]) (rest := [.int v2]) (wc := wY cI cJ y0 y1 y2 y3 y4 y5 y6 y7 y8 hs si ag la fo co cv ta rc ec su pe ti mn nu th) (w1 := wY cI cJ y0 y1 y2 y3 y4 y5 y6 y7 y8 hs si ag la fo co cv ta rc ec su pe ti mn nu th) (wr := []) ⟨hx, hb, hml, hown, hts⟩ (c_X1_isWithin l D cI cJ y0 y1 y2 y3 y4 y5 y6 y7 y8 _ hs si ag la fo co cv ta rc ec su pe ti mn nu th (la (Int32.toNatClampNeg v3)) a1 r_3 e_4) (cwV 2 hts gX1_gotten_X1_isWithin rfl rfl rfl (by decide +kernel) ⟨Nat.le_of_ble_eq_true rfl, Nat.le_of_ble_eq_true rfl⟩) hK hP hD hS hA [0, 1, 2, 3, 4, 5, 6, 7, 8] [] rfl rfl (by decide) (by decide) rfl rfl rfl rfl rfl hl.1 rfl (lv_room (Nat.le_of_ble_eq_true rfl)) dX1_gotten_21 (fun H locs hP hD hS => ?_)
        have hP : va_P D vwCl (wY cI cJ y0 y1 y2 y3 y4 y5 y6 y7 y8 hs si ag la fo co cv ta rc ec su pe ti mn nu th) H := hP
        have hD : va_D A (wY cI cJ y0 y1 y2 y3 y4 y5 y6 y7 y8 hs si ag la fo co cv ta rc ec su pe ti mn nu th) := hD
        refine lv_if_eq (tgt := 36) hx hb dX1_gotten_24 (by decide) (fun c_5 => ?_) (fun c_5 => ?_)
        · replace h := (if_pos c_5).symm.trans h
          refine lv_iconst (v := 0) hx hb dX1_gotten_36 (by decide) ?_
          refine lv_ior hx hb dX1_gotten_37 ?_
          refine lv_istore_n (lv' := [(2, .int (v2 ||| 0)), (0, .ref y0), (1, .int a1), (3, .int v3)]) hx hb dX1_gotten_38 rfl hl (by decide) rfl (fun ls hl => ?_)
          refine lv_iinc (v := (v3 + 1)) (lv' := [(3, .int (v3 + 1)), (2, .int (v2 ||| 0)), (0, .ref y0), (1, .int a1)]) hx hb dX1_gotten_39 hl (k := 3) rfl rfl (by decide) rfl (fun ls hl => ?_)
          refine lv_goto (tgt := 4) hx hb dX1_gotten_42 (by decide) ?_
          exact ih (v2 ||| 0) (v3 + 1) _ _ _ h hP hD hS (lv_sub hl [2, 3, 1, 0] rfl)
        · replace h := (if_neg c_5).symm.trans h
          refine lv_aload_n hx hb dX1_gotten_27 rfl (lv_at hl 0 rfl) ?_
          refine va_get (D := D) (ci := 1) (v := .ref y4) (C := RX1) (T := TX1) (N := 16) hx hb hts hin hown hK hP 0 rfl rfl 3 (by decide) hw_1 (fun _ h9 => h9) rfl dX1_gotten_28 ?_
          refine lv_iload_n hx hb dX1_gotten_31 rfl (lv_at hl 3 rfl) ?_
          refine va_iald hx hb hK hP 4 0 rfl rfl h_2 dX1_gotten_32 ?_
          refine lv_goto (tgt := 37) hx hb dX1_gotten_33 (by decide) ?_
          refine lv_ior hx hb dX1_gotten_37 ?_
          refine lv_istore_n (lv' := [(2, .int (v2 ||| (la (Int32.toNatClampNeg v3)))), (0, .ref y0), (1, .int a1), (3, .int v3)]) hx hb dX1_gotten_38 rfl hl (by decide) rfl (fun ls hl => ?_)
          refine lv_iinc (v := (v3 + 1)) (lv' := [(3, .int (v3 + 1)), (2, .int (v2 ||| (la (Int32.toNatClampNeg v3)))), (0, .ref y0), (1, .int a1)]) hx hb dX1_gotten_39 hl (k := 3) rfl rfl (by decide) rfl (fun ls hl => ?_)
          refine lv_goto (tgt := 4) hx hb dX1_gotten_42 (by decide) ?_
          exact ih (v2 ||| (la (Int32.toNatClampNeg v3))) (v3 + 1) _ _ _ h hP hD hS (lv_sub hl [2, 3, 1, 0] rfl)
  rw [m_X1_gotten] at h
  refine lv_iconst (v := 0) hx hb dX1_gotten_0 (by decide) ?_
  refine lv_istore_n (lv' := [(2, .int 0), (0, .ref y0), (1, .int a1)]) hx hb dX1_gotten_1 rfl hl (by decide) rfl (fun ls hl => ?_)
  refine lv_iconst (v := 0) hx hb dX1_gotten_2 (by decide) ?_
  refine lv_istore_n (lv' := [(3, .int 0), (2, .int 0), (0, .ref y0), (1, .int a1)]) hx hb dX1_gotten_3 rfl hl (by decide) rfl (fun ls hl => ?_)
  exact L4 fu 0 0 _ _ _ h hP hD hS (lv_sub hl [2, 3, 1, 0] rfl)
-- X1_byRoles
def m_X1_byRoles (fu : Nat) (hs : Nat → Int32) (la : Nat → Int32) (mn : Int32) (th : Int32) (a1 : Int32) : Option ((Int32) × ((Int32))) := (if (m_X1_isUser a1) = 0 then (bnd2 (m_X1_holds th 1) (fun r_2 th_3 => (if r_2 = 0 then (bnd1 (m_X1_gotten fu hs la mn a1) (fun r_6 => some (r_6, th_3))) else some ((-1), th_3)))) else (bnd2 (m_X1_holds th 0) (fun r_8 th_9 => (if r_8 = 0 then (bnd1 (m_X1_gotten fu hs la mn a1) (fun r_12 => some (r_12, th_9))) else some ((-1), th_9)))))
set_option maxHeartbeats 4000000 in
set_option maxRecDepth 100000 in
theorem c_X1_byRoles (l : Launch) (D : va_G) (cI cJ : ClassId) (y0 y1 y2 y3 y4 y5 y6 y7 y8 : Nat) (sz : Nat) (hs : Nat → Int32) (si : Nat → Int32) (ag : Nat → Int32) (la : Nat → Int32) (fo : Nat → Int32) (co : Nat → Int32) (cv : Nat → Int32) (ta : Nat → Int32) (rc : Int32) (ec : Int32) (su : Int32) (pe : Int32) (ti : Int32) (mn : Int32) (nu : Int32) (th : Int32) (fu : Nat) (a1 : Int32) (r0 : Int32) (th' : Int32) (h : m_X1_byRoles fu hs la mn th a1 = some (r0, th')) : Met l yX1_byRoles wsX1_byRoles ({ frames := 2, cells := 0, slots := 0, locals := 45 }) (va_Pc [.ref y0, .int a1] (bx_Pre D [(cI, .int), (cJ, .long)] (wY cI cJ y0 y1 y2 y3 y4 y5 y6 y7 y8 hs si ag la fo co cv ta rc ec su pe ti mn nu th) sz)) (va_Qi (fun (r : Int32) (_ : Unit) => r = r0) (fun (_ : Unit) t => bx_Post D [(cI, .int), (cJ, .long)] (wY cI cJ y0 y1 y2 y3 y4 y5 y6 y7 y8 hs si ag la fo co cv ta rc ec su pe ti mn nu th') (va_A (wY cI cJ y0 y1 y2 y3 y4 y5 y6 y7 y8 hs si ag la fo co cv ta rc ec su pe ti mn nu th) sz) t) (va_A (wY cI cJ y0 y1 y2 y3 y4 y5 y6 y7 y8 hs si ag la fo co cv ta rc ec su pe ti mn nu th) sz)) 0 0 (va_A (wY cI cJ y0 y1 y2 y3 y4 y5 y6 y7 y8 hs si ag la fo co cv ta rc ec su pe ti mn nu th) sz) := by
  refine Met.ofW (cc := cX1_byRoles) (maxL := 2) (ret := (some .int)) (by decide) rfl ?_
  intro p e s m args below meth c s₁ B hml hv
  obtain ⟨rfl, hsz, hP, hK, hD0⟩ := hv
  have hx := B.exec
  have hb := B.bytes
  have hr := B.returns
  have hts := atoms_spec (ws := wsX1_byRoles) B.pre
  have hown : s.vm.findClass RX1 = some m.cls := findClass_of_methodNamed B.named
  have hlocks := B.notSynchronized
  subst hsz
  have hD := hD0.self (sz := s.heap.size)
  generalize hAe : va_A (wY cI cJ y0 y1 y2 y3 y4 y5 y6 y7 y8 hs si ag la fo co cv ta rc ec su pe ti mn nu th) s.heap.size = A at hD ⊢
  have hA : ∀ q : Nat, s.heap.size ≤ q → A q := fun q h9 => by rw [← hAe]; exact Or.inr h9
  have hS : va_S A s.heap s.heap [] := va_S.rf
  have hin : ∀ w ∈ wsX10, w ∈ wsX1_byRoles := fun _ h9 => List.mem_cons_of_mem _ (List.mem_append_right _ h9)
  have hl := lv_entry ([.ref y0, .int a1]) (n := 2) (Nat.le_of_ble_eq_true rfl)
  rw [lg_entry_eq]
  generalize (lg_sl ([.ref y0, .int a1]) ++ List.replicate (2 - (lg_sl ([.ref y0, .int a1])).length) Slot.unset).toArray = ls at hl ⊢
  have hl : lv_has ls 2 [(0, .ref y0), (1, .int a1)] := hl
  rw [m_X1_byRoles] at h
  refine lv_aload_n hx hb dX1_byRoles_0 rfl (lv_at hl 0 rfl) ?_
  refine lv_aload_n hx hb dX1_byRoles_1 rfl (lv_at hl 0 rfl) ?_
  refine lv_iload_n hx hb dX1_byRoles_2 rfl (lv_at hl 1 rfl) ?_
  refine cl_Vi (As := [.int a1]) (rest := [.ref y0]) (wc := wY cI cJ y0 y1 y2 y3 y4 y5 y6 y7 y8 hs si ag la fo co cv ta rc ec su pe ti mn nu th) (w1 := wY cI cJ y0 y1 y2 y3 y4 y5 y6 y7 y8 hs si ag la fo co cv ta rc ec su pe ti mn nu th) (wr := []) ⟨hx, hb, hml, hown, hts⟩ (c_X1_isUser l D cI cJ y0 y1 y2 y3 y4 y5 y6 y7 y8 _ hs si ag la fo co cv ta rc ec su pe ti mn nu th a1) (cwV 1 hts gX1_byRoles_X1_isUser rfl rfl rfl (by decide +kernel) ⟨Nat.le_of_ble_eq_true rfl, Nat.le_of_ble_eq_true rfl⟩) hK hP hD hS hA [0, 1, 2, 3, 4, 5, 6, 7, 8] [] rfl rfl (by decide) (by decide) rfl rfl rfl rfl rfl hl.1 rfl (lv_room (Nat.le_of_ble_eq_true rfl)) dX1_byRoles_3 (fun H locs hP hD hS => ?_)
  have hP : va_P D vwCl (wY cI cJ y0 y1 y2 y3 y4 y5 y6 y7 y8 hs si ag la fo co cv ta rc ec su pe ti mn nu th) H := hP
  have hD : va_D A (wY cI cJ y0 y1 y2 y3 y4 y5 y6 y7 y8 hs si ag la fo co cv ta rc ec su pe ti mn nu th) := hD
  refine lv_if_eq (tgt := 13) hx hb dX1_byRoles_6 (by decide) (fun c_1 => ?_) (fun c_1 => ?_)
  · replace h := (if_pos c_1).symm.trans h
    refine lv_iconst (v := 1) hx hb dX1_byRoles_13 (by decide) ?_
    obtain ⟨r_2, th_3, e_4, h⟩ := bnd2_some h
    refine cl_Vi (As := [.int 1]) (rest := []) (wc := wY cI cJ y0 y1 y2 y3 y4 y5 y6 y7 y8 hs si ag la fo co cv ta rc ec su pe ti mn nu th) (w1 := wY cI cJ y0 y1 y2 y3 y4 y5 y6 y7 y8 hs si ag la fo co cv ta rc ec su pe ti mn nu th_3) (wr := []) ⟨hx, hb, hml, hown, hts⟩ (c_X1_holds l D cI cJ y0 y1 y2 y3 y4 y5 y6 y7 y8 _ hs si ag la fo co cv ta rc ec su pe ti mn nu th 1 r_2 th_3 e_4) (cwV 1 hts gX1_byRoles_X1_holds rfl rfl rfl (by decide +kernel) ⟨Nat.le_of_ble_eq_true rfl, Nat.le_of_ble_eq_true rfl⟩) hK hP hD hS hA [0, 1, 2, 3, 4, 5, 6, 7, 8] [] rfl rfl (by decide) (by decide) rfl rfl rfl rfl rfl hl.1 rfl (lv_room (Nat.le_of_ble_eq_true rfl)) dX1_byRoles_14 (fun H locs hP hD hS => ?_)
    have hP : va_P D vwCl (wY cI cJ y0 y1 y2 y3 y4 y5 y6 y7 y8 hs si ag la fo co cv ta rc ec su pe ti mn nu th_3) H := hP
    have hD : va_D A (wY cI cJ y0 y1 y2 y3 y4 y5 y6 y7 y8 hs si ag la fo co cv ta rc ec su pe ti mn nu th_3) := hD
    refine lv_if_eq (tgt := 24) hx hb dX1_byRoles_17 (by decide) (fun c_5 => ?_) (fun c_5 => ?_)
    · replace h := (if_pos c_5).symm.trans h
      refine lv_aload_n hx hb dX1_byRoles_24 rfl (lv_at hl 0 rfl) ?_
      refine lv_iload_n hx hb dX1_byRoles_25 rfl (lv_at hl 1 rfl) ?_
      obtain ⟨r_6, e_7, h⟩ := bnd1_some h
      refine cl_Vi (As := [.int a1]) (rest := []) (wc := wY cI cJ y0 y1 y2 y3 y4 y5 y6 y7 y8 hs si ag la fo co cv ta rc ec su pe ti mn nu th_3) (w1 := wY cI cJ y0 y1 y2 y3 y4 y5 y6 y7 y8 hs si ag la fo co cv ta rc ec su pe ti mn nu th_3) (wr := []) ⟨hx, hb, hml, hown, hts⟩ (c_X1_gotten l D cI cJ y0 y1 y2 y3 y4 y5 y6 y7 y8 _ hs si ag la fo co cv ta rc ec su pe ti mn nu th_3 fu a1 r_6 e_7) (cwV 1 hts gX1_byRoles_X1_gotten rfl rfl rfl (by decide +kernel) ⟨Nat.le_of_ble_eq_true rfl, Nat.le_of_ble_eq_true rfl⟩) hK hP hD hS hA [0, 1, 2, 3, 4, 5, 6, 7, 8] [] rfl rfl (by decide) (by decide) rfl rfl rfl rfl rfl hl.1 rfl (lv_room (Nat.le_of_ble_eq_true rfl)) dX1_byRoles_26 (fun H locs hP hD hS => ?_)
      have hP : va_P D vwCl (wY cI cJ y0 y1 y2 y3 y4 y5 y6 y7 y8 hs si ag la fo co cv ta rc ec su pe ti mn nu th_3) H := hP
      have hD : va_D A (wY cI cJ y0 y1 y2 y3 y4 y5 y6 y7 y8 hs si ag la fo co cv ta rc ec su pe ti mn nu th_3) := hD
      cases h
      exact W.iret hx hb hr (fun t ht hW => ⟨⟨_, (), rfl, rfl, by rw [ht]; exact hP, va_K.moved hW.alike hK, hD⟩, hS.F ht⟩) hS.2.2 dX1_byRoles_29
    · replace h := (if_neg c_5).symm.trans h
      refine lv_iconst (v := (-1)) hx hb dX1_byRoles_20 (by decide) ?_
      refine lv_goto (tgt := 29) hx hb dX1_byRoles_21 (by decide) ?_
      cases h
      exact W.iret hx hb hr (fun t ht hW => ⟨⟨_, (), rfl, rfl, by rw [ht]; exact hP, va_K.moved hW.alike hK, hD⟩, hS.F ht⟩) hS.2.2 dX1_byRoles_29
  · replace h := (if_neg c_1).symm.trans h
    refine lv_iconst (v := 0) hx hb dX1_byRoles_9 (by decide) ?_
    refine lv_goto (tgt := 14) hx hb dX1_byRoles_10 (by decide) ?_
    obtain ⟨r_8, th_9, e_10, h⟩ := bnd2_some h
    refine cl_Vi (As := [.int 0]) (rest := []) (wc := wY cI cJ y0 y1 y2 y3 y4 y5 y6 y7 y8 hs si ag la fo co cv ta rc ec su pe ti mn nu th) (w1 := wY cI cJ y0 y1 y2 y3 y4 y5 y6 y7 y8 hs si ag la fo co cv ta rc ec su pe ti mn nu th_9) (wr := []) ⟨hx, hb, hml, hown, hts⟩ (c_X1_holds l D cI cJ y0 y1 y2 y3 y4 y5 y6 y7 y8 _ hs si ag la fo co cv ta rc ec su pe ti mn nu th 0 r_8 th_9 e_10) (cwV 1 hts gX1_byRoles_X1_holds rfl rfl rfl (by decide +kernel) ⟨Nat.le_of_ble_eq_true rfl, Nat.le_of_ble_eq_true rfl⟩) hK hP hD hS hA [0, 1, 2, 3, 4, 5, 6, 7, 8] [] rfl rfl (by decide) (by decide) rfl rfl rfl rfl rfl hl.1 rfl (lv_room (Nat.le_of_ble_eq_true rfl)) dX1_byRoles_14 (fun H locs hP hD hS => ?_)
    have hP : va_P D vwCl (wY cI cJ y0 y1 y2 y3 y4 y5 y6 y7 y8 hs si ag la fo co cv ta rc ec su pe ti mn nu th_9) H := hP
    have hD : va_D A (wY cI cJ y0 y1 y2 y3 y4 y5 y6 y7 y8 hs si ag la fo co cv ta rc ec su pe ti mn nu th_9) := hD
    refine lv_if_eq (tgt := 24) hx hb dX1_byRoles_17 (by decide) (fun c_11 => ?_) (fun c_11 => ?_)
    · replace h := (if_pos c_11).symm.trans h
      refine lv_aload_n hx hb dX1_byRoles_24 rfl (lv_at hl 0 rfl) ?_
      refine lv_iload_n hx hb dX1_byRoles_25 rfl (lv_at hl 1 rfl) ?_
      obtain ⟨r_12, e_13, h⟩ := bnd1_some h
      refine cl_Vi (As := [.int a1]) (rest := []) (wc := wY cI cJ y0 y1 y2 y3 y4 y5 y6 y7 y8 hs si ag la fo co cv ta rc ec su pe ti mn nu th_9) (w1 := wY cI cJ y0 y1 y2 y3 y4 y5 y6 y7 y8 hs si ag la fo co cv ta rc ec su pe ti mn nu th_9) (wr := []) ⟨hx, hb, hml, hown, hts⟩ (c_X1_gotten l D cI cJ y0 y1 y2 y3 y4 y5 y6 y7 y8 _ hs si ag la fo co cv ta rc ec su pe ti mn nu th_9 fu a1 r_12 e_13) (cwV 1 hts gX1_byRoles_X1_gotten rfl rfl rfl (by decide +kernel) ⟨Nat.le_of_ble_eq_true rfl, Nat.le_of_ble_eq_true rfl⟩) hK hP hD hS hA [0, 1, 2, 3, 4, 5, 6, 7, 8] [] rfl rfl (by decide) (by decide) rfl rfl rfl rfl rfl hl.1 rfl (lv_room (Nat.le_of_ble_eq_true rfl)) dX1_byRoles_26 (fun H locs hP hD hS => ?_)
      have hP : va_P D vwCl (wY cI cJ y0 y1 y2 y3 y4 y5 y6 y7 y8 hs si ag la fo co cv ta rc ec su pe ti mn nu th_9) H := hP
      have hD : va_D A (wY cI cJ y0 y1 y2 y3 y4 y5 y6 y7 y8 hs si ag la fo co cv ta rc ec su pe ti mn nu th_9) := hD
      cases h
      exact W.iret hx hb hr (fun t ht hW => ⟨⟨_, (), rfl, rfl, by rw [ht]; exact hP, va_K.moved hW.alike hK, hD⟩, hS.F ht⟩) hS.2.2 dX1_byRoles_29
    · replace h := (if_neg c_11).symm.trans h
      refine lv_iconst (v := (-1)) hx hb dX1_byRoles_20 (by decide) ?_
      refine lv_goto (tgt := 29) hx hb dX1_byRoles_21 (by decide) ?_
      cases h
      exact W.iret hx hb hr (fun t ht hW => ⟨⟨_, (), rfl, rfl, by rw [ht]; exact hP, va_K.moved hW.alike hK, hD⟩, hS.F ht⟩) hS.2.2 dX1_byRoles_29
-- X1_exceptions
def m_X1_exceptions (fu : Nat) (hs : Nat → Int32) (la : Nat → Int32) (mn : Int32) (th : Int32) (a1 : Int32) : Option ((Int32) × ((Int32))) := (if (m_X1_isUser a1) = 0 then (bnd2 (m_X1_holds th 1) (fun r_2 th_3 => (if r_2 = 0 then (ix a1 8 (bnd1 (m_X1_gotten fu hs la mn a1) (fun r_7 => some (((hs (Int32.toNatClampNeg a1)) &&& (r_7 ^^^ (-1))), th_3)))) else some ((-1), th_3)))) else (bnd2 (m_X1_holds th 0) (fun r_9 th_10 => (if r_9 = 0 then (ix a1 8 (bnd1 (m_X1_gotten fu hs la mn a1) (fun r_14 => some (((hs (Int32.toNatClampNeg a1)) &&& (r_14 ^^^ (-1))), th_10)))) else some ((-1), th_10)))))
set_option maxHeartbeats 4000000 in
set_option maxRecDepth 100000 in
theorem c_X1_exceptions (l : Launch) (D : va_G) (cI cJ : ClassId) (y0 y1 y2 y3 y4 y5 y6 y7 y8 : Nat) (sz : Nat) (hs : Nat → Int32) (si : Nat → Int32) (ag : Nat → Int32) (la : Nat → Int32) (fo : Nat → Int32) (co : Nat → Int32) (cv : Nat → Int32) (ta : Nat → Int32) (rc : Int32) (ec : Int32) (su : Int32) (pe : Int32) (ti : Int32) (mn : Int32) (nu : Int32) (th : Int32) (fu : Nat) (a1 : Int32) (r0 : Int32) (th' : Int32) (h : m_X1_exceptions fu hs la mn th a1 = some (r0, th')) : Met l yX1_exceptions wsX1_exceptions ({ frames := 2, cells := 0, slots := 0, locals := 45 }) (va_Pc [.ref y0, .int a1] (bx_Pre D [(cI, .int), (cJ, .long)] (wY cI cJ y0 y1 y2 y3 y4 y5 y6 y7 y8 hs si ag la fo co cv ta rc ec su pe ti mn nu th) sz)) (va_Qi (fun (r : Int32) (_ : Unit) => r = r0) (fun (_ : Unit) t => bx_Post D [(cI, .int), (cJ, .long)] (wY cI cJ y0 y1 y2 y3 y4 y5 y6 y7 y8 hs si ag la fo co cv ta rc ec su pe ti mn nu th') (va_A (wY cI cJ y0 y1 y2 y3 y4 y5 y6 y7 y8 hs si ag la fo co cv ta rc ec su pe ti mn nu th) sz) t) (va_A (wY cI cJ y0 y1 y2 y3 y4 y5 y6 y7 y8 hs si ag la fo co cv ta rc ec su pe ti mn nu th) sz)) 0 0 (va_A (wY cI cJ y0 y1 y2 y3 y4 y5 y6 y7 y8 hs si ag la fo co cv ta rc ec su pe ti mn nu th) sz) := by
  refine Met.ofW (cc := cX1_exceptions) (maxL := 2) (ret := (some .int)) (by decide) rfl ?_
  intro p e s m args below meth c s₁ B hml hv
  obtain ⟨rfl, hsz, hP, hK, hD0⟩ := hv
  have hx := B.exec
  have hb := B.bytes
  have hr := B.returns
  have hts := atoms_spec (ws := wsX1_exceptions) B.pre
  have hown : s.vm.findClass RX1 = some m.cls := findClass_of_methodNamed B.named
  have hlocks := B.notSynchronized
  subst hsz
  have hD := hD0.self (sz := s.heap.size)
  generalize hAe : va_A (wY cI cJ y0 y1 y2 y3 y4 y5 y6 y7 y8 hs si ag la fo co cv ta rc ec su pe ti mn nu th) s.heap.size = A at hD ⊢
  have hA : ∀ q : Nat, s.heap.size ≤ q → A q := fun q h9 => by rw [← hAe]; exact Or.inr h9
  have hS : va_S A s.heap s.heap [] := va_S.rf
  have hin : ∀ w ∈ wsX10, w ∈ wsX1_exceptions := fun _ h9 => List.mem_cons_of_mem _ (List.mem_append_right _ h9)
  have hw_0 := hts (.fieldLink RX1 7 "RoleMinerModel" "has" "[I") (by decide +kernel)
  have hl := lv_entry ([.ref y0, .int a1]) (n := 2) (Nat.le_of_ble_eq_true rfl)
  rw [lg_entry_eq]
  generalize (lg_sl ([.ref y0, .int a1]) ++ List.replicate (2 - (lg_sl ([.ref y0, .int a1])).length) Slot.unset).toArray = ls at hl ⊢
  have hl : lv_has ls 2 [(0, .ref y0), (1, .int a1)] := hl
  rw [m_X1_exceptions] at h
  refine lv_aload_n hx hb dX1_exceptions_0 rfl (lv_at hl 0 rfl) ?_
  refine lv_aload_n hx hb dX1_exceptions_1 rfl (lv_at hl 0 rfl) ?_
  refine lv_iload_n hx hb dX1_exceptions_2 rfl (lv_at hl 1 rfl) ?_
  refine cl_Vi (As := [.int a1]) (rest := [.ref y0]) (wc := wY cI cJ y0 y1 y2 y3 y4 y5 y6 y7 y8 hs si ag la fo co cv ta rc ec su pe ti mn nu th) (w1 := wY cI cJ y0 y1 y2 y3 y4 y5 y6 y7 y8 hs si ag la fo co cv ta rc ec su pe ti mn nu th) (wr := []) ⟨hx, hb, hml, hown, hts⟩ (c_X1_isUser l D cI cJ y0 y1 y2 y3 y4 y5 y6 y7 y8 _ hs si ag la fo co cv ta rc ec su pe ti mn nu th a1) (cwV 1 hts gX1_exceptions_X1_isUser rfl rfl rfl (by decide +kernel) ⟨Nat.le_of_ble_eq_true rfl, Nat.le_of_ble_eq_true rfl⟩) hK hP hD hS hA [0, 1, 2, 3, 4, 5, 6, 7, 8] [] rfl rfl (by decide) (by decide) rfl rfl rfl rfl rfl hl.1 rfl (lv_room (Nat.le_of_ble_eq_true rfl)) dX1_exceptions_3 (fun H locs hP hD hS => ?_)
  have hP : va_P D vwCl (wY cI cJ y0 y1 y2 y3 y4 y5 y6 y7 y8 hs si ag la fo co cv ta rc ec su pe ti mn nu th) H := hP
  have hD : va_D A (wY cI cJ y0 y1 y2 y3 y4 y5 y6 y7 y8 hs si ag la fo co cv ta rc ec su pe ti mn nu th) := hD
  refine lv_if_eq (tgt := 13) hx hb dX1_exceptions_6 (by decide) (fun c_1 => ?_) (fun c_1 => ?_)
  · replace h := (if_pos c_1).symm.trans h
    refine lv_iconst (v := 1) hx hb dX1_exceptions_13 (by decide) ?_
    obtain ⟨r_2, th_3, e_4, h⟩ := bnd2_some h
    refine cl_Vi (As := [.int 1]) (rest := []) (wc := wY cI cJ y0 y1 y2 y3 y4 y5 y6 y7 y8 hs si ag la fo co cv ta rc ec su pe ti mn nu th) (w1 := wY cI cJ y0 y1 y2 y3 y4 y5 y6 y7 y8 hs si ag la fo co cv ta rc ec su pe ti mn nu th_3) (wr := []) ⟨hx, hb, hml, hown, hts⟩ (c_X1_holds l D cI cJ y0 y1 y2 y3 y4 y5 y6 y7 y8 _ hs si ag la fo co cv ta rc ec su pe ti mn nu th 1 r_2 th_3 e_4) (cwV 1 hts gX1_exceptions_X1_holds rfl rfl rfl (by decide +kernel) ⟨Nat.le_of_ble_eq_true rfl, Nat.le_of_ble_eq_true rfl⟩) hK hP hD hS hA [0, 1, 2, 3, 4, 5, 6, 7, 8] [] rfl rfl (by decide) (by decide) rfl rfl rfl rfl rfl hl.1 rfl (lv_room (Nat.le_of_ble_eq_true rfl)) dX1_exceptions_14 (fun H locs hP hD hS => ?_)
    have hP : va_P D vwCl (wY cI cJ y0 y1 y2 y3 y4 y5 y6 y7 y8 hs si ag la fo co cv ta rc ec su pe ti mn nu th_3) H := hP
    have hD : va_D A (wY cI cJ y0 y1 y2 y3 y4 y5 y6 y7 y8 hs si ag la fo co cv ta rc ec su pe ti mn nu th_3) := hD
    refine lv_if_eq (tgt := 24) hx hb dX1_exceptions_17 (by decide) (fun c_5 => ?_) (fun c_5 => ?_)
    · replace h := (if_pos c_5).symm.trans h
      refine lv_aload_n hx hb dX1_exceptions_24 rfl (lv_at hl 0 rfl) ?_
      refine va_get (D := D) (ci := 1) (v := .ref y1) (C := RX1) (T := TX1) (N := 16) hx hb hts hin hown hK hP 0 rfl rfl 0 (by decide) hw_0 (fun _ h9 => h9) rfl dX1_exceptions_25 ?_
      refine lv_iload_n hx hb dX1_exceptions_28 rfl (lv_at hl 1 rfl) ?_
      obtain ⟨h_6, h⟩ := ix_some h
      refine va_iald hx hb hK hP 1 0 rfl rfl h_6 dX1_exceptions_29 ?_
      refine lv_aload_n hx hb dX1_exceptions_30 rfl (lv_at hl 0 rfl) ?_
      refine lv_iload_n hx hb dX1_exceptions_31 rfl (lv_at hl 1 rfl) ?_
      obtain ⟨r_7, e_8, h⟩ := bnd1_some h
      refine cl_Vi (As := [.int a1]) (rest := [.int (hs (Int32.toNatClampNeg a1))]) (wc := wY cI cJ y0 y1 y2 y3 y4 y5 y6 y7 y8 hs si ag la fo co cv ta rc ec su pe ti mn nu th_3) (w1 := wY cI cJ y0 y1 y2 y3 y4 y5 y6 y7 y8 hs si ag la fo co cv ta rc ec su pe ti mn nu th_3) (wr := []) ⟨hx, hb, hml, hown, hts⟩ (c_X1_gotten l D cI cJ y0 y1 y2 y3 y4 y5 y6 y7 y8 _ hs si ag la fo co cv ta rc ec su pe ti mn nu th_3 fu a1 r_7 e_8) (cwV 1 hts gX1_exceptions_X1_gotten rfl rfl rfl (by decide +kernel) ⟨Nat.le_of_ble_eq_true rfl, Nat.le_of_ble_eq_true rfl⟩) hK hP hD hS hA [0, 1, 2, 3, 4, 5, 6, 7, 8] [] rfl rfl (by decide) (by decide) rfl rfl rfl rfl rfl hl.1 rfl (lv_room (Nat.le_of_ble_eq_true rfl)) dX1_exceptions_32 (fun H locs hP hD hS => ?_)
      have hP : va_P D vwCl (wY cI cJ y0 y1 y2 y3 y4 y5 y6 y7 y8 hs si ag la fo co cv ta rc ec su pe ti mn nu th_3) H := hP
      have hD : va_D A (wY cI cJ y0 y1 y2 y3 y4 y5 y6 y7 y8 hs si ag la fo co cv ta rc ec su pe ti mn nu th_3) := hD
      refine lv_iconst (v := (-1)) hx hb dX1_exceptions_35 (by decide) ?_
      refine lv_ixor hx hb dX1_exceptions_36 ?_
      refine lv_iand hx hb dX1_exceptions_37 ?_
      cases h
      exact W.iret hx hb hr (fun t ht hW => ⟨⟨_, (), rfl, rfl, by rw [ht]; exact hP, va_K.moved hW.alike hK, hD⟩, hS.F ht⟩) hS.2.2 dX1_exceptions_38
    · replace h := (if_neg c_5).symm.trans h
      refine lv_iconst (v := (-1)) hx hb dX1_exceptions_20 (by decide) ?_
      refine lv_goto (tgt := 38) hx hb dX1_exceptions_21 (by decide) ?_
      cases h
      exact W.iret hx hb hr (fun t ht hW => ⟨⟨_, (), rfl, rfl, by rw [ht]; exact hP, va_K.moved hW.alike hK, hD⟩, hS.F ht⟩) hS.2.2 dX1_exceptions_38
  · replace h := (if_neg c_1).symm.trans h
    refine lv_iconst (v := 0) hx hb dX1_exceptions_9 (by decide) ?_
    refine lv_goto (tgt := 14) hx hb dX1_exceptions_10 (by decide) ?_
    obtain ⟨r_9, th_10, e_11, h⟩ := bnd2_some h
    refine cl_Vi (As := [.int 0]) (rest := []) (wc := wY cI cJ y0 y1 y2 y3 y4 y5 y6 y7 y8 hs si ag la fo co cv ta rc ec su pe ti mn nu th) (w1 := wY cI cJ y0 y1 y2 y3 y4 y5 y6 y7 y8 hs si ag la fo co cv ta rc ec su pe ti mn nu th_10) (wr := []) ⟨hx, hb, hml, hown, hts⟩ (c_X1_holds l D cI cJ y0 y1 y2 y3 y4 y5 y6 y7 y8 _ hs si ag la fo co cv ta rc ec su pe ti mn nu th 0 r_9 th_10 e_11) (cwV 1 hts gX1_exceptions_X1_holds rfl rfl rfl (by decide +kernel) ⟨Nat.le_of_ble_eq_true rfl, Nat.le_of_ble_eq_true rfl⟩) hK hP hD hS hA [0, 1, 2, 3, 4, 5, 6, 7, 8] [] rfl rfl (by decide) (by decide) rfl rfl rfl rfl rfl hl.1 rfl (lv_room (Nat.le_of_ble_eq_true rfl)) dX1_exceptions_14 (fun H locs hP hD hS => ?_)
    have hP : va_P D vwCl (wY cI cJ y0 y1 y2 y3 y4 y5 y6 y7 y8 hs si ag la fo co cv ta rc ec su pe ti mn nu th_10) H := hP
    have hD : va_D A (wY cI cJ y0 y1 y2 y3 y4 y5 y6 y7 y8 hs si ag la fo co cv ta rc ec su pe ti mn nu th_10) := hD
    refine lv_if_eq (tgt := 24) hx hb dX1_exceptions_17 (by decide) (fun c_12 => ?_) (fun c_12 => ?_)
    · replace h := (if_pos c_12).symm.trans h
      refine lv_aload_n hx hb dX1_exceptions_24 rfl (lv_at hl 0 rfl) ?_
      refine va_get (D := D) (ci := 1) (v := .ref y1) (C := RX1) (T := TX1) (N := 16) hx hb hts hin hown hK hP 0 rfl rfl 0 (by decide) hw_0 (fun _ h9 => h9) rfl dX1_exceptions_25 ?_
      refine lv_iload_n hx hb dX1_exceptions_28 rfl (lv_at hl 1 rfl) ?_
      obtain ⟨h_13, h⟩ := ix_some h
      refine va_iald hx hb hK hP 1 0 rfl rfl h_13 dX1_exceptions_29 ?_
      refine lv_aload_n hx hb dX1_exceptions_30 rfl (lv_at hl 0 rfl) ?_
      refine lv_iload_n hx hb dX1_exceptions_31 rfl (lv_at hl 1 rfl) ?_
      obtain ⟨r_14, e_15, h⟩ := bnd1_some h
      refine cl_Vi (As := [.int a1]) (rest := [.int (hs (Int32.toNatClampNeg a1))]) (wc := wY cI cJ y0 y1 y2 y3 y4 y5 y6 y7 y8 hs si ag la fo co cv ta rc ec su pe ti mn nu th_10) (w1 := wY cI cJ y0 y1 y2 y3 y4 y5 y6 y7 y8 hs si ag la fo co cv ta rc ec su pe ti mn nu th_10) (wr := []) ⟨hx, hb, hml, hown, hts⟩ (c_X1_gotten l D cI cJ y0 y1 y2 y3 y4 y5 y6 y7 y8 _ hs si ag la fo co cv ta rc ec su pe ti mn nu th_10 fu a1 r_14 e_15) (cwV 1 hts gX1_exceptions_X1_gotten rfl rfl rfl (by decide +kernel) ⟨Nat.le_of_ble_eq_true rfl, Nat.le_of_ble_eq_true rfl⟩) hK hP hD hS hA [0, 1, 2, 3, 4, 5, 6, 7, 8] [] rfl rfl (by decide) (by decide) rfl rfl rfl rfl rfl hl.1 rfl (lv_room (Nat.le_of_ble_eq_true rfl)) dX1_exceptions_32 (fun H locs hP hD hS => ?_)
      have hP : va_P D vwCl (wY cI cJ y0 y1 y2 y3 y4 y5 y6 y7 y8 hs si ag la fo co cv ta rc ec su pe ti mn nu th_10) H := hP
      have hD : va_D A (wY cI cJ y0 y1 y2 y3 y4 y5 y6 y7 y8 hs si ag la fo co cv ta rc ec su pe ti mn nu th_10) := hD
      refine lv_iconst (v := (-1)) hx hb dX1_exceptions_35 (by decide) ?_
      refine lv_ixor hx hb dX1_exceptions_36 ?_
      refine lv_iand hx hb dX1_exceptions_37 ?_
      cases h
      exact W.iret hx hb hr (fun t ht hW => ⟨⟨_, (), rfl, rfl, by rw [ht]; exact hP, va_K.moved hW.alike hK, hD⟩, hS.F ht⟩) hS.2.2 dX1_exceptions_38
    · replace h := (if_neg c_12).symm.trans h
      refine lv_iconst (v := (-1)) hx hb dX1_exceptions_20 (by decide) ?_
      refine lv_goto (tgt := 38) hx hb dX1_exceptions_21 (by decide) ?_
      cases h
      exact W.iret hx hb hr (fun t ht hW => ⟨⟨_, (), rfl, rfl, by rw [ht]; exact hP, va_K.moved hW.alike hK, hD⟩, hS.F ht⟩) hS.2.2 dX1_exceptions_38
-- X1_cost
def m_X1_cost_17 (fu : Nat) (hs : Nat → Int32) (la : Nat → Int32) (rc : Int32) (ec : Int32) (mn : Int32) : Nat → Int32 → Int32 → (Int32) → Option ((Int32) × ((Int32)))
  | 0, _, _, _ => none
  | n + 1, v1, v2, th => (if 8 ≤ v2 then some (v1, th) else (ix v2 8 (bnd1 (m_X1_gotten fu hs la mn v2) (fun r_3 => (bnd1 (m_X1_size fu ((hs (Int32.toNatClampNeg v2)) &&& (r_3 ^^^ (-1)))) (fun r_5 => (m_X1_cost_17 fu hs la rc ec mn n (v1 + (ec * r_5)) (v2 + 1) th)))))))
def m_X1_cost (fu : Nat) (hs : Nat → Int32) (la : Nat → Int32) (rc : Int32) (ec : Int32) (mn : Int32) (th : Int32) : Option ((Int32) × ((Int32))) := (m_X1_cost_17 fu hs la rc ec mn fu (rc * mn) 0 0)
set_option maxHeartbeats 4000000 in
set_option maxRecDepth 100000 in
theorem c_X1_cost (l : Launch) (D : va_G) (cI cJ : ClassId) (y0 y1 y2 y3 y4 y5 y6 y7 y8 : Nat) (sz : Nat) (hs : Nat → Int32) (si : Nat → Int32) (ag : Nat → Int32) (la : Nat → Int32) (fo : Nat → Int32) (co : Nat → Int32) (cv : Nat → Int32) (ta : Nat → Int32) (rc : Int32) (ec : Int32) (su : Int32) (pe : Int32) (ti : Int32) (mn : Int32) (nu : Int32) (th : Int32) (fu : Nat) (r0 : Int32) (th' : Int32) (h : m_X1_cost fu hs la rc ec mn th = some (r0, th')) : Met l yX1_cost wsX1_cost ({ frames := 2, cells := 0, slots := 0, locals := 45 }) (va_Pc [.ref y0] (bx_Pre D [(cI, .int), (cJ, .long)] (wY cI cJ y0 y1 y2 y3 y4 y5 y6 y7 y8 hs si ag la fo co cv ta rc ec su pe ti mn nu th) sz)) (va_Qi (fun (r : Int32) (_ : Unit) => r = r0) (fun (_ : Unit) t => bx_Post D [(cI, .int), (cJ, .long)] (wY cI cJ y0 y1 y2 y3 y4 y5 y6 y7 y8 hs si ag la fo co cv ta rc ec su pe ti mn nu th') (va_A (wY cI cJ y0 y1 y2 y3 y4 y5 y6 y7 y8 hs si ag la fo co cv ta rc ec su pe ti mn nu th) sz) t) (va_A (wY cI cJ y0 y1 y2 y3 y4 y5 y6 y7 y8 hs si ag la fo co cv ta rc ec su pe ti mn nu th) sz)) 0 0 (va_A (wY cI cJ y0 y1 y2 y3 y4 y5 y6 y7 y8 hs si ag la fo co cv ta rc ec su pe ti mn nu th) sz) := by
  refine Met.ofW (cc := cX1_cost) (maxL := 3) (ret := (some .int)) (by decide) rfl ?_
  intro p e s m args below meth c s₁ B hml hv
  obtain ⟨rfl, hsz, hP, hK, hD0⟩ := hv
  have hx := B.exec
  have hb := B.bytes
  have hr := B.returns
  have hts := atoms_spec (ws := wsX1_cost) B.pre
  have hown : s.vm.findClass RX1 = some m.cls := findClass_of_methodNamed B.named
  have hlocks := B.notSynchronized
  subst hsz
  have hD := hD0.self (sz := s.heap.size)
  generalize hAe : va_A (wY cI cJ y0 y1 y2 y3 y4 y5 y6 y7 y8 hs si ag la fo co cv ta rc ec su pe ti mn nu th) s.heap.size = A at hD ⊢
  have hA : ∀ q : Nat, s.heap.size ≤ q → A q := fun q h9 => by rw [← hAe]; exact Or.inr h9
  have hS : va_S A s.heap s.heap [] := va_S.rf
  have hin : ∀ w ∈ wsX10, w ∈ wsX1_cost := fun _ h9 => List.mem_cons_of_mem _ (List.mem_append_right _ h9)
  have hw_0 := hts (.fieldLink RX1 47 "RoleMinerModel" "thrown" "I") (by decide +kernel)
  have hw_1 := hts (.fieldLink RX1 34 "RoleMinerModel" "roleCost" "I") (by decide +kernel)
  have hw_2 := hts (.fieldLink RX1 112 "RoleMinerModel" "many" "I") (by decide +kernel)
  have hw_3 := hts (.fieldLink RX1 38 "RoleMinerModel" "exceptionCost" "I") (by decide +kernel)
  have hw_4 := hts (.fieldLink RX1 7 "RoleMinerModel" "has" "[I") (by decide +kernel)
  have hl := lv_entry ([.ref y0]) (n := 3) (Nat.le_of_ble_eq_true rfl)
  rw [lg_entry_eq]
  generalize (lg_sl ([.ref y0]) ++ List.replicate (3 - (lg_sl ([.ref y0])).length) Slot.unset).toArray = ls at hl ⊢
  have hl : lv_has ls 3 [(0, .ref y0)] := hl
  have L17 : ∀ (n : Nat) (v1 : Int32) (v2 : Int32) (th : Int32) (H : Heap) (locs : List Loc) (ls : Array Slot), m_X1_cost_17 fu hs la rc ec mn n v1 v2 th = some (r0, th') → va_P D vwCl (wY cI cJ y0 y1 y2 y3 y4 y5 y6 y7 y8 hs si ag la fo co cv ta rc ec su pe ti mn nu th) H → va_D A (wY cI cJ y0 y1 y2 y3 y4 y5 y6 y7 y8 hs si ag la fo co cv ta rc ec su pe ti mn nu th) → va_S A s.heap H locs → lv_has ls 3 [(0, .ref y0), (1, .int v1), (2, .int v2)] → W p l e (headSpec wsX1_cost ({ frames := 2, cells := 0, slots := 0, locals := 45 })).room s m ([.ref y0] : List Value).toArray below meth c H locs 0 0 (MQ below (va_Qi (fun (r : Int32) (_ : Unit) => r = r0) (fun (_ : Unit) t => bx_Post D [(cI, .int), (cJ, .long)] (wY cI cJ y0 y1 y2 y3 y4 y5 y6 y7 y8 hs si ag la fo co cv ta rc ec su pe ti mn nu th') A t) A) ([.ref y0] : List Value).toArray s 0 0 A) (F0 m 17 ls []) := by
    intro n
    induction n with
    | zero =>
      intro v1 v2 th H locs ls h
      rw [m_X1_cost_17] at h
      cases h
    | succ n ih =>
      intro v1 v2 th H locs ls h hP hD hS hl
      rw [m_X1_cost_17] at h
      refine lv_iload_n hx hb dX1_cost_17 rfl (lv_at hl 2 rfl) ?_
      refine lv_bipush (v := 8) hx hb dX1_cost_18 (by decide) ?_
      refine lv_icmp_ge (tgt := 55) hx hb dX1_cost_20 (by decide) (fun c_1 => ?_) (fun c_1 => ?_)
      · replace h := (if_pos c_1).symm.trans h
        refine lv_iload_n hx hb dX1_cost_55 rfl (lv_at hl 1 rfl) ?_
        cases h
        exact W.iret hx hb hr (fun t ht hW => ⟨⟨_, (), rfl, rfl, by rw [ht]; exact hP, va_K.moved hW.alike hK, hD⟩, hS.F ht⟩) hS.2.2 dX1_cost_56
      · replace h := (if_neg c_1).symm.trans h
        refine lv_iload_n hx hb dX1_cost_23 rfl (lv_at hl 1 rfl) ?_
        refine lv_aload_n hx hb dX1_cost_24 rfl (lv_at hl 0 rfl) ?_
        refine va_get (D := D) (ci := 1) (v := .int ec) (C := RX1) (T := TX1) (N := 16) hx hb hts hin hown hK hP 0 rfl rfl 9 (by decide) hw_3 (fun _ h9 => h9) rfl dX1_cost_25 ?_
        refine lv_aload_n hx hb dX1_cost_28 rfl (lv_at hl 0 rfl) ?_
        refine lv_aload_n hx hb dX1_cost_29 rfl (lv_at hl 0 rfl) ?_
        refine va_get (D := D) (ci := 1) (v := .ref y1) (C := RX1) (T := TX1) (N := 16) hx hb hts hin hown hK hP 0 rfl rfl 0 (by decide) hw_4 (fun _ h9 => h9) rfl dX1_cost_30 ?_
        refine lv_iload_n hx hb dX1_cost_33 rfl (lv_at hl 2 rfl) ?_
        obtain ⟨h_2, h⟩ := ix_some h
        refine va_iald hx hb hK hP 1 0 rfl rfl h_2 dX1_cost_34 ?_
        refine lv_aload_n hx hb dX1_cost_35 rfl (lv_at hl 0 rfl) ?_
        refine lv_iload_n hx hb dX1_cost_36 rfl (lv_at hl 2 rfl) ?_
        obtain ⟨r_3, e_4, h⟩ := bnd1_some h
        refine cl_Vi (As := [.int v2]) (rest := [.int (hs (Int32.toNatClampNeg v2)), .ref y0, .int ec, .int v1]) (wc := wY cI cJ y0 y1 y2 y3 y4 y5 y6 y7 y8 hs si ag la fo co cv ta rc ec su pe ti mn nu th) (w1 := wY cI cJ y0 y1 y2 y3 y4 y5 y6 y7 y8 hs si ag la fo co cv ta rc ec su pe ti mn nu th) (wr := []) ⟨hx, hb, hml, hown, hts⟩ (c_X1_gotten l D cI cJ y0 y1 y2 y3 y4 y5 y6 y7 y8 _ hs si ag la fo co cv ta rc ec su pe ti mn nu th fu v2 r_3 e_4) (cwV 1 hts gX1_cost_X1_gotten rfl rfl rfl (by decide +kernel) ⟨Nat.le_of_ble_eq_true rfl, Nat.le_of_ble_eq_true rfl⟩) hK hP hD hS hA [0, 1, 2, 3, 4, 5, 6, 7, 8] [] rfl rfl (by decide) (by decide) rfl rfl rfl rfl rfl hl.1 rfl (lv_room (Nat.le_of_ble_eq_true rfl)) dX1_cost_37 (fun H locs hP hD hS => ?_)
        have hP : va_P D vwCl (wY cI cJ y0 y1 y2 y3 y4 y5 y6 y7 y8 hs si ag la fo co cv ta rc ec su pe ti mn nu th) H := hP
        have hD : va_D A (wY cI cJ y0 y1 y2 y3 y4 y5 y6 y7 y8 hs si ag la fo co cv ta rc ec su pe ti mn nu th) := hD
        refine lv_iconst (v := (-1)) hx hb dX1_cost_40 (by decide) ?_
        refine lv_ixor hx hb dX1_cost_41 ?_
        refine lv_iand hx hb dX1_cost_42 ?_
        obtain ⟨r_5, e_6, h⟩ := bnd1_some h
        refine cl_Vi (As := [.int ((hs (Int32.toNatClampNeg v2)) &&& (r_3 ^^^ (-1)))]) (rest := [.int ec, .int v1]) (wc := wY cI cJ y0 y1 y2 y3 y4 y5 y6 y7 y8 hs si ag la fo co cv ta rc ec su pe ti mn nu th) (w1 := wY cI cJ y0 y1 y2 y3 y4 y5 y6 y7 y8 hs si ag la fo co cv ta rc ec su pe ti mn nu th) (wr := []) ⟨hx, hb, hml, hown, hts⟩ (c_X1_size l D cI cJ y0 y1 y2 y3 y4 y5 y6 y7 y8 _ hs si ag la fo co cv ta rc ec su pe ti mn nu th fu ((hs (Int32.toNatClampNeg v2)) &&& (r_3 ^^^ (-1))) r_5 e_6) (cwV 1 hts gX1_cost_X1_size rfl rfl rfl (by decide +kernel) ⟨Nat.le_of_ble_eq_true rfl, Nat.le_of_ble_eq_true rfl⟩) hK hP hD hS hA [0, 1, 2, 3, 4, 5, 6, 7, 8] [] rfl rfl (by decide) (by decide) rfl rfl rfl rfl rfl hl.1 rfl (lv_room (Nat.le_of_ble_eq_true rfl)) dX1_cost_43 (fun H locs hP hD hS => ?_)
        have hP : va_P D vwCl (wY cI cJ y0 y1 y2 y3 y4 y5 y6 y7 y8 hs si ag la fo co cv ta rc ec su pe ti mn nu th) H := hP
        have hD : va_D A (wY cI cJ y0 y1 y2 y3 y4 y5 y6 y7 y8 hs si ag la fo co cv ta rc ec su pe ti mn nu th) := hD
        refine lv_imul hx hb dX1_cost_46 ?_
        refine lv_iadd hx hb dX1_cost_47 ?_
        refine lv_istore_n (lv' := [(1, .int (v1 + (ec * r_5))), (0, .ref y0), (2, .int v2)]) hx hb dX1_cost_48 rfl hl (by decide) rfl (fun ls hl => ?_)
        refine lv_iinc (v := (v2 + 1)) (lv' := [(2, .int (v2 + 1)), (1, .int (v1 + (ec * r_5))), (0, .ref y0)]) hx hb dX1_cost_49 hl (k := 2) rfl rfl (by decide) rfl (fun ls hl => ?_)
        refine lv_goto (tgt := 17) hx hb dX1_cost_52 (by decide) ?_
        exact ih (v1 + (ec * r_5)) (v2 + 1) th _ _ _ h hP hD hS (lv_sub hl [2, 1, 0] rfl)
  rw [m_X1_cost] at h
  refine lv_aload_n hx hb dX1_cost_0 rfl (lv_at hl 0 rfl) ?_
  refine lv_iconst (v := 0) hx hb dX1_cost_1 (by decide) ?_
  refine va_put (D := D) (ci := 1) (v := .int 0) (ty := .int) (C := RX1) (T := TX1) (N := 16) hx hb hts hin tyX1 tyX1_ok nmX1 hown hK hP hD hS 0 rfl rfl 15 (by decide) hw_0 (fun _ h9 => h9) rfl (by decide +kernel) rfl rfl (Nat.le_of_ble_eq_true rfl) dX1_cost_2 (fun H locs hP hD hS => ?_)
  have hP : va_P D vwCl (wY cI cJ y0 y1 y2 y3 y4 y5 y6 y7 y8 hs si ag la fo co cv ta rc ec su pe ti mn nu 0) H := hP
  have hD : va_D A (wY cI cJ y0 y1 y2 y3 y4 y5 y6 y7 y8 hs si ag la fo co cv ta rc ec su pe ti mn nu 0) := hD
  refine lv_aload_n hx hb dX1_cost_5 rfl (lv_at hl 0 rfl) ?_
  refine va_get (D := D) (ci := 1) (v := .int rc) (C := RX1) (T := TX1) (N := 16) hx hb hts hin hown hK hP 0 rfl rfl 8 (by decide) hw_1 (fun _ h9 => h9) rfl dX1_cost_6 ?_
  refine lv_aload_n hx hb dX1_cost_9 rfl (lv_at hl 0 rfl) ?_
  refine va_get (D := D) (ci := 1) (v := .int mn) (C := RX1) (T := TX1) (N := 16) hx hb hts hin hown hK hP 0 rfl rfl 13 (by decide) hw_2 (fun _ h9 => h9) rfl dX1_cost_10 ?_
  refine lv_imul hx hb dX1_cost_13 ?_
  refine lv_istore_n (lv' := [(1, .int (rc * mn)), (0, .ref y0)]) hx hb dX1_cost_14 rfl hl (by decide) rfl (fun ls hl => ?_)
  refine lv_iconst (v := 0) hx hb dX1_cost_15 (by decide) ?_
  refine lv_istore_n (lv' := [(2, .int 0), (1, .int (rc * mn)), (0, .ref y0)]) hx hb dX1_cost_16 rfl hl (by decide) rfl (fun ls hl => ?_)
  exact L17 fu (rc * mn) 0 0 _ _ _ h hP hD hS (lv_sub hl [2, 1, 0] rfl)
-- X1_isRisky
def m_X1_isRisky_24 (fu : Nat) (hs : Nat → Int32) (ag : Nat → Int32) (la : Nat → Int32) (mn : Int32) (a1 : Int32) : Nat → Nat → Int32 → Int32 → (Int32) → Option ((Int32) × ((Int32)))
  | 0, _, _, _, _ => none
  | n + 1, tg, v2, v3, th => if tg = 0 then (if 8 ≤ v2 then some (0, th) else (m_X1_isRisky_24 fu hs ag la mn a1 n 1 v2 0 th)) else (if mn ≤ v3 then (m_X1_isRisky_24 fu hs ag la mn a1 n 0 (v2 + 1) 0 th) else (if v3 = a1 then (m_X1_isRisky_24 fu hs ag la mn a1 n 1 v2 (v3 + 1) th) else (ix a1 256 (ix v3 256 (bnd1 (m_X1_isWithin hs ((la (Int32.toNatClampNeg a1)) ||| (la (Int32.toNatClampNeg v3))) v2) (fun r_15 => (if r_15 = 0 then (m_X1_isRisky_24 fu hs ag la mn a1 n 1 v2 (v3 + 1) th) else (bnd1 (m_X1_isProper fu ag ((la (Int32.toNatClampNeg a1)) ||| (la (Int32.toNatClampNeg v3)))) (fun r_18 => (if r_18 = 0 then some (1, th) else (m_X1_isRisky_24 fu hs ag la mn a1 n 1 v2 (v3 + 1) th)))))))))))
def m_X1_isRisky (fu : Nat) (hs : Nat → Int32) (ag : Nat → Int32) (la : Nat → Int32) (mn : Int32) (th : Int32) (a1 : Int32) : Option ((Int32) × ((Int32))) := (if (m_X1_isRole mn a1) = 0 then (bnd2 (m_X1_holds th 1) (fun r_2 th_3 => (if r_2 = 0 then (m_X1_isRisky_24 fu hs ag la mn a1 fu 0 0 0 th_3) else some (0, th_3)))) else (bnd2 (m_X1_holds th 0) (fun r_6 th_7 => (if r_6 = 0 then (m_X1_isRisky_24 fu hs ag la mn a1 fu 0 0 0 th_7) else some (0, th_7)))))
set_option maxHeartbeats 4000000 in
set_option maxRecDepth 100000 in
theorem c_X1_isRisky (l : Launch) (D : va_G) (cI cJ : ClassId) (y0 y1 y2 y3 y4 y5 y6 y7 y8 : Nat) (sz : Nat) (hs : Nat → Int32) (si : Nat → Int32) (ag : Nat → Int32) (la : Nat → Int32) (fo : Nat → Int32) (co : Nat → Int32) (cv : Nat → Int32) (ta : Nat → Int32) (rc : Int32) (ec : Int32) (su : Int32) (pe : Int32) (ti : Int32) (mn : Int32) (nu : Int32) (th : Int32) (fu : Nat) (a1 : Int32) (r0 : Int32) (th' : Int32) (h : m_X1_isRisky fu hs ag la mn th a1 = some (r0, th')) : Met l yX1_isRisky wsX1_isRisky ({ frames := 2, cells := 0, slots := 0, locals := 44 }) (va_Pc [.ref y0, .int a1] (bx_Pre D [(cI, .int), (cJ, .long)] (wY cI cJ y0 y1 y2 y3 y4 y5 y6 y7 y8 hs si ag la fo co cv ta rc ec su pe ti mn nu th) sz)) (va_Qi (fun (r : Int32) (_ : Unit) => r = r0) (fun (_ : Unit) t => bx_Post D [(cI, .int), (cJ, .long)] (wY cI cJ y0 y1 y2 y3 y4 y5 y6 y7 y8 hs si ag la fo co cv ta rc ec su pe ti mn nu th') (va_A (wY cI cJ y0 y1 y2 y3 y4 y5 y6 y7 y8 hs si ag la fo co cv ta rc ec su pe ti mn nu th) sz) t) (va_A (wY cI cJ y0 y1 y2 y3 y4 y5 y6 y7 y8 hs si ag la fo co cv ta rc ec su pe ti mn nu th) sz)) 0 0 (va_A (wY cI cJ y0 y1 y2 y3 y4 y5 y6 y7 y8 hs si ag la fo co cv ta rc ec su pe ti mn nu th) sz) := by
  refine Met.ofW (cc := cX1_isRisky) (maxL := 4) (ret := (some .boolean)) (by decide) rfl ?_
  intro p e s m args below meth c s₁ B hml hv
  obtain ⟨rfl, hsz, hP, hK, hD0⟩ := hv
  have hx := B.exec
  have hb := B.bytes
  have hr := B.returns
  have hts := atoms_spec (ws := wsX1_isRisky) B.pre
  have hown : s.vm.findClass RX1 = some m.cls := findClass_of_methodNamed B.named
  have hlocks := B.notSynchronized
  subst hsz
  have hD := hD0.self (sz := s.heap.size)
  generalize hAe : va_A (wY cI cJ y0 y1 y2 y3 y4 y5 y6 y7 y8 hs si ag la fo co cv ta rc ec su pe ti mn nu th) s.heap.size = A at hD ⊢
  have hA : ∀ q : Nat, s.heap.size ≤ q → A q := fun q h9 => by rw [← hAe]; exact Or.inr h9
  have hS : va_S A s.heap s.heap [] := va_S.rf
  have hin : ∀ w ∈ wsX10, w ∈ wsX1_isRisky := fun _ h9 => List.mem_cons_of_mem _ (List.mem_append_right _ h9)
  have hw_0 := hts (.fieldLink RX1 112 "RoleMinerModel" "many" "I") (by decide +kernel)
  have hw_1 := hts (.fieldLink RX1 19 "RoleMinerModel" "laid" "[I") (by decide +kernel)
  have hl := lv_entry ([.ref y0, .int a1]) (n := 4) (Nat.le_of_ble_eq_true rfl)
  rw [lg_entry_eq]
  generalize (lg_sl ([.ref y0, .int a1]) ++ List.replicate (4 - (lg_sl ([.ref y0, .int a1])).length) Slot.unset).toArray = ls at hl ⊢
  have hl : lv_has ls 4 [(0, .ref y0), (1, .int a1)] := hl
  have L24 : ∀ (n : Nat), (∀ (v2 : Int32) (th : Int32) (H : Heap) (locs : List Loc) (ls : Array Slot), m_X1_isRisky_24 fu hs ag la mn a1 n 0 v2 0 th = some (r0, th') → va_P D vwCl (wY cI cJ y0 y1 y2 y3 y4 y5 y6 y7 y8 hs si ag la fo co cv ta rc ec su pe ti mn nu th) H → va_D A (wY cI cJ y0 y1 y2 y3 y4 y5 y6 y7 y8 hs si ag la fo co cv ta rc ec su pe ti mn nu th) → va_S A s.heap H locs → lv_has ls 4 [(0, .ref y0), (1, .int a1), (2, .int v2)] → W p l e (headSpec wsX1_isRisky ({ frames := 2, cells := 0, slots := 0, locals := 44 })).room s m ([.ref y0, .int a1] : List Value).toArray below meth c H locs 0 0 (MQ below (va_Qi (fun (r : Int32) (_ : Unit) => r = r0) (fun (_ : Unit) t => bx_Post D [(cI, .int), (cJ, .long)] (wY cI cJ y0 y1 y2 y3 y4 y5 y6 y7 y8 hs si ag la fo co cv ta rc ec su pe ti mn nu th') A t) A) ([.ref y0, .int a1] : List Value).toArray s 0 0 A) (F0 m 24 ls [])) ∧ (∀ (v2 : Int32) (v3 : Int32) (th : Int32) (H : Heap) (locs : List Loc) (ls : Array Slot), m_X1_isRisky_24 fu hs ag la mn a1 n 1 v2 v3 th = some (r0, th') → va_P D vwCl (wY cI cJ y0 y1 y2 y3 y4 y5 y6 y7 y8 hs si ag la fo co cv ta rc ec su pe ti mn nu th) H → va_D A (wY cI cJ y0 y1 y2 y3 y4 y5 y6 y7 y8 hs si ag la fo co cv ta rc ec su pe ti mn nu th) → va_S A s.heap H locs → lv_has ls 4 [(0, .ref y0), (1, .int a1), (2, .int v2), (3, .int v3)] → W p l e (headSpec wsX1_isRisky ({ frames := 2, cells := 0, slots := 0, locals := 44 })).room s m ([.ref y0, .int a1] : List Value).toArray below meth c H locs 0 0 (MQ below (va_Qi (fun (r : Int32) (_ : Unit) => r = r0) (fun (_ : Unit) t => bx_Post D [(cI, .int), (cJ, .long)] (wY cI cJ y0 y1 y2 y3 y4 y5 y6 y7 y8 hs si ag la fo co cv ta rc ec su pe ti mn nu th') A t) A) ([.ref y0, .int a1] : List Value).toArray s 0 0 A) (F0 m 32 ls [])) := by
    intro n
    induction n with
    | zero =>
      refine ⟨?_, ?_⟩
      · intro v2 th H locs ls h
        rw [m_X1_isRisky_24] at h
        cases h
      · intro v2 v3 th H locs ls h
        rw [m_X1_isRisky_24] at h
        cases h
    | succ n ih =>
      refine ⟨?_, ?_⟩
      · intro v2 th H locs ls h hP hD hS hl
        rw [m_X1_isRisky_24] at h
        replace h := (if_pos rfl).symm.trans h
        refine lv_iload_n hx hb dX1_isRisky_24 rfl (lv_at hl 2 rfl) ?_
        refine lv_bipush (v := 8) hx hb dX1_isRisky_25 (by decide) ?_
        refine lv_icmp_ge (tgt := 100) hx hb dX1_isRisky_27 (by decide) (fun c_10 => ?_) (fun c_10 => ?_)
        · replace h := (if_pos c_10).symm.trans h
          refine lv_iconst (v := 0) hx hb dX1_isRisky_100 (by decide) ?_
          cases h
          exact W.zret hx hb hr rfl (fun t ht hW => ⟨⟨_, (), rfl, rfl, by rw [ht]; exact hP, va_K.moved hW.alike hK, hD⟩, hS.F ht⟩) hS.2.2 dX1_isRisky_101
        · replace h := (if_neg c_10).symm.trans h
          refine lv_iconst (v := 0) hx hb dX1_isRisky_30 (by decide) ?_
          refine lv_istore_n (lv' := [(3, .int 0), (0, .ref y0), (1, .int a1), (2, .int v2)]) hx hb dX1_isRisky_31 rfl hl (by decide) rfl (fun ls hl => ?_)
          exact ih.2 v2 0 th _ _ _ h hP hD hS (lv_sub hl [1, 2, 3, 0] rfl)
      · intro v2 v3 th H locs ls h hP hD hS hl
        rw [m_X1_isRisky_24] at h
        replace h := (if_neg (by decide)).symm.trans h
        refine lv_iload_n hx hb dX1_isRisky_32 rfl (lv_at hl 3 rfl) ?_
        refine lv_aload_n hx hb dX1_isRisky_33 rfl (lv_at hl 0 rfl) ?_
        refine va_get (D := D) (ci := 1) (v := .int mn) (C := RX1) (T := TX1) (N := 16) hx hb hts hin hown hK hP 0 rfl rfl 13 (by decide) hw_0 (fun _ h9 => h9) rfl dX1_isRisky_34 ?_
        refine lv_icmp_ge (tgt := 94) hx hb dX1_isRisky_37 (by decide) (fun c_11 => ?_) (fun c_11 => ?_)
        · replace h := (if_pos c_11).symm.trans h
          refine lv_iinc (v := (v2 + 1)) (lv' := [(2, .int (v2 + 1)), (0, .ref y0), (1, .int a1), (3, .int v3)]) hx hb dX1_isRisky_94 hl (k := 2) rfl rfl (by decide) rfl (fun ls hl => ?_)
          refine lv_goto (tgt := 24) hx hb dX1_isRisky_97 (by decide) ?_
          exact ih.1 (v2 + 1) th _ _ _ h hP hD hS (lv_sub hl [1, 2, 0] rfl)
        · replace h := (if_neg c_11).symm.trans h
          refine lv_iload_n hx hb dX1_isRisky_40 rfl (lv_at hl 3 rfl) ?_
          refine lv_iload_n hx hb dX1_isRisky_41 rfl (lv_at hl 1 rfl) ?_
          refine lv_icmp_eq (tgt := 88) hx hb dX1_isRisky_42 (by decide) (fun c_12 => ?_) (fun c_12 => ?_)
          · replace h := (if_pos c_12).symm.trans h
            refine lv_iinc (v := (v3 + 1)) (lv' := [(3, .int (v3 + 1)), (0, .ref y0), (1, .int a1), (2, .int v2)]) hx hb dX1_isRisky_88 hl (k := 3) rfl rfl (by decide) rfl (fun ls hl => ?_)
            refine lv_goto (tgt := 32) hx hb dX1_isRisky_91 (by decide) ?_
            exact ih.2 v2 (v3 + 1) th _ _ _ h hP hD hS (lv_sub hl [1, 2, 3, 0] rfl)
          · replace h := (if_neg c_12).symm.trans h
            refine lv_aload_n hx hb dX1_isRisky_45 rfl (lv_at hl 0 rfl) ?_
            refine lv_aload_n hx hb dX1_isRisky_46 rfl (lv_at hl 0 rfl) ?_
            refine va_get (D := D) (ci := 1) (v := .ref y4) (C := RX1) (T := TX1) (N := 16) hx hb hts hin hown hK hP 0 rfl rfl 3 (by decide) hw_1 (fun _ h9 => h9) rfl dX1_isRisky_47 ?_
            refine lv_iload_n hx hb dX1_isRisky_50 rfl (lv_at hl 1 rfl) ?_
            obtain ⟨h_13, h⟩ := ix_some h
            refine va_iald hx hb hK hP 4 0 rfl rfl h_13 dX1_isRisky_51 ?_
            refine lv_aload_n hx hb dX1_isRisky_52 rfl (lv_at hl 0 rfl) ?_
            refine va_get (D := D) (ci := 1) (v := .ref y4) (C := RX1) (T := TX1) (N := 16) hx hb hts hin hown hK hP 0 rfl rfl 3 (by decide) hw_1 (fun _ h9 => h9) rfl dX1_isRisky_53 ?_
            refine lv_iload_n hx hb dX1_isRisky_56 rfl (lv_at hl 3 rfl) ?_
            obtain ⟨h_14, h⟩ := ix_some h
            refine va_iald hx hb hK hP 4 0 rfl rfl h_14 dX1_isRisky_57 ?_
            refine lv_ior hx hb dX1_isRisky_58 ?_
            refine lv_iload_n hx hb dX1_isRisky_59 rfl (lv_at hl 2 rfl) ?_
            obtain ⟨r_15, e_16, h⟩ := bnd1_some h
            refine cl_Vi (As := [.int ((la (Int32.toNatClampNeg a1)) ||| (la (Int32.toNatClampNeg v3))), .int v2]) (rest := []) (wc := wY cI cJ y0 y1 y2 y3 y4 y5 y6 y7 y8 hs si ag la fo co cv ta rc ec su pe ti mn nu th) (w1 := wY cI cJ y0 y1 y2 y3 y4 y5 y6 y7 y8 hs si ag la fo co cv ta rc ec su pe ti mn nu th) (wr := []) ⟨hx, hb, hml, hown, hts⟩ (c_X1_isWithin l D cI cJ y0 y1 y2 y3 y4 y5 y6 y7 y8 _ hs si ag la fo co cv ta rc ec su pe ti mn nu th ((la (Int32.toNatClampNeg a1)) ||| (la (Int32.toNatClampNeg v3))) v2 r_15 e_16) (cwV 2 hts gX1_isRisky_X1_isWithin rfl rfl rfl (by decide +kernel) ⟨Nat.le_of_ble_eq_true rfl, Nat.le_of_ble_eq_true rfl⟩) hK hP hD hS hA [0, 1, 2, 3, 4, 5, 6, 7, 8] [] rfl rfl (by decide) (by decide) rfl rfl rfl rfl rfl hl.1 rfl (lv_room (Nat.le_of_ble_eq_true rfl)) dX1_isRisky_60 (fun H locs hP hD hS => ?_)
            have hP : va_P D vwCl (wY cI cJ y0 y1 y2 y3 y4 y5 y6 y7 y8 hs si ag la fo co cv ta rc ec su pe ti mn nu th) H := hP
            have hD : va_D A (wY cI cJ y0 y1 y2 y3 y4 y5 y6 y7 y8 hs si ag la fo co cv ta rc ec su pe ti mn nu th) := hD
            refine lv_if_eq (tgt := 88) hx hb dX1_isRisky_63 (by decide) (fun c_17 => ?_) (fun c_17 => ?_)
            · replace h := (if_pos c_17).symm.trans h
              refine lv_iinc (v := (v3 + 1)) (lv' := [(3, .int (v3 + 1)), (0, .ref y0), (1, .int a1), (2, .int v2)]) hx hb dX1_isRisky_88 hl (k := 3) rfl rfl (by decide) rfl (fun ls hl => ?_)
              refine lv_goto (tgt := 32) hx hb dX1_isRisky_91 (by decide) ?_
              exact ih.2 v2 (v3 + 1) th _ _ _ h hP hD hS (lv_sub hl [1, 2, 3, 0] rfl)
            · replace h := (if_neg c_17).symm.trans h
              refine lv_aload_n hx hb dX1_isRisky_66 rfl (lv_at hl 0 rfl) ?_
              refine lv_aload_n hx hb dX1_isRisky_67 rfl (lv_at hl 0 rfl) ?_
              refine va_get (D := D) (ci := 1) (v := .ref y4) (C := RX1) (T := TX1) (N := 16) hx hb hts hin hown hK hP 0 rfl rfl 3 (by decide) hw_1 (fun _ h9 => h9) rfl dX1_isRisky_68 ?_
              refine lv_iload_n hx hb dX1_isRisky_71 rfl (lv_at hl 1 rfl) ?_
              refine va_iald hx hb hK hP 4 0 rfl rfl h_13 dX1_isRisky_72 ?_
              refine lv_aload_n hx hb dX1_isRisky_73 rfl (lv_at hl 0 rfl) ?_
              refine va_get (D := D) (ci := 1) (v := .ref y4) (C := RX1) (T := TX1) (N := 16) hx hb hts hin hown hK hP 0 rfl rfl 3 (by decide) hw_1 (fun _ h9 => h9) rfl dX1_isRisky_74 ?_
              refine lv_iload_n hx hb dX1_isRisky_77 rfl (lv_at hl 3 rfl) ?_
              refine va_iald hx hb hK hP 4 0 rfl rfl h_14 dX1_isRisky_78 ?_
              refine lv_ior hx hb dX1_isRisky_79 ?_
              obtain ⟨r_18, e_19, h⟩ := bnd1_some h
              refine cl_Vi (As := [.int ((la (Int32.toNatClampNeg a1)) ||| (la (Int32.toNatClampNeg v3)))]) (rest := []) (wc := wY cI cJ y0 y1 y2 y3 y4 y5 y6 y7 y8 hs si ag la fo co cv ta rc ec su pe ti mn nu th) (w1 := wY cI cJ y0 y1 y2 y3 y4 y5 y6 y7 y8 hs si ag la fo co cv ta rc ec su pe ti mn nu th) (wr := []) ⟨hx, hb, hml, hown, hts⟩ (c_X1_isProper l D cI cJ y0 y1 y2 y3 y4 y5 y6 y7 y8 _ hs si ag la fo co cv ta rc ec su pe ti mn nu th fu ((la (Int32.toNatClampNeg a1)) ||| (la (Int32.toNatClampNeg v3))) r_18 e_19) (cwV 1 hts gX1_isRisky_X1_isProper rfl rfl rfl (by decide +kernel) ⟨Nat.le_of_ble_eq_true rfl, Nat.le_of_ble_eq_true rfl⟩) hK hP hD hS hA [0, 1, 2, 3, 4, 5, 6, 7, 8] [] rfl rfl (by decide) (by decide) rfl rfl rfl rfl rfl hl.1 rfl (lv_room (Nat.le_of_ble_eq_true rfl)) dX1_isRisky_80 (fun H locs hP hD hS => ?_)
              have hP : va_P D vwCl (wY cI cJ y0 y1 y2 y3 y4 y5 y6 y7 y8 hs si ag la fo co cv ta rc ec su pe ti mn nu th) H := hP
              have hD : va_D A (wY cI cJ y0 y1 y2 y3 y4 y5 y6 y7 y8 hs si ag la fo co cv ta rc ec su pe ti mn nu th) := hD
              refine lv_if_ne (tgt := 88) hx hb dX1_isRisky_83 (by decide) (fun c_20 => ?_) (fun c_20 => ?_)
              · replace h := (if_neg c_20).symm.trans h
                refine lv_iinc (v := (v3 + 1)) (lv' := [(3, .int (v3 + 1)), (0, .ref y0), (1, .int a1), (2, .int v2)]) hx hb dX1_isRisky_88 hl (k := 3) rfl rfl (by decide) rfl (fun ls hl => ?_)
                refine lv_goto (tgt := 32) hx hb dX1_isRisky_91 (by decide) ?_
                exact ih.2 v2 (v3 + 1) th _ _ _ h hP hD hS (lv_sub hl [1, 2, 3, 0] rfl)
              · replace h := (if_pos c_20).symm.trans h
                refine lv_iconst (v := 1) hx hb dX1_isRisky_86 (by decide) ?_
                cases h
                exact W.zret hx hb hr rfl (fun t ht hW => ⟨⟨_, (), rfl, rfl, by rw [ht]; exact hP, va_K.moved hW.alike hK, hD⟩, hS.F ht⟩) hS.2.2 dX1_isRisky_87
  rw [m_X1_isRisky] at h
  refine lv_aload_n hx hb dX1_isRisky_0 rfl (lv_at hl 0 rfl) ?_
  refine lv_aload_n hx hb dX1_isRisky_1 rfl (lv_at hl 0 rfl) ?_
  refine lv_iload_n hx hb dX1_isRisky_2 rfl (lv_at hl 1 rfl) ?_
  refine cl_Vi (As := [.int a1]) (rest := [.ref y0]) (wc := wY cI cJ y0 y1 y2 y3 y4 y5 y6 y7 y8 hs si ag la fo co cv ta rc ec su pe ti mn nu th) (w1 := wY cI cJ y0 y1 y2 y3 y4 y5 y6 y7 y8 hs si ag la fo co cv ta rc ec su pe ti mn nu th) (wr := []) ⟨hx, hb, hml, hown, hts⟩ (c_X1_isRole l D cI cJ y0 y1 y2 y3 y4 y5 y6 y7 y8 _ hs si ag la fo co cv ta rc ec su pe ti mn nu th a1) (cwV 1 hts gX1_isRisky_X1_isRole rfl rfl rfl (by decide +kernel) ⟨Nat.le_of_ble_eq_true rfl, Nat.le_of_ble_eq_true rfl⟩) hK hP hD hS hA [0, 1, 2, 3, 4, 5, 6, 7, 8] [] rfl rfl (by decide) (by decide) rfl rfl rfl rfl rfl hl.1 rfl (lv_room (Nat.le_of_ble_eq_true rfl)) dX1_isRisky_3 (fun H locs hP hD hS => ?_)
  have hP : va_P D vwCl (wY cI cJ y0 y1 y2 y3 y4 y5 y6 y7 y8 hs si ag la fo co cv ta rc ec su pe ti mn nu th) H := hP
  have hD : va_D A (wY cI cJ y0 y1 y2 y3 y4 y5 y6 y7 y8 hs si ag la fo co cv ta rc ec su pe ti mn nu th) := hD
  refine lv_if_eq (tgt := 13) hx hb dX1_isRisky_6 (by decide) (fun c_1 => ?_) (fun c_1 => ?_)
  · replace h := (if_pos c_1).symm.trans h
    refine lv_iconst (v := 1) hx hb dX1_isRisky_13 (by decide) ?_
    obtain ⟨r_2, th_3, e_4, h⟩ := bnd2_some h
    refine cl_Vi (As := [.int 1]) (rest := []) (wc := wY cI cJ y0 y1 y2 y3 y4 y5 y6 y7 y8 hs si ag la fo co cv ta rc ec su pe ti mn nu th) (w1 := wY cI cJ y0 y1 y2 y3 y4 y5 y6 y7 y8 hs si ag la fo co cv ta rc ec su pe ti mn nu th_3) (wr := []) ⟨hx, hb, hml, hown, hts⟩ (c_X1_holds l D cI cJ y0 y1 y2 y3 y4 y5 y6 y7 y8 _ hs si ag la fo co cv ta rc ec su pe ti mn nu th 1 r_2 th_3 e_4) (cwV 1 hts gX1_isRisky_X1_holds rfl rfl rfl (by decide +kernel) ⟨Nat.le_of_ble_eq_true rfl, Nat.le_of_ble_eq_true rfl⟩) hK hP hD hS hA [0, 1, 2, 3, 4, 5, 6, 7, 8] [] rfl rfl (by decide) (by decide) rfl rfl rfl rfl rfl hl.1 rfl (lv_room (Nat.le_of_ble_eq_true rfl)) dX1_isRisky_14 (fun H locs hP hD hS => ?_)
    have hP : va_P D vwCl (wY cI cJ y0 y1 y2 y3 y4 y5 y6 y7 y8 hs si ag la fo co cv ta rc ec su pe ti mn nu th_3) H := hP
    have hD : va_D A (wY cI cJ y0 y1 y2 y3 y4 y5 y6 y7 y8 hs si ag la fo co cv ta rc ec su pe ti mn nu th_3) := hD
    refine lv_if_eq (tgt := 22) hx hb dX1_isRisky_17 (by decide) (fun c_5 => ?_) (fun c_5 => ?_)
    · replace h := (if_pos c_5).symm.trans h
      refine lv_iconst (v := 0) hx hb dX1_isRisky_22 (by decide) ?_
      refine lv_istore_n (lv' := [(2, .int 0), (0, .ref y0), (1, .int a1)]) hx hb dX1_isRisky_23 rfl hl (by decide) rfl (fun ls hl => ?_)
      exact (L24 fu).1 0 th_3 _ _ _ h hP hD hS (lv_sub hl [1, 2, 0] rfl)
    · replace h := (if_neg c_5).symm.trans h
      refine lv_iconst (v := 0) hx hb dX1_isRisky_20 (by decide) ?_
      cases h
      exact W.zret hx hb hr rfl (fun t ht hW => ⟨⟨_, (), rfl, rfl, by rw [ht]; exact hP, va_K.moved hW.alike hK, hD⟩, hS.F ht⟩) hS.2.2 dX1_isRisky_21
  · replace h := (if_neg c_1).symm.trans h
    refine lv_iconst (v := 0) hx hb dX1_isRisky_9 (by decide) ?_
    refine lv_goto (tgt := 14) hx hb dX1_isRisky_10 (by decide) ?_
    obtain ⟨r_6, th_7, e_8, h⟩ := bnd2_some h
    refine cl_Vi (As := [.int 0]) (rest := []) (wc := wY cI cJ y0 y1 y2 y3 y4 y5 y6 y7 y8 hs si ag la fo co cv ta rc ec su pe ti mn nu th) (w1 := wY cI cJ y0 y1 y2 y3 y4 y5 y6 y7 y8 hs si ag la fo co cv ta rc ec su pe ti mn nu th_7) (wr := []) ⟨hx, hb, hml, hown, hts⟩ (c_X1_holds l D cI cJ y0 y1 y2 y3 y4 y5 y6 y7 y8 _ hs si ag la fo co cv ta rc ec su pe ti mn nu th 0 r_6 th_7 e_8) (cwV 1 hts gX1_isRisky_X1_holds rfl rfl rfl (by decide +kernel) ⟨Nat.le_of_ble_eq_true rfl, Nat.le_of_ble_eq_true rfl⟩) hK hP hD hS hA [0, 1, 2, 3, 4, 5, 6, 7, 8] [] rfl rfl (by decide) (by decide) rfl rfl rfl rfl rfl hl.1 rfl (lv_room (Nat.le_of_ble_eq_true rfl)) dX1_isRisky_14 (fun H locs hP hD hS => ?_)
    have hP : va_P D vwCl (wY cI cJ y0 y1 y2 y3 y4 y5 y6 y7 y8 hs si ag la fo co cv ta rc ec su pe ti mn nu th_7) H := hP
    have hD : va_D A (wY cI cJ y0 y1 y2 y3 y4 y5 y6 y7 y8 hs si ag la fo co cv ta rc ec su pe ti mn nu th_7) := hD
    refine lv_if_eq (tgt := 22) hx hb dX1_isRisky_17 (by decide) (fun c_9 => ?_) (fun c_9 => ?_)
    · replace h := (if_pos c_9).symm.trans h
      refine lv_iconst (v := 0) hx hb dX1_isRisky_22 (by decide) ?_
      refine lv_istore_n (lv' := [(2, .int 0), (0, .ref y0), (1, .int a1)]) hx hb dX1_isRisky_23 rfl hl (by decide) rfl (fun ls hl => ?_)
      exact (L24 fu).1 0 th_7 _ _ _ h hP hD hS (lv_sub hl [1, 2, 0] rfl)
    · replace h := (if_neg c_9).symm.trans h
      refine lv_iconst (v := 0) hx hb dX1_isRisky_20 (by decide) ?_
      cases h
      exact W.zret hx hb hr rfl (fun t ht hW => ⟨⟨_, (), rfl, rfl, by rw [ht]; exact hP, va_K.moved hW.alike hK, hD⟩, hS.F ht⟩) hS.2.2 dX1_isRisky_21
