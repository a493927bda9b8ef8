theorem ck_int {D : va_G} {cl : List vw_C} {tys : List (ClassId × FieldType)} {U : State} {c c' : ClassId} (h : va_K D cl tys U) (i j : Nat) (hi : tys[i]? = some (c, .int)) (hj : tys[j]? = some (c', .int)) : c = c' := by
  have h1 : U.vm.findClass ("[" ++ FieldType.int.toString) = some c := (h.2 i _ hi).2
  have h2 : U.vm.findClass ("[" ++ FieldType.int.toString) = some c' := (h.2 j _ hj).2
  exact Option.some.inj (h1.symm.trans h2)
theorem ck_long {D : va_G} {cl : List vw_C} {tys : List (ClassId × FieldType)} {U : State} {c c' : ClassId} (h : va_K D cl tys U) (i j : Nat) (hi : tys[i]? = some (c, .long)) (hj : tys[j]? = some (c', .long)) : c = c' := by
  have h1 : U.vm.findClass ("[" ++ FieldType.long.toString) = some c := (h.2 i _ hi).2
  have h2 : U.vm.findClass ("[" ++ FieldType.long.toString) = some c' := (h.2 j _ hj).2
  exact Option.some.inj (h1.symm.trans h2)
set_option maxHeartbeats 4000000 in
set_option maxRecDepth 100000 in
theorem c_X0_init (l : Launch) (D : va_G) (x0 : Nat) (sz : Nat) : Met l yX0_init wsX0_init ({ frames := 1, cells := 9, slots := 1166, locals := 12 }) (va_Pc [.ref x0] (bx_Pre D [] ([(x0, .inr (0, [.null, .null, .null, .int 0, .int 0, .int 0, .int 0, .int 0, .null, .int 0, .null, .int 0, .null, .null, .null, .null]))]) sz)) (va_Qv (fun (_ : Unit) => True) (fun (_ : Unit) t => ∃ (cI cJ : ClassId) (x1 x2 x3 x4 x5 x6 x7 x8 x9 : Nat), bx_Post D [(cI, .int), (cJ, .long)] (wX cI cJ x0 x1 x2 x3 x4 x5 x6 x7 x8 x9 (fun _ => 0) (fun _ => 0) (fun _ => 0) 5 2 1 4 0 (fun _ => 0) 0 (fun _ => 0) 0 (fun _ => 0) (fun _ => 0) (fun _ => 0) (fun _ => 0)) (va_A ([(x0, .inr (0, [.null, .null, .null, .int 0, .int 0, .int 0, .int 0, .int 0, .null, .int 0, .null, .int 0, .null, .null, .null, .null]))]) sz) t) (va_A ([(x0, .inr (0, [.null, .null, .null, .int 0, .int 0, .int 0, .int 0, .int 0, .null, .int 0, .null, .int 0, .null, .null, .null, .null]))]) sz)) 9 1166 (va_A ([(x0, .inr (0, [.null, .null, .null, .int 0, .int 0, .int 0, .int 0, .int 0, .null, .int 0, .null, .int 0, .null, .null, .null, .null]))]) sz) := by
  refine Met.ofW (cc := cX0_init) (maxL := 1) (ret := none) (by decide) rfl ?_
  intro p e s m args below meth c s₁ B hml hv
  obtain ⟨rfl, hsz, hP, hK, hD0⟩ := hv
  have hx := B.exec
  have hb := B.bytes
  have hr := B.returns
  have hts := atoms_spec (ws := wsX0_init) B.pre
  have hown : s.vm.findClass RX0 = some m.cls := findClass_of_methodNamed B.named
  have hlocks := B.notSynchronized
  have hini : meth.name = "<init>" := (name_of_methodNamed B.named B.method).1
  subst hsz
  have hD := hD0.self (sz := s.heap.size)
  generalize hAe : va_A ([(x0, .inr (0, [.null, .null, .null, .int 0, .int 0, .int 0, .int 0, .int 0, .null, .int 0, .null, .int 0, .null, .null, .null, .null]))]) s.heap.size = A at hD ⊢
  have hA : ∀ q : Nat, s.heap.size ≤ q → A q := fun q h9 => by rw [← hAe]; exact Or.inr h9
  have hS : va_S A s.heap s.heap [] := va_S.rf
  have hin : ∀ w ∈ wsX00, w ∈ wsX0_init := fun _ h9 => List.mem_cons_of_mem _ (List.mem_append_right _ h9)
  have hw_0 := hts (.methodLink RX0 1 objectInit) (by decide +kernel)
  have hw_1 := hts (.instanceMethod objectInit) (by decide +kernel)
  have hw_2 := hts (.code objectInit ⟨#[0xb1]⟩ 1 none) (by decide +kernel)
  have hw_3 := hts (.arrayClass .int) (by decide +kernel)
  have hw_4 := hts (.fieldLink RX0 9 "RoleMiner" "granted" "[I") (by decide +kernel)
  have hw_5 := hts (.fieldLink RX0 13 "RoleMiner" "remembered" "[I") (by decide +kernel)
  have hw_6 := hts (.fieldLink RX0 16 "RoleMiner" "opposed" "[I") (by decide +kernel)
  have hw_7 := hts (.fieldLink RX0 19 "RoleMiner" "roleCost" "I") (by decide +kernel)
  have hw_8 := hts (.fieldLink RX0 23 "RoleMiner" "exceptionCost" "I") (by decide +kernel)
  have hw_9 := hts (.fieldLink RX0 26 "RoleMiner" "support" "I") (by decide +kernel)
  have hw_10 := hts (.fieldLink RX0 29 "RoleMiner" "period" "I") (by decide +kernel)
  have hw_11 := hts (.fieldLink RX0 32 "RoleMiner" "quarter" "I") (by decide +kernel)
  have hw_12 := hts (.fieldLink RX0 35 "RoleMiner" "roleSets" "[I") (by decide +kernel)
  have hw_13 := hts (.fieldLink RX0 38 "RoleMiner" "roleCount" "I") (by decide +kernel)
  have hw_14 := hts (.fieldLink RX0 41 "RoleMiner" "candidateSets" "[I") (by decide +kernel)
  have hw_15 := hts (.fieldLink RX0 44 "RoleMiner" "candidateCount" "I") (by decide +kernel)
  have hw_16 := hts (.arrayClass .long) (by decide +kernel)
  have hw_17 := hts (.fieldLink RX0 47 "RoleMiner" "lowCover" "[J") (by decide +kernel)
  have hw_18 := hts (.fieldLink RX0 51 "RoleMiner" "highCover" "[J") (by decide +kernel)
  have hw_19 := hts (.fieldLink RX0 54 "RoleMiner" "lowLeft" "[J") (by decide +kernel)
  have hw_20 := hts (.fieldLink RX0 57 "RoleMiner" "highLeft" "[J") (by decide +kernel)
  have hl := lv_entry ([.ref x0]) (n := 1) (Nat.le_of_ble_eq_true rfl)
  rw [lg_entry_eq]
  generalize (lg_sl ([.ref x0]) ++ List.replicate (1 - (lg_sl ([.ref x0])).length) Slot.unset).toArray = ls at hl ⊢
  have hl : lv_has ls 1 [(0, .ref x0)] := hl
  refine lv_aload_n hx hb dX0_init_0 rfl (lv_at hl 0 rfl) ?_
  refine W.objInit hx hb hown hw_0 hw_1 hw_2 rfl (by rw [hml]; exact hl.1) rfl dX0_init_1 (Nat.le_of_ble_eq_true rfl) (Nat.le_of_ble_eq_true rfl) ?_
  refine W.eq (g2 := F0 m 4 ls []) rfl ?_
  refine lv_aload_n hx hb dX0_init_4 rfl (lv_at hl 0 rfl) ?_
  refine lv_bipush (v := 8) hx hb dX0_init_5 (by decide) ?_
  refine va_newa (atype := .int) (ty := .int) (n := 8) (N' := 8) (a0 := (8, .inl (fun _ => 0))) hx hb hw_3 rfl hK hP hD hS hA (fun _ => rfl) (by decide) rfl (by decide) (Nat.le_of_ble_eq_true rfl) (Nat.le_of_ble_eq_true rfl) dX0_init_7 (fun x1 cI H hK hP hD hS => ?_)
  have hK : va_K D vwCl [(cI, .int)] s := hK
  have hP : va_P D vwCl ([(x0, .inr (0, [.null, .null, .null, .int 0, .int 0, .int 0, .int 0, .int 0, .null, .int 0, .null, .int 0, .null, .null, .null, .null])), (x1, .inl (cI, 8, .inl (fun _ => 0)))]) H := hP
  have hD : va_D A ([(x0, .inr (0, [.null, .null, .null, .int 0, .int 0, .int 0, .int 0, .int 0, .null, .int 0, .null, .int 0, .null, .null, .null, .null])), (x1, .inl (cI, 8, .inl (fun _ => 0)))]) := hD
  refine va_putF (D := D) (ci := 0) (v := .ref x1) (ty := .array .int) (C := RX0) (T := TX0) (N := 16) hx hb hts hin tyX0 tyX0_ok nmX0 hown hK hP hD hS 0 rfl rfl 0 (by decide) hw_4 (fun _ h9 => h9) rfl hini rfl (by decide +kernel) rfl rfl (Nat.le_of_ble_eq_true rfl) dX0_init_9 (fun H locs hP hD hS => ?_)
  have hP : va_P D vwCl ([(x0, .inr (0, [.ref x1, .null, .null, .int 0, .int 0, .int 0, .int 0, .int 0, .null, .int 0, .null, .int 0, .null, .null, .null, .null])), (x1, .inl (cI, 8, .inl (fun _ => 0)))]) H := hP
  have hD : va_D A ([(x0, .inr (0, [.ref x1, .null, .null, .int 0, .int 0, .int 0, .int 0, .int 0, .null, .int 0, .null, .int 0, .null, .null, .null, .null])), (x1, .inl (cI, 8, .inl (fun _ => 0)))]) := hD
  refine lv_aload_n hx hb dX0_init_12 rfl (lv_at hl 0 rfl) ?_
  refine lv_bipush (v := 96) hx hb dX0_init_13 (by decide) ?_
  refine va_newa (atype := .int) (ty := .int) (n := 96) (N' := 96) (a0 := (96, .inl (fun _ => 0))) hx hb hw_3 rfl hK hP hD hS hA (fun _ => rfl) (by decide) rfl (by decide) (Nat.le_of_ble_eq_true rfl) (Nat.le_of_ble_eq_true rfl) dX0_init_15 (fun x2 c9 H hK hP hD hS => ?_)
  have e9 : cI = c9 := ck_int hK 0 1 rfl rfl
  subst e9
  replace hK := hK.sub (tys' := [(cI, .int)]) [0] rfl
  have hP : va_P D vwCl ([(x0, .inr (0, [.ref x1, .null, .null, .int 0, .int 0, .int 0, .int 0, .int 0, .null, .int 0, .null, .int 0, .null, .null, .null, .null])), (x1, .inl (cI, 8, .inl (fun _ => 0))), (x2, .inl (cI, 96, .inl (fun _ => 0)))]) H := hP
  have hD : va_D A ([(x0, .inr (0, [.ref x1, .null, .null, .int 0, .int 0, .int 0, .int 0, .int 0, .null, .int 0, .null, .int 0, .null, .null, .null, .null])), (x1, .inl (cI, 8, .inl (fun _ => 0))), (x2, .inl (cI, 96, .inl (fun _ => 0)))]) := hD
  refine va_putF (D := D) (ci := 0) (v := .ref x2) (ty := .array .int) (C := RX0) (T := TX0) (N := 16) hx hb hts hin tyX0 tyX0_ok nmX0 hown hK hP hD hS 0 rfl rfl 1 (by decide) hw_5 (fun _ h9 => h9) rfl hini rfl (by decide +kernel) rfl rfl (Nat.le_of_ble_eq_true rfl) dX0_init_17 (fun H locs hP hD hS => ?_)
  have hP : va_P D vwCl ([(x0, .inr (0, [.ref x1, .ref x2, .null, .int 0, .int 0, .int 0, .int 0, .int 0, .null, .int 0, .null, .int 0, .null, .null, .null, .null])), (x1, .inl (cI, 8, .inl (fun _ => 0))), (x2, .inl (cI, 96, .inl (fun _ => 0)))]) H := hP
  have hD : va_D A ([(x0, .inr (0, [.ref x1, .ref x2, .null, .int 0, .int 0, .int 0, .int 0, .int 0, .null, .int 0, .null, .int 0, .null, .null, .null, .null])), (x1, .inl (cI, 8, .inl (fun _ => 0))), (x2, .inl (cI, 96, .inl (fun _ => 0)))]) := hD
  refine lv_aload_n hx hb dX0_init_20 rfl (lv_at hl 0 rfl) ?_
  refine lv_bipush (v := 12) hx hb dX0_init_21 (by decide) ?_
  refine va_newa (atype := .int) (ty := .int) (n := 12) (N' := 12) (a0 := (12, .inl (fun _ => 0))) hx hb hw_3 rfl hK hP hD hS hA (fun _ => rfl) (by decide) rfl (by decide) (Nat.le_of_ble_eq_true rfl) (Nat.le_of_ble_eq_true rfl) dX0_init_23 (fun x3 c9 H hK hP hD hS => ?_)
  have e9 : cI = c9 := ck_int hK 0 1 rfl rfl
  subst e9
  replace hK := hK.sub (tys' := [(cI, .int)]) [0] rfl
  have hP : va_P D vwCl ([(x0, .inr (0, [.ref x1, .ref x2, .null, .int 0, .int 0, .int 0, .int 0, .int 0, .null, .int 0, .null, .int 0, .null, .null, .null, .null])), (x1, .inl (cI, 8, .inl (fun _ => 0))), (x2, .inl (cI, 96, .inl (fun _ => 0))), (x3, .inl (cI, 12, .inl (fun _ => 0)))]) H := hP
  have hD : va_D A ([(x0, .inr (0, [.ref x1, .ref x2, .null, .int 0, .int 0, .int 0, .int 0, .int 0, .null, .int 0, .null, .int 0, .null, .null, .null, .null])), (x1, .inl (cI, 8, .inl (fun _ => 0))), (x2, .inl (cI, 96, .inl (fun _ => 0))), (x3, .inl (cI, 12, .inl (fun _ => 0)))]) := hD
  refine va_putF (D := D) (ci := 0) (v := .ref x3) (ty := .array .int) (C := RX0) (T := TX0) (N := 16) hx hb hts hin tyX0 tyX0_ok nmX0 hown hK hP hD hS 0 rfl rfl 2 (by decide) hw_6 (fun _ h9 => h9) rfl hini rfl (by decide +kernel) rfl rfl (Nat.le_of_ble_eq_true rfl) dX0_init_25 (fun H locs hP hD hS => ?_)
  have hP : va_P D vwCl ([(x0, .inr (0, [.ref x1, .ref x2, .ref x3, .int 0, .int 0, .int 0, .int 0, .int 0, .null, .int 0, .null, .int 0, .null, .null, .null, .null])), (x1, .inl (cI, 8, .inl (fun _ => 0))), (x2, .inl (cI, 96, .inl (fun _ => 0))), (x3, .inl (cI, 12, .inl (fun _ => 0)))]) H := hP
  have hD : va_D A ([(x0, .inr (0, [.ref x1, .ref x2, .ref x3, .int 0, .int 0, .int 0, .int 0, .int 0, .null, .int 0, .null, .int 0, .null, .null, .null, .null])), (x1, .inl (cI, 8, .inl (fun _ => 0))), (x2, .inl (cI, 96, .inl (fun _ => 0))), (x3, .inl (cI, 12, .inl (fun _ => 0)))]) := hD
  refine lv_aload_n hx hb dX0_init_28 rfl (lv_at hl 0 rfl) ?_
  refine lv_iconst (v := 5) hx hb dX0_init_29 (by decide) ?_
  refine va_put (D := D) (ci := 0) (v := .int 5) (ty := .int) (C := RX0) (T := TX0) (N := 16) hx hb hts hin tyX0 tyX0_ok nmX0 hown hK hP hD hS 0 rfl rfl 3 (by decide) hw_7 (fun _ h9 => h9) rfl (by decide +kernel) rfl rfl (Nat.le_of_ble_eq_true rfl) dX0_init_30 (fun H locs hP hD hS => ?_)
  have hP : va_P D vwCl ([(x0, .inr (0, [.ref x1, .ref x2, .ref x3, .int 5, .int 0, .int 0, .int 0, .int 0, .null, .int 0, .null, .int 0, .null, .null, .null, .null])), (x1, .inl (cI, 8, .inl (fun _ => 0))), (x2, .inl (cI, 96, .inl (fun _ => 0))), (x3, .inl (cI, 12, .inl (fun _ => 0)))]) H := hP
  have hD : va_D A ([(x0, .inr (0, [.ref x1, .ref x2, .ref x3, .int 5, .int 0, .int 0, .int 0, .int 0, .null, .int 0, .null, .int 0, .null, .null, .null, .null])), (x1, .inl (cI, 8, .inl (fun _ => 0))), (x2, .inl (cI, 96, .inl (fun _ => 0))), (x3, .inl (cI, 12, .inl (fun _ => 0)))]) := hD
  refine lv_aload_n hx hb dX0_init_33 rfl (lv_at hl 0 rfl) ?_
  refine lv_iconst (v := 2) hx hb dX0_init_34 (by decide) ?_
  refine va_put (D := D) (ci := 0) (v := .int 2) (ty := .int) (C := RX0) (T := TX0) (N := 16) hx hb hts hin tyX0 tyX0_ok nmX0 hown hK hP hD hS 0 rfl rfl 4 (by decide) hw_8 (fun _ h9 => h9) rfl (by decide +kernel) rfl rfl (Nat.le_of_ble_eq_true rfl) dX0_init_35 (fun H locs hP hD hS => ?_)
  have hP : va_P D vwCl ([(x0, .inr (0, [.ref x1, .ref x2, .ref x3, .int 5, .int 2, .int 0, .int 0, .int 0, .null, .int 0, .null, .int 0, .null, .null, .null, .null])), (x1, .inl (cI, 8, .inl (fun _ => 0))), (x2, .inl (cI, 96, .inl (fun _ => 0))), (x3, .inl (cI, 12, .inl (fun _ => 0)))]) H := hP
  have hD : va_D A ([(x0, .inr (0, [.ref x1, .ref x2, .ref x3, .int 5, .int 2, .int 0, .int 0, .int 0, .null, .int 0, .null, .int 0, .null, .null, .null, .null])), (x1, .inl (cI, 8, .inl (fun _ => 0))), (x2, .inl (cI, 96, .inl (fun _ => 0))), (x3, .inl (cI, 12, .inl (fun _ => 0)))]) := hD
  refine lv_aload_n hx hb dX0_init_38 rfl (lv_at hl 0 rfl) ?_
  refine lv_iconst (v := 1) hx hb dX0_init_39 (by decide) ?_
  refine va_put (D := D) (ci := 0) (v := .int 1) (ty := .int) (C := RX0) (T := TX0) (N := 16) hx hb hts hin tyX0 tyX0_ok nmX0 hown hK hP hD hS 0 rfl rfl 5 (by decide) hw_9 (fun _ h9 => h9) rfl (by decide +kernel) rfl rfl (Nat.le_of_ble_eq_true rfl) dX0_init_40 (fun H locs hP hD hS => ?_)
  have hP : va_P D vwCl ([(x0, .inr (0, [.ref x1, .ref x2, .ref x3, .int 5, .int 2, .int 1, .int 0, .int 0, .null, .int 0, .null, .int 0, .null, .null, .null, .null])), (x1, .inl (cI, 8, .inl (fun _ => 0))), (x2, .inl (cI, 96, .inl (fun _ => 0))), (x3, .inl (cI, 12, .inl (fun _ => 0)))]) H := hP
  have hD : va_D A ([(x0, .inr (0, [.ref x1, .ref x2, .ref x3, .int 5, .int 2, .int 1, .int 0, .int 0, .null, .int 0, .null, .int 0, .null, .null, .null, .null])), (x1, .inl (cI, 8, .inl (fun _ => 0))), (x2, .inl (cI, 96, .inl (fun _ => 0))), (x3, .inl (cI, 12, .inl (fun _ => 0)))]) := hD
  refine lv_aload_n hx hb dX0_init_43 rfl (lv_at hl 0 rfl) ?_
  refine lv_iconst (v := 4) hx hb dX0_init_44 (by decide) ?_
  refine va_put (D := D) (ci := 0) (v := .int 4) (ty := .int) (C := RX0) (T := TX0) (N := 16) hx hb hts hin tyX0 tyX0_ok nmX0 hown hK hP hD hS 0 rfl rfl 6 (by decide) hw_10 (fun _ h9 => h9) rfl (by decide +kernel) rfl rfl (Nat.le_of_ble_eq_true rfl) dX0_init_45 (fun H locs hP hD hS => ?_)
  have hP : va_P D vwCl ([(x0, .inr (0, [.ref x1, .ref x2, .ref x3, .int 5, .int 2, .int 1, .int 4, .int 0, .null, .int 0, .null, .int 0, .null, .null, .null, .null])), (x1, .inl (cI, 8, .inl (fun _ => 0))), (x2, .inl (cI, 96, .inl (fun _ => 0))), (x3, .inl (cI, 12, .inl (fun _ => 0)))]) H := hP
  have hD : va_D A ([(x0, .inr (0, [.ref x1, .ref x2, .ref x3, .int 5, .int 2, .int 1, .int 4, .int 0, .null, .int 0, .null, .int 0, .null, .null, .null, .null])), (x1, .inl (cI, 8, .inl (fun _ => 0))), (x2, .inl (cI, 96, .inl (fun _ => 0))), (x3, .inl (cI, 12, .inl (fun _ => 0)))]) := hD
  refine lv_aload_n hx hb dX0_init_48 rfl (lv_at hl 0 rfl) ?_
  refine lv_iconst (v := 0) hx hb dX0_init_49 (by decide) ?_
  refine va_put (D := D) (ci := 0) (v := .int 0) (ty := .int) (C := RX0) (T := TX0) (N := 16) hx hb hts hin tyX0 tyX0_ok nmX0 hown hK hP hD hS 0 rfl rfl 7 (by decide) hw_11 (fun _ h9 => h9) rfl (by decide +kernel) rfl rfl (Nat.le_of_ble_eq_true rfl) dX0_init_50 (fun H locs hP hD hS => ?_)
  have hP : va_P D vwCl ([(x0, .inr (0, [.ref x1, .ref x2, .ref x3, .int 5, .int 2, .int 1, .int 4, .int 0, .null, .int 0, .null, .int 0, .null, .null, .null, .null])), (x1, .inl (cI, 8, .inl (fun _ => 0))), (x2, .inl (cI, 96, .inl (fun _ => 0))), (x3, .inl (cI, 12, .inl (fun _ => 0)))]) H := hP
  have hD : va_D A ([(x0, .inr (0, [.ref x1, .ref x2, .ref x3, .int 5, .int 2, .int 1, .int 4, .int 0, .null, .int 0, .null, .int 0, .null, .null, .null, .null])), (x1, .inl (cI, 8, .inl (fun _ => 0))), (x2, .inl (cI, 96, .inl (fun _ => 0))), (x3, .inl (cI, 12, .inl (fun _ => 0)))]) := hD
  refine lv_aload_n hx hb dX0_init_53 rfl (lv_at hl 0 rfl) ?_
  refine lv_sipush (v := 255) hx hb dX0_init_54 (by decide) ?_
  refine va_newa (atype := .int) (ty := .int) (n := 255) (N' := 255) (a0 := (255, .inl (fun _ => 0))) hx hb hw_3 rfl hK hP hD hS hA (fun _ => rfl) (by decide) rfl (by decide) (Nat.le_of_ble_eq_true rfl) (Nat.le_of_ble_eq_true rfl) dX0_init_57 (fun x4 c9 H hK hP hD hS => ?_)
  have e9 : cI = c9 := ck_int hK 0 1 rfl rfl
  subst e9
  replace hK := hK.sub (tys' := [(cI, .int)]) [0] rfl
  have hP : va_P D vwCl ([(x0, .inr (0, [.ref x1, .ref x2, .ref x3, .int 5, .int 2, .int 1, .int 4, .int 0, .null, .int 0, .null, .int 0, .null, .null, .null, .null])), (x1, .inl (cI, 8, .inl (fun _ => 0))), (x2, .inl (cI, 96, .inl (fun _ => 0))), (x3, .inl (cI, 12, .inl (fun _ => 0))), (x4, .inl (cI, 255, .inl (fun _ => 0)))]) H := hP
  have hD : va_D A ([(x0, .inr (0, [.ref x1, .ref x2, .ref x3, .int 5, .int 2, .int 1, .int 4, .int 0, .null, .int 0, .null, .int 0, .null, .null, .null, .null])), (x1, .inl (cI, 8, .inl (fun _ => 0))), (x2, .inl (cI, 96, .inl (fun _ => 0))), (x3, .inl (cI, 12, .inl (fun _ => 0))), (x4, .inl (cI, 255, .inl (fun _ => 0)))]) := hD
  refine va_putF (D := D) (ci := 0) (v := .ref x4) (ty := .array .int) (C := RX0) (T := TX0) (N := 16) hx hb hts hin tyX0 tyX0_ok nmX0 hown hK hP hD hS 0 rfl rfl 8 (by decide) hw_12 (fun _ h9 => h9) rfl hini rfl (by decide +kernel) rfl rfl (Nat.le_of_ble_eq_true rfl) dX0_init_59 (fun H locs hP hD hS => ?_)
  have hP : va_P D vwCl ([(x0, .inr (0, [.ref x1, .ref x2, .ref x3, .int 5, .int 2, .int 1, .int 4, .int 0, .ref x4, .int 0, .null, .int 0, .null, .null, .null, .null])), (x1, .inl (cI, 8, .inl (fun _ => 0))), (x2, .inl (cI, 96, .inl (fun _ => 0))), (x3, .inl (cI, 12, .inl (fun _ => 0))), (x4, .inl (cI, 255, .inl (fun _ => 0)))]) H := hP
  have hD : va_D A ([(x0, .inr (0, [.ref x1, .ref x2, .ref x3, .int 5, .int 2, .int 1, .int 4, .int 0, .ref x4, .int 0, .null, .int 0, .null, .null, .null, .null])), (x1, .inl (cI, 8, .inl (fun _ => 0))), (x2, .inl (cI, 96, .inl (fun _ => 0))), (x3, .inl (cI, 12, .inl (fun _ => 0))), (x4, .inl (cI, 255, .inl (fun _ => 0)))]) := hD
  refine lv_aload_n hx hb dX0_init_62 rfl (lv_at hl 0 rfl) ?_
  refine lv_iconst (v := 0) hx hb dX0_init_63 (by decide) ?_
  refine va_put (D := D) (ci := 0) (v := .int 0) (ty := .int) (C := RX0) (T := TX0) (N := 16) hx hb hts hin tyX0 tyX0_ok nmX0 hown hK hP hD hS 0 rfl rfl 9 (by decide) hw_13 (fun _ h9 => h9) rfl (by decide +kernel) rfl rfl (Nat.le_of_ble_eq_true rfl) dX0_init_64 (fun H locs hP hD hS => ?_)
  have hP : va_P D vwCl ([(x0, .inr (0, [.ref x1, .ref x2, .ref x3, .int 5, .int 2, .int 1, .int 4, .int 0, .ref x4, .int 0, .null, .int 0, .null, .null, .null, .null])), (x1, .inl (cI, 8, .inl (fun _ => 0))), (x2, .inl (cI, 96, .inl (fun _ => 0))), (x3, .inl (cI, 12, .inl (fun _ => 0))), (x4, .inl (cI, 255, .inl (fun _ => 0)))]) H := hP
  have hD : va_D A ([(x0, .inr (0, [.ref x1, .ref x2, .ref x3, .int 5, .int 2, .int 1, .int 4, .int 0, .ref x4, .int 0, .null, .int 0, .null, .null, .null, .null])), (x1, .inl (cI, 8, .inl (fun _ => 0))), (x2, .inl (cI, 96, .inl (fun _ => 0))), (x3, .inl (cI, 12, .inl (fun _ => 0))), (x4, .inl (cI, 255, .inl (fun _ => 0)))]) := hD
  refine lv_aload_n hx hb dX0_init_67 rfl (lv_at hl 0 rfl) ?_
  refine lv_sipush (v := 255) hx hb dX0_init_68 (by decide) ?_
  refine va_newa (atype := .int) (ty := .int) (n := 255) (N' := 255) (a0 := (255, .inl (fun _ => 0))) hx hb hw_3 rfl hK hP hD hS hA (fun _ => rfl) (by decide) rfl (by decide) (Nat.le_of_ble_eq_true rfl) (Nat.le_of_ble_eq_true rfl) dX0_init_71 (fun x5 c9 H hK hP hD hS => ?_)
  have e9 : cI = c9 := ck_int hK 0 1 rfl rfl
  subst e9
  replace hK := hK.sub (tys' := [(cI, .int)]) [0] rfl
  have hP : va_P D vwCl ([(x0, .inr (0, [.ref x1, .ref x2, .ref x3, .int 5, .int 2, .int 1, .int 4, .int 0, .ref x4, .int 0, .null, .int 0, .null, .null, .null, .null])), (x1, .inl (cI, 8, .inl (fun _ => 0))), (x2, .inl (cI, 96, .inl (fun _ => 0))), (x3, .inl (cI, 12, .inl (fun _ => 0))), (x4, .inl (cI, 255, .inl (fun _ => 0))), (x5, .inl (cI, 255, .inl (fun _ => 0)))]) H := hP
  have hD : va_D A ([(x0, .inr (0, [.ref x1, .ref x2, .ref x3, .int 5, .int 2, .int 1, .int 4, .int 0, .ref x4, .int 0, .null, .int 0, .null, .null, .null, .null])), (x1, .inl (cI, 8, .inl (fun _ => 0))), (x2, .inl (cI, 96, .inl (fun _ => 0))), (x3, .inl (cI, 12, .inl (fun _ => 0))), (x4, .inl (cI, 255, .inl (fun _ => 0))), (x5, .inl (cI, 255, .inl (fun _ => 0)))]) := hD
  refine va_putF (D := D) (ci := 0) (v := .ref x5) (ty := .array .int) (C := RX0) (T := TX0) (N := 16) hx hb hts hin tyX0 tyX0_ok nmX0 hown hK hP hD hS 0 rfl rfl 10 (by decide) hw_14 (fun _ h9 => h9) rfl hini rfl (by decide +kernel) rfl rfl (Nat.le_of_ble_eq_true rfl) dX0_init_73 (fun H locs hP hD hS => ?_)
  have hP : va_P D vwCl ([(x0, .inr (0, [.ref x1, .ref x2, .ref x3, .int 5, .int 2, .int 1, .int 4, .int 0, .ref x4, .int 0, .ref x5, .int 0, .null, .null, .null, .null])), (x1, .inl (cI, 8, .inl (fun _ => 0))), (x2, .inl (cI, 96, .inl (fun _ => 0))), (x3, .inl (cI, 12, .inl (fun _ => 0))), (x4, .inl (cI, 255, .inl (fun _ => 0))), (x5, .inl (cI, 255, .inl (fun _ => 0)))]) H := hP
  have hD : va_D A ([(x0, .inr (0, [.ref x1, .ref x2, .ref x3, .int 5, .int 2, .int 1, .int 4, .int 0, .ref x4, .int 0, .ref x5, .int 0, .null, .null, .null, .null])), (x1, .inl (cI, 8, .inl (fun _ => 0))), (x2, .inl (cI, 96, .inl (fun _ => 0))), (x3, .inl (cI, 12, .inl (fun _ => 0))), (x4, .inl (cI, 255, .inl (fun _ => 0))), (x5, .inl (cI, 255, .inl (fun _ => 0)))]) := hD
  refine lv_aload_n hx hb dX0_init_76 rfl (lv_at hl 0 rfl) ?_
  refine lv_iconst (v := 0) hx hb dX0_init_77 (by decide) ?_
  refine va_put (D := D) (ci := 0) (v := .int 0) (ty := .int) (C := RX0) (T := TX0) (N := 16) hx hb hts hin tyX0 tyX0_ok nmX0 hown hK hP hD hS 0 rfl rfl 11 (by decide) hw_15 (fun _ h9 => h9) rfl (by decide +kernel) rfl rfl (Nat.le_of_ble_eq_true rfl) dX0_init_78 (fun H locs hP hD hS => ?_)
  have hP : va_P D vwCl ([(x0, .inr (0, [.ref x1, .ref x2, .ref x3, .int 5, .int 2, .int 1, .int 4, .int 0, .ref x4, .int 0, .ref x5, .int 0, .null, .null, .null, .null])), (x1, .inl (cI, 8, .inl (fun _ => 0))), (x2, .inl (cI, 96, .inl (fun _ => 0))), (x3, .inl (cI, 12, .inl (fun _ => 0))), (x4, .inl (cI, 255, .inl (fun _ => 0))), (x5, .inl (cI, 255, .inl (fun _ => 0)))]) H := hP
  have hD : va_D A ([(x0, .inr (0, [.ref x1, .ref x2, .ref x3, .int 5, .int 2, .int 1, .int 4, .int 0, .ref x4, .int 0, .ref x5, .int 0, .null, .null, .null, .null])), (x1, .inl (cI, 8, .inl (fun _ => 0))), (x2, .inl (cI, 96, .inl (fun _ => 0))), (x3, .inl (cI, 12, .inl (fun _ => 0))), (x4, .inl (cI, 255, .inl (fun _ => 0))), (x5, .inl (cI, 255, .inl (fun _ => 0)))]) := hD
  refine lv_aload_n hx hb dX0_init_81 rfl (lv_at hl 0 rfl) ?_
  refine lv_sipush (v := 255) hx hb dX0_init_82 (by decide) ?_
  refine va_newa (atype := .long) (ty := .long) (n := 255) (N' := 255) (a0 := (255, .inr (.inl (fun _ => 0)))) hx hb hw_16 rfl hK hP hD hS hA (fun _ => rfl) (by decide) rfl (by decide) (Nat.le_of_ble_eq_true rfl) (Nat.le_of_ble_eq_true rfl) dX0_init_85 (fun x6 cJ H hK hP hD hS => ?_)
  have hK : va_K D vwCl [(cI, .int), (cJ, .long)] s := hK
  have hP : va_P D vwCl ([(x0, .inr (0, [.ref x1, .ref x2, .ref x3, .int 5, .int 2, .int 1, .int 4, .int 0, .ref x4, .int 0, .ref x5, .int 0, .null, .null, .null, .null])), (x1, .inl (cI, 8, .inl (fun _ => 0))), (x2, .inl (cI, 96, .inl (fun _ => 0))), (x3, .inl (cI, 12, .inl (fun _ => 0))), (x4, .inl (cI, 255, .inl (fun _ => 0))), (x5, .inl (cI, 255, .inl (fun _ => 0))), (x6, .inl (cJ, 255, .inr (.inl (fun _ => 0))))]) H := hP
  have hD : va_D A ([(x0, .inr (0, [.ref x1, .ref x2, .ref x3, .int 5, .int 2, .int 1, .int 4, .int 0, .ref x4, .int 0, .ref x5, .int 0, .null, .null, .null, .null])), (x1, .inl (cI, 8, .inl (fun _ => 0))), (x2, .inl (cI, 96, .inl (fun _ => 0))), (x3, .inl (cI, 12, .inl (fun _ => 0))), (x4, .inl (cI, 255, .inl (fun _ => 0))), (x5, .inl (cI, 255, .inl (fun _ => 0))), (x6, .inl (cJ, 255, .inr (.inl (fun _ => 0))))]) := hD
  refine va_putF (D := D) (ci := 0) (v := .ref x6) (ty := .array .long) (C := RX0) (T := TX0) (N := 16) hx hb hts hin tyX0 tyX0_ok nmX0 hown hK hP hD hS 0 rfl rfl 12 (by decide) hw_17 (fun _ h9 => h9) rfl hini rfl (by decide +kernel) rfl rfl (Nat.le_of_ble_eq_true rfl) dX0_init_87 (fun H locs hP hD hS => ?_)
  have hP : va_P D vwCl ([(x0, .inr (0, [.ref x1, .ref x2, .ref x3, .int 5, .int 2, .int 1, .int 4, .int 0, .ref x4, .int 0, .ref x5, .int 0, .ref x6, .null, .null, .null])), (x1, .inl (cI, 8, .inl (fun _ => 0))), (x2, .inl (cI, 96, .inl (fun _ => 0))), (x3, .inl (cI, 12, .inl (fun _ => 0))), (x4, .inl (cI, 255, .inl (fun _ => 0))), (x5, .inl (cI, 255, .inl (fun _ => 0))), (x6, .inl (cJ, 255, .inr (.inl (fun _ => 0))))]) H := hP
  have hD : va_D A ([(x0, .inr (0, [.ref x1, .ref x2, .ref x3, .int 5, .int 2, .int 1, .int 4, .int 0, .ref x4, .int 0, .ref x5, .int 0, .ref x6, .null, .null, .null])), (x1, .inl (cI, 8, .inl (fun _ => 0))), (x2, .inl (cI, 96, .inl (fun _ => 0))), (x3, .inl (cI, 12, .inl (fun _ => 0))), (x4, .inl (cI, 255, .inl (fun _ => 0))), (x5, .inl (cI, 255, .inl (fun _ => 0))), (x6, .inl (cJ, 255, .inr (.inl (fun _ => 0))))]) := hD
  refine lv_aload_n hx hb dX0_init_90 rfl (lv_at hl 0 rfl) ?_
  refine lv_sipush (v := 255) hx hb dX0_init_91 (by decide) ?_
  refine va_newa (atype := .long) (ty := .long) (n := 255) (N' := 255) (a0 := (255, .inr (.inl (fun _ => 0)))) hx hb hw_16 rfl hK hP hD hS hA (fun _ => rfl) (by decide) rfl (by decide) (Nat.le_of_ble_eq_true rfl) (Nat.le_of_ble_eq_true rfl) dX0_init_94 (fun x7 c9 H hK hP hD hS => ?_)
  have e9 : cJ = c9 := ck_long hK 1 2 rfl rfl
  subst e9
  replace hK := hK.sub (tys' := [(cI, .int), (cJ, .long)]) [0, 1] rfl
  have hP : va_P D vwCl ([(x0, .inr (0, [.ref x1, .ref x2, .ref x3, .int 5, .int 2, .int 1, .int 4, .int 0, .ref x4, .int 0, .ref x5, .int 0, .ref x6, .null, .null, .null])), (x1, .inl (cI, 8, .inl (fun _ => 0))), (x2, .inl (cI, 96, .inl (fun _ => 0))), (x3, .inl (cI, 12, .inl (fun _ => 0))), (x4, .inl (cI, 255, .inl (fun _ => 0))), (x5, .inl (cI, 255, .inl (fun _ => 0))), (x6, .inl (cJ, 255, .inr (.inl (fun _ => 0)))), (x7, .inl (cJ, 255, .inr (.inl (fun _ => 0))))]) H := hP
  have hD : va_D A ([(x0, .inr (0, [.ref x1, .ref x2, .ref x3, .int 5, .int 2, .int 1, .int 4, .int 0, .ref x4, .int 0, .ref x5, .int 0, .ref x6, .null, .null, .null])), (x1, .inl (cI, 8, .inl (fun _ => 0))), (x2, .inl (cI, 96, .inl (fun _ => 0))), (x3, .inl (cI, 12, .inl (fun _ => 0))), (x4, .inl (cI, 255, .inl (fun _ => 0))), (x5, .inl (cI, 255, .inl (fun _ => 0))), (x6, .inl (cJ, 255, .inr (.inl (fun _ => 0)))), (x7, .inl (cJ, 255, .inr (.inl (fun _ => 0))))]) := hD
  refine va_putF (D := D) (ci := 0) (v := .ref x7) (ty := .array .long) (C := RX0) (T := TX0) (N := 16) hx hb hts hin tyX0 tyX0_ok nmX0 hown hK hP hD hS 0 rfl rfl 13 (by decide) hw_18 (fun _ h9 => h9) rfl hini rfl (by decide +kernel) rfl rfl (Nat.le_of_ble_eq_true rfl) dX0_init_96 (fun H locs hP hD hS => ?_)
  have hP : va_P D vwCl ([(x0, .inr (0, [.ref x1, .ref x2, .ref x3, .int 5, .int 2, .int 1, .int 4, .int 0, .ref x4, .int 0, .ref x5, .int 0, .ref x6, .ref x7, .null, .null])), (x1, .inl (cI, 8, .inl (fun _ => 0))), (x2, .inl (cI, 96, .inl (fun _ => 0))), (x3, .inl (cI, 12, .inl (fun _ => 0))), (x4, .inl (cI, 255, .inl (fun _ => 0))), (x5, .inl (cI, 255, .inl (fun _ => 0))), (x6, .inl (cJ, 255, .inr (.inl (fun _ => 0)))), (x7, .inl (cJ, 255, .inr (.inl (fun _ => 0))))]) H := hP
  have hD : va_D A ([(x0, .inr (0, [.ref x1, .ref x2, .ref x3, .int 5, .int 2, .int 1, .int 4, .int 0, .ref x4, .int 0, .ref x5, .int 0, .ref x6, .ref x7, .null, .null])), (x1, .inl (cI, 8, .inl (fun _ => 0))), (x2, .inl (cI, 96, .inl (fun _ => 0))), (x3, .inl (cI, 12, .inl (fun _ => 0))), (x4, .inl (cI, 255, .inl (fun _ => 0))), (x5, .inl (cI, 255, .inl (fun _ => 0))), (x6, .inl (cJ, 255, .inr (.inl (fun _ => 0)))), (x7, .inl (cJ, 255, .inr (.inl (fun _ => 0))))]) := hD
  refine lv_aload_n hx hb dX0_init_99 rfl (lv_at hl 0 rfl) ?_
  refine lv_bipush (v := 15) hx hb dX0_init_100 (by decide) ?_
  refine va_newa (atype := .long) (ty := .long) (n := 15) (N' := 15) (a0 := (15, .inr (.inl (fun _ => 0)))) hx hb hw_16 rfl hK hP hD hS hA (fun _ => rfl) (by decide) rfl (by decide) (Nat.le_of_ble_eq_true rfl) (Nat.le_of_ble_eq_true rfl) dX0_init_102 (fun x8 c9 H hK hP hD hS => ?_)
  have e9 : cJ = c9 := ck_long hK 1 2 rfl rfl
  subst e9
  replace hK := hK.sub (tys' := [(cI, .int), (cJ, .long)]) [0, 1] rfl
  have hP : va_P D vwCl ([(x0, .inr (0, [.ref x1, .ref x2, .ref x3, .int 5, .int 2, .int 1, .int 4, .int 0, .ref x4, .int 0, .ref x5, .int 0, .ref x6, .ref x7, .null, .null])), (x1, .inl (cI, 8, .inl (fun _ => 0))), (x2, .inl (cI, 96, .inl (fun _ => 0))), (x3, .inl (cI, 12, .inl (fun _ => 0))), (x4, .inl (cI, 255, .inl (fun _ => 0))), (x5, .inl (cI, 255, .inl (fun _ => 0))), (x6, .inl (cJ, 255, .inr (.inl (fun _ => 0)))), (x7, .inl (cJ, 255, .inr (.inl (fun _ => 0)))), (x8, .inl (cJ, 15, .inr (.inl (fun _ => 0))))]) H := hP
  have hD : va_D A ([(x0, .inr (0, [.ref x1, .ref x2, .ref x3, .int 5, .int 2, .int 1, .int 4, .int 0, .ref x4, .int 0, .ref x5, .int 0, .ref x6, .ref x7, .null, .null])), (x1, .inl (cI, 8, .inl (fun _ => 0))), (x2, .inl (cI, 96, .inl (fun _ => 0))), (x3, .inl (cI, 12, .inl (fun _ => 0))), (x4, .inl (cI, 255, .inl (fun _ => 0))), (x5, .inl (cI, 255, .inl (fun _ => 0))), (x6, .inl (cJ, 255, .inr (.inl (fun _ => 0)))), (x7, .inl (cJ, 255, .inr (.inl (fun _ => 0)))), (x8, .inl (cJ, 15, .inr (.inl (fun _ => 0))))]) := hD
  refine va_putF (D := D) (ci := 0) (v := .ref x8) (ty := .array .long) (C := RX0) (T := TX0) (N := 16) hx hb hts hin tyX0 tyX0_ok nmX0 hown hK hP hD hS 0 rfl rfl 14 (by decide) hw_19 (fun _ h9 => h9) rfl hini rfl (by decide +kernel) rfl rfl (Nat.le_of_ble_eq_true rfl) dX0_init_104 (fun H locs hP hD hS => ?_)
  have hP : va_P D vwCl ([(x0, .inr (0, [.ref x1, .ref x2, .ref x3, .int 5, .int 2, .int 1, .int 4, .int 0, .ref x4, .int 0, .ref x5, .int 0, .ref x6, .ref x7, .ref x8, .null])), (x1, .inl (cI, 8, .inl (fun _ => 0))), (x2, .inl (cI, 96, .inl (fun _ => 0))), (x3, .inl (cI, 12, .inl (fun _ => 0))), (x4, .inl (cI, 255, .inl (fun _ => 0))), (x5, .inl (cI, 255, .inl (fun _ => 0))), (x6, .inl (cJ, 255, .inr (.inl (fun _ => 0)))), (x7, .inl (cJ, 255, .inr (.inl (fun _ => 0)))), (x8, .inl (cJ, 15, .inr (.inl (fun _ => 0))))]) H := hP
  have hD : va_D A ([(x0, .inr (0, [.ref x1, .ref x2, .ref x3, .int 5, .int 2, .int 1, .int 4, .int 0, .ref x4, .int 0, .ref x5, .int 0, .ref x6, .ref x7, .ref x8, .null])), (x1, .inl (cI, 8, .inl (fun _ => 0))), (x2, .inl (cI, 96, .inl (fun _ => 0))), (x3, .inl (cI, 12, .inl (fun _ => 0))), (x4, .inl (cI, 255, .inl (fun _ => 0))), (x5, .inl (cI, 255, .inl (fun _ => 0))), (x6, .inl (cJ, 255, .inr (.inl (fun _ => 0)))), (x7, .inl (cJ, 255, .inr (.inl (fun _ => 0)))), (x8, .inl (cJ, 15, .inr (.inl (fun _ => 0))))]) := hD
  refine lv_aload_n hx hb dX0_init_107 rfl (lv_at hl 0 rfl) ?_
  refine lv_bipush (v := 15) hx hb dX0_init_108 (by decide) ?_
  refine va_newa (atype := .long) (ty := .long) (n := 15) (N' := 15) (a0 := (15, .inr (.inl (fun _ => 0)))) hx hb hw_16 rfl hK hP hD hS hA (fun _ => rfl) (by decide) rfl (by decide) (Nat.le_of_ble_eq_true rfl) (Nat.le_of_ble_eq_true rfl) dX0_init_110 (fun x9 c9 H hK hP hD hS => ?_)
  have e9 : cJ = c9 := ck_long hK 1 2 rfl rfl
  subst e9
  replace hK := hK.sub (tys' := [(cI, .int), (cJ, .long)]) [0, 1] rfl
  have hP : va_P D vwCl ([(x0, .inr (0, [.ref x1, .ref x2, .ref x3, .int 5, .int 2, .int 1, .int 4, .int 0, .ref x4, .int 0, .ref x5, .int 0, .ref x6, .ref x7, .ref x8, .null])), (x1, .inl (cI, 8, .inl (fun _ => 0))), (x2, .inl (cI, 96, .inl (fun _ => 0))), (x3, .inl (cI, 12, .inl (fun _ => 0))), (x4, .inl (cI, 255, .inl (fun _ => 0))), (x5, .inl (cI, 255, .inl (fun _ => 0))), (x6, .inl (cJ, 255, .inr (.inl (fun _ => 0)))), (x7, .inl (cJ, 255, .inr (.inl (fun _ => 0)))), (x8, .inl (cJ, 15, .inr (.inl (fun _ => 0)))), (x9, .inl (cJ, 15, .inr (.inl (fun _ => 0))))]) H := hP
  have hD : va_D A ([(x0, .inr (0, [.ref x1, .ref x2, .ref x3, .int 5, .int 2, .int 1, .int 4, .int 0, .ref x4, .int 0, .ref x5, .int 0, .ref x6, .ref x7, .ref x8, .null])), (x1, .inl (cI, 8, .inl (fun _ => 0))), (x2, .inl (cI, 96, .inl (fun _ => 0))), (x3, .inl (cI, 12, .inl (fun _ => 0))), (x4, .inl (cI, 255, .inl (fun _ => 0))), (x5, .inl (cI, 255, .inl (fun _ => 0))), (x6, .inl (cJ, 255, .inr (.inl (fun _ => 0)))), (x7, .inl (cJ, 255, .inr (.inl (fun _ => 0)))), (x8, .inl (cJ, 15, .inr (.inl (fun _ => 0)))), (x9, .inl (cJ, 15, .inr (.inl (fun _ => 0))))]) := hD
  refine va_putF (D := D) (ci := 0) (v := .ref x9) (ty := .array .long) (C := RX0) (T := TX0) (N := 16) hx hb hts hin tyX0 tyX0_ok nmX0 hown hK hP hD hS 0 rfl rfl 15 (by decide) hw_20 (fun _ h9 => h9) rfl hini rfl (by decide +kernel) rfl rfl (Nat.le_of_ble_eq_true rfl) dX0_init_112 (fun H locs hP hD hS => ?_)
  have hP : va_P D vwCl ([(x0, .inr (0, [.ref x1, .ref x2, .ref x3, .int 5, .int 2, .int 1, .int 4, .int 0, .ref x4, .int 0, .ref x5, .int 0, .ref x6, .ref x7, .ref x8, .ref x9])), (x1, .inl (cI, 8, .inl (fun _ => 0))), (x2, .inl (cI, 96, .inl (fun _ => 0))), (x3, .inl (cI, 12, .inl (fun _ => 0))), (x4, .inl (cI, 255, .inl (fun _ => 0))), (x5, .inl (cI, 255, .inl (fun _ => 0))), (x6, .inl (cJ, 255, .inr (.inl (fun _ => 0)))), (x7, .inl (cJ, 255, .inr (.inl (fun _ => 0)))), (x8, .inl (cJ, 15, .inr (.inl (fun _ => 0)))), (x9, .inl (cJ, 15, .inr (.inl (fun _ => 0))))]) H := hP
  have hD : va_D A ([(x0, .inr (0, [.ref x1, .ref x2, .ref x3, .int 5, .int 2, .int 1, .int 4, .int 0, .ref x4, .int 0, .ref x5, .int 0, .ref x6, .ref x7, .ref x8, .ref x9])), (x1, .inl (cI, 8, .inl (fun _ => 0))), (x2, .inl (cI, 96, .inl (fun _ => 0))), (x3, .inl (cI, 12, .inl (fun _ => 0))), (x4, .inl (cI, 255, .inl (fun _ => 0))), (x5, .inl (cI, 255, .inl (fun _ => 0))), (x6, .inl (cJ, 255, .inr (.inl (fun _ => 0)))), (x7, .inl (cJ, 255, .inr (.inl (fun _ => 0)))), (x8, .inl (cJ, 15, .inr (.inl (fun _ => 0)))), (x9, .inl (cJ, 15, .inr (.inl (fun _ => 0))))]) := hD
  refine W.widen (k := 9) (n := 1166) (Nat.le_of_ble_eq_true rfl) (Nat.le_of_ble_eq_true rfl) ?_
  exact W.vret hx hb hr (fun t ht hW => ⟨⟨(), rfl, trivial, cI, cJ, x1, x2, x3, x4, x5, x6, x7, x8, x9, by rw [ht]; exact hP, va_K.moved hW.alike hK, hD⟩, hS.F ht⟩) hS.2.2 dX0_init_115
