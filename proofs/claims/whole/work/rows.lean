section
-- ===== PART A: goes FIRST, ahead of the names: the tables' words, and 'selects' of the private methods out of them =====
/-- a private method of a class that the tables say can be made, by its rows of tables_1 -/
def lw_okq (q : MethodName × Nat) : Prop := (q.1.cls ≠ "java/lang/invoke/MethodHandle" ∧ q.1.cls ≠ "java/lang/invoke/VarHandle") ∧ Cond.instantiable q.1.cls q.2 ∈ tables_1 ∧ Cond.privateMethod q.1 ∈ tables_1 ∧ Cond.instanceMethod q.1 ∈ tables_1
theorem lw_p0 : lw_okq (⟨"RoleMiner", "findCandidates", "()V"⟩, 16) := ⟨⟨by decide +kernel, by decide +kernel⟩, List.mem_of_getElem? (i := 13) (by decide +kernel), List.mem_of_getElem? (i := 76) (by decide +kernel), List.mem_of_getElem? (i := 77) (by decide +kernel)⟩
theorem lw_p1 : lw_okq (⟨"RoleMiner", "sharedBy", "(I)I"⟩, 16) := ⟨⟨by decide +kernel, by decide +kernel⟩, List.mem_of_getElem? (i := 13) (by decide +kernel), List.mem_of_getElem? (i := 80) (by decide +kernel), List.mem_of_getElem? (i := 81) (by decide +kernel)⟩
theorem lw_p2 : lw_okq (⟨"RoleMiner", "holdersOf", "(I)I"⟩, 16) := ⟨⟨by decide +kernel, by decide +kernel⟩, List.mem_of_getElem? (i := 13) (by decide +kernel), List.mem_of_getElem? (i := 87) (by decide +kernel), List.mem_of_getElem? (i := 88) (by decide +kernel)⟩
theorem lw_p3 : lw_okq (⟨"RoleMiner", "holds", "(II)Z"⟩, 16) := ⟨⟨by decide +kernel, by decide +kernel⟩, List.mem_of_getElem? (i := 13) (by decide +kernel), List.mem_of_getElem? (i := 91) (by decide +kernel), List.mem_of_getElem? (i := 92) (by decide +kernel)⟩
theorem lw_p4 : lw_okq (⟨"RoleMiner", "isProper", "(I)Z"⟩, 16) := ⟨⟨by decide +kernel, by decide +kernel⟩, List.mem_of_getElem? (i := 13) (by decide +kernel), List.mem_of_getElem? (i := 101) (by decide +kernel), List.mem_of_getElem? (i := 102) (by decide +kernel)⟩
theorem lw_p5 : lw_okq (⟨"RoleMiner", "findCover", "(I)V"⟩, 16) := ⟨⟨by decide +kernel, by decide +kernel⟩, List.mem_of_getElem? (i := 13) (by decide +kernel), List.mem_of_getElem? (i := 108) (by decide +kernel), List.mem_of_getElem? (i := 109) (by decide +kernel)⟩
theorem lw_p6 : lw_okq (⟨"RoleMiner", "findAllLeft", "()V"⟩, 16) := ⟨⟨by decide +kernel, by decide +kernel⟩, List.mem_of_getElem? (i := 13) (by decide +kernel), List.mem_of_getElem? (i := 118) (by decide +kernel), List.mem_of_getElem? (i := 119) (by decide +kernel)⟩
theorem lw_p7 : lw_okq (⟨"RoleMiner", "mostSavingCandidate", "(JJ)I"⟩, 16) := ⟨⟨by decide +kernel, by decide +kernel⟩, List.mem_of_getElem? (i := 13) (by decide +kernel), List.mem_of_getElem? (i := 122) (by decide +kernel), List.mem_of_getElem? (i := 123) (by decide +kernel)⟩
theorem lw_p8 : lw_okq (⟨"RoleMiner", "costWith", "(IJJ)I"⟩, 16) := ⟨⟨by decide +kernel, by decide +kernel⟩, List.mem_of_getElem? (i := 13) (by decide +kernel), List.mem_of_getElem? (i := 133) (by decide +kernel), List.mem_of_getElem? (i := 134) (by decide +kernel)⟩
theorem lw_p9 : lw_okq (⟨"RoleMiner", "joinedRoles", "(I)I"⟩, 16) := ⟨⟨by decide +kernel, by decide +kernel⟩, List.mem_of_getElem? (i := 13) (by decide +kernel), List.mem_of_getElem? (i := 161) (by decide +kernel), List.mem_of_getElem? (i := 162) (by decide +kernel)⟩
theorem lw_p10 : lw_okq (⟨"java/lang/Throwable", "fillInStackTrace", "(I)Ljava/lang/Throwable;"⟩, 6) := ⟨⟨by decide +kernel, by decide +kernel⟩, List.mem_of_getElem? (i := 217) (by decide +kernel), List.mem_of_getElem? (i := 215) (by decide +kernel), List.mem_of_getElem? (i := 216) (by decide +kernel)⟩
theorem lw_p11 : lw_okq (⟨"RoleMiner", "lapsingIn", "(II)I"⟩, 16) := ⟨⟨by decide +kernel, by decide +kernel⟩, List.mem_of_getElem? (i := 13) (by decide +kernel), List.mem_of_getElem? (i := 353) (by decide +kernel), List.mem_of_getElem? (i := 354) (by decide +kernel)⟩
theorem lw_p12 : lw_okq (⟨"RoleMiner", "bestChoice", "()I"⟩, 16) := ⟨⟨by decide +kernel, by decide +kernel⟩, List.mem_of_getElem? (i := 13) (by decide +kernel), List.mem_of_getElem? (i := 365) (by decide +kernel), List.mem_of_getElem? (i := 366) (by decide +kernel)⟩
theorem lw_p13 : lw_okq (⟨"RoleMiner", "costOfChoice", "(I)I"⟩, 16) := ⟨⟨by decide +kernel, by decide +kernel⟩, List.mem_of_getElem? (i := 13) (by decide +kernel), List.mem_of_getElem? (i := 372) (by decide +kernel), List.mem_of_getElem? (i := 373) (by decide +kernel)⟩
theorem lw_p14 : lw_okq (⟨"RoleMinerModel", "isUser", "(I)Z"⟩, 16) := ⟨⟨by decide +kernel, by decide +kernel⟩, List.mem_of_getElem? (i := 473) (by decide +kernel), List.mem_of_getElem? (i := 536) (by decide +kernel), List.mem_of_getElem? (i := 537) (by decide +kernel)⟩
theorem lw_p15 : lw_okq (⟨"RoleMinerModel", "between", "(III)Z"⟩, 16) := ⟨⟨by decide +kernel, by decide +kernel⟩, List.mem_of_getElem? (i := 473) (by decide +kernel), List.mem_of_getElem? (i := 540) (by decide +kernel), List.mem_of_getElem? (i := 541) (by decide +kernel)⟩
def lw_privs_1 : List (MethodName × Nat) := [(⟨"RoleMiner", "findCandidates", "()V"⟩, 16), (⟨"RoleMiner", "sharedBy", "(I)I"⟩, 16), (⟨"RoleMiner", "holdersOf", "(I)I"⟩, 16), (⟨"RoleMiner", "holds", "(II)Z"⟩, 16), (⟨"RoleMiner", "isProper", "(I)Z"⟩, 16), (⟨"RoleMiner", "findCover", "(I)V"⟩, 16), (⟨"RoleMiner", "findAllLeft", "()V"⟩, 16), (⟨"RoleMiner", "mostSavingCandidate", "(JJ)I"⟩, 16), (⟨"RoleMiner", "costWith", "(IJJ)I"⟩, 16), (⟨"RoleMiner", "joinedRoles", "(I)I"⟩, 16), (⟨"java/lang/Throwable", "fillInStackTrace", "(I)Ljava/lang/Throwable;"⟩, 6), (⟨"RoleMiner", "lapsingIn", "(II)I"⟩, 16), (⟨"RoleMiner", "bestChoice", "()I"⟩, 16), (⟨"RoleMiner", "costOfChoice", "(I)I"⟩, 16), (⟨"RoleMinerModel", "isUser", "(I)Z"⟩, 16), (⟨"RoleMinerModel", "between", "(III)Z"⟩, 16)]
theorem lw_r1 : ∀ q ∈ lw_privs_1, lw_okq q := List.forall_mem_cons.mpr ⟨lw_p0, List.forall_mem_cons.mpr ⟨lw_p1, List.forall_mem_cons.mpr ⟨lw_p2, List.forall_mem_cons.mpr ⟨lw_p3, List.forall_mem_cons.mpr ⟨lw_p4, List.forall_mem_cons.mpr ⟨lw_p5, List.forall_mem_cons.mpr ⟨lw_p6, List.forall_mem_cons.mpr ⟨lw_p7, List.forall_mem_cons.mpr ⟨lw_p8, List.forall_mem_cons.mpr ⟨lw_p9, List.forall_mem_cons.mpr ⟨lw_p10, List.forall_mem_cons.mpr ⟨lw_p11, List.forall_mem_cons.mpr ⟨lw_p12, List.forall_mem_cons.mpr ⟨lw_p13, List.forall_mem_cons.mpr ⟨lw_p14, List.forall_mem_cons.mpr ⟨lw_p15, fun _ h => absurd h List.not_mem_nil⟩⟩⟩⟩⟩⟩⟩⟩⟩⟩⟩⟩⟩⟩⟩⟩
theorem lw_p16 : lw_okq (⟨"RoleMinerModel", "isPermission", "(I)Z"⟩, 16) := ⟨⟨by decide +kernel, by decide +kernel⟩, List.mem_of_getElem? (i := 473) (by decide +kernel), List.mem_of_getElem? (i := 544) (by decide +kernel), List.mem_of_getElem? (i := 545) (by decide +kernel)⟩
theorem lw_p17 : lw_okq (⟨"RoleMinerModel", "holds", "(I)Z"⟩, 16) := ⟨⟨by decide +kernel, by decide +kernel⟩, List.mem_of_getElem? (i := 473) (by decide +kernel), List.mem_of_getElem? (i := 548) (by decide +kernel), List.mem_of_getElem? (i := 549) (by decide +kernel)⟩
theorem lw_p18 : lw_okq (⟨"RoleMinerModel", "isIn", "(II)Z"⟩, 16) := ⟨⟨by decide +kernel, by decide +kernel⟩, List.mem_of_getElem? (i := 473) (by decide +kernel), List.mem_of_getElem? (i := 552) (by decide +kernel), List.mem_of_getElem? (i := 553) (by decide +kernel)⟩
theorem lw_p19 : lw_okq (⟨"RoleMinerModel", "give", "(II)V"⟩, 16) := ⟨⟨by decide +kernel, by decide +kernel⟩, List.mem_of_getElem? (i := 473) (by decide +kernel), List.mem_of_getElem? (i := 556) (by decide +kernel), List.mem_of_getElem? (i := 557) (by decide +kernel)⟩
theorem lw_p20 : lw_okq (⟨"RoleMinerModel", "size", "(I)I"⟩, 16) := ⟨⟨by decide +kernel, by decide +kernel⟩, List.mem_of_getElem? (i := 473) (by decide +kernel), List.mem_of_getElem? (i := 568) (by decide +kernel), List.mem_of_getElem? (i := 569) (by decide +kernel)⟩
theorem lw_p21 : lw_okq (⟨"RoleMinerModel", "old", "(II)I"⟩, 16) := ⟨⟨by decide +kernel, by decide +kernel⟩, List.mem_of_getElem? (i := 473) (by decide +kernel), List.mem_of_getElem? (i := 596) (by decide +kernel), List.mem_of_getElem? (i := 597) (by decide +kernel)⟩
theorem lw_p22 : lw_okq (⟨"RoleMinerModel", "find", "()V"⟩, 16) := ⟨⟨by decide +kernel, by decide +kernel⟩, List.mem_of_getElem? (i := 473) (by decide +kernel), List.mem_of_getElem? (i := 604) (by decide +kernel), List.mem_of_getElem? (i := 605) (by decide +kernel)⟩
theorem lw_p23 : lw_okq (⟨"RoleMinerModel", "isProper", "(I)Z"⟩, 16) := ⟨⟨by decide +kernel, by decide +kernel⟩, List.mem_of_getElem? (i := 473) (by decide +kernel), List.mem_of_getElem? (i := 608) (by decide +kernel), List.mem_of_getElem? (i := 609) (by decide +kernel)⟩
theorem lw_p24 : lw_okq (⟨"RoleMinerModel", "whoHas", "(I)I"⟩, 16) := ⟨⟨by decide +kernel, by decide +kernel⟩, List.mem_of_getElem? (i := 473) (by decide +kernel), List.mem_of_getElem? (i := 612) (by decide +kernel), List.mem_of_getElem? (i := 613) (by decide +kernel)⟩
theorem lw_p25 : lw_okq (⟨"RoleMinerModel", "isWithin", "(II)Z"⟩, 16) := ⟨⟨by decide +kernel, by decide +kernel⟩, List.mem_of_getElem? (i := 473) (by decide +kernel), List.mem_of_getElem? (i := 616) (by decide +kernel), List.mem_of_getElem? (i := 617) (by decide +kernel)⟩
theorem lw_p26 : lw_okq (⟨"RoleMinerModel", "uncover", "()V"⟩, 16) := ⟨⟨by decide +kernel, by decide +kernel⟩, List.mem_of_getElem? (i := 473) (by decide +kernel), List.mem_of_getElem? (i := 620) (by decide +kernel), List.mem_of_getElem? (i := 621) (by decide +kernel)⟩
theorem lw_p27 : lw_okq (⟨"RoleMinerModel", "gain", "(I)I"⟩, 16) := ⟨⟨by decide +kernel, by decide +kernel⟩, List.mem_of_getElem? (i := 473) (by decide +kernel), List.mem_of_getElem? (i := 624) (by decide +kernel), List.mem_of_getElem? (i := 625) (by decide +kernel)⟩
theorem lw_p28 : lw_okq (⟨"RoleMinerModel", "add", "(I)V"⟩, 16) := ⟨⟨by decide +kernel, by decide +kernel⟩, List.mem_of_getElem? (i := 473) (by decide +kernel), List.mem_of_getElem? (i := 628) (by decide +kernel), List.mem_of_getElem? (i := 629) (by decide +kernel)⟩
theorem lw_p29 : lw_okq (⟨"RoleMinerModel", "uncovered", "()I"⟩, 16) := ⟨⟨by decide +kernel, by decide +kernel⟩, List.mem_of_getElem? (i := 473) (by decide +kernel), List.mem_of_getElem? (i := 632) (by decide +kernel), List.mem_of_getElem? (i := 633) (by decide +kernel)⟩
theorem lw_p30 : lw_okq (⟨"RoleMinerModel", "isTooMuch", "()Z"⟩, 16) := ⟨⟨by decide +kernel, by decide +kernel⟩, List.mem_of_getElem? (i := 473) (by decide +kernel), List.mem_of_getElem? (i := 640) (by decide +kernel), List.mem_of_getElem? (i := 641) (by decide +kernel)⟩
theorem lw_p31 : lw_okq (⟨"RoleMinerModel", "best", "()I"⟩, 16) := ⟨⟨by decide +kernel, by decide +kernel⟩, List.mem_of_getElem? (i := 473) (by decide +kernel), List.mem_of_getElem? (i := 644) (by decide +kernel), List.mem_of_getElem? (i := 645) (by decide +kernel)⟩
def lw_privs_2 : List (MethodName × Nat) := [(⟨"RoleMinerModel", "isPermission", "(I)Z"⟩, 16), (⟨"RoleMinerModel", "holds", "(I)Z"⟩, 16), (⟨"RoleMinerModel", "isIn", "(II)Z"⟩, 16), (⟨"RoleMinerModel", "give", "(II)V"⟩, 16), (⟨"RoleMinerModel", "size", "(I)I"⟩, 16), (⟨"RoleMinerModel", "old", "(II)I"⟩, 16), (⟨"RoleMinerModel", "find", "()V"⟩, 16), (⟨"RoleMinerModel", "isProper", "(I)Z"⟩, 16), (⟨"RoleMinerModel", "whoHas", "(I)I"⟩, 16), (⟨"RoleMinerModel", "isWithin", "(II)Z"⟩, 16), (⟨"RoleMinerModel", "uncover", "()V"⟩, 16), (⟨"RoleMinerModel", "gain", "(I)I"⟩, 16), (⟨"RoleMinerModel", "add", "(I)V"⟩, 16), (⟨"RoleMinerModel", "uncovered", "()I"⟩, 16), (⟨"RoleMinerModel", "isTooMuch", "()Z"⟩, 16), (⟨"RoleMinerModel", "best", "()I"⟩, 16)]
theorem lw_r2 : ∀ q ∈ lw_privs_2, lw_okq q := List.forall_mem_cons.mpr ⟨lw_p16, List.forall_mem_cons.mpr ⟨lw_p17, List.forall_mem_cons.mpr ⟨lw_p18, List.forall_mem_cons.mpr ⟨lw_p19, List.forall_mem_cons.mpr ⟨lw_p20, List.forall_mem_cons.mpr ⟨lw_p21, List.forall_mem_cons.mpr ⟨lw_p22, List.forall_mem_cons.mpr ⟨lw_p23, List.forall_mem_cons.mpr ⟨lw_p24, List.forall_mem_cons.mpr ⟨lw_p25, List.forall_mem_cons.mpr ⟨lw_p26, List.forall_mem_cons.mpr ⟨lw_p27, List.forall_mem_cons.mpr ⟨lw_p28, List.forall_mem_cons.mpr ⟨lw_p29, List.forall_mem_cons.mpr ⟨lw_p30, List.forall_mem_cons.mpr ⟨lw_p31, fun _ h => absurd h List.not_mem_nil⟩⟩⟩⟩⟩⟩⟩⟩⟩⟩⟩⟩⟩⟩⟩⟩
theorem lw_p32 : lw_okq (⟨"RoleMinerModel", "price", "(I)I"⟩, 16) := ⟨⟨by decide +kernel, by decide +kernel⟩, List.mem_of_getElem? (i := 473) (by decide +kernel), List.mem_of_getElem? (i := 648) (by decide +kernel), List.mem_of_getElem? (i := 649) (by decide +kernel)⟩
theorem lw_p33 : lw_okq (⟨"RoleMinerModel", "precedes", "(II)Z"⟩, 16) := ⟨⟨by decide +kernel, by decide +kernel⟩, List.mem_of_getElem? (i := 473) (by decide +kernel), List.mem_of_getElem? (i := 652) (by decide +kernel), List.mem_of_getElem? (i := 653) (by decide +kernel)⟩
theorem lw_p34 : lw_okq (⟨"RoleMinerModel", "plain", "(I)I"⟩, 16) := ⟨⟨by decide +kernel, by decide +kernel⟩, List.mem_of_getElem? (i := 473) (by decide +kernel), List.mem_of_getElem? (i := 660) (by decide +kernel), List.mem_of_getElem? (i := 661) (by decide +kernel)⟩
theorem lw_p35 : lw_okq (⟨"RoleMinerModel", "isRole", "(I)Z"⟩, 16) := ⟨⟨by decide +kernel, by decide +kernel⟩, List.mem_of_getElem? (i := 473) (by decide +kernel), List.mem_of_getElem? (i := 712) (by decide +kernel), List.mem_of_getElem? (i := 713) (by decide +kernel)⟩
theorem lw_p36 : lw_okq (⟨"RoleMinerModel", "gotten", "(I)I"⟩, 16) := ⟨⟨by decide +kernel, by decide +kernel⟩, List.mem_of_getElem? (i := 473) (by decide +kernel), List.mem_of_getElem? (i := 724) (by decide +kernel), List.mem_of_getElem? (i := 725) (by decide +kernel)⟩
def lw_privs_3 : List (MethodName × Nat) := [(⟨"RoleMinerModel", "price", "(I)I"⟩, 16), (⟨"RoleMinerModel", "precedes", "(II)Z"⟩, 16), (⟨"RoleMinerModel", "plain", "(I)I"⟩, 16), (⟨"RoleMinerModel", "isRole", "(I)Z"⟩, 16), (⟨"RoleMinerModel", "gotten", "(I)I"⟩, 16)]
theorem lw_r3 : ∀ q ∈ lw_privs_3, lw_okq q := List.forall_mem_cons.mpr ⟨lw_p32, List.forall_mem_cons.mpr ⟨lw_p33, List.forall_mem_cons.mpr ⟨lw_p34, List.forall_mem_cons.mpr ⟨lw_p35, List.forall_mem_cons.mpr ⟨lw_p36, fun _ h => absurd h List.not_mem_nil⟩⟩⟩⟩⟩
def lw_privs : List (MethodName × Nat) := lw_privs_1 ++ (lw_privs_2 ++ (lw_privs_3))
def lw_tbl : List Cond := k2_sels lw_privs ++ tables_1
theorem lw_privs_ok : ∀ q ∈ lw_privs, lw_okq q := by
  show ∀ q ∈ lw_privs_1 ++ (lw_privs_2 ++ (lw_privs_3)), lw_okq q
  exact List.forall_mem_append.mpr ⟨lw_r1, List.forall_mem_append.mpr ⟨lw_r2, lw_r3⟩⟩
-- ===== end of PART A; then your names; then what follows =====
/-! ===== BEGIN words of one list among another's, by their places ===== -/
theorem goodIn_r {big : List Cond} (ws : List Cond) (ps : List Nat) (hp : ws = ps.filterMap (fun i => big[i]?)) (h : ws.all goodWord = true) : GoodIn big ws := by
  intro w hw
  have h1 := List.all_eq_true.mp h w hw
  rw [hp] at hw
  obtain ⟨i, -, hi⟩ := List.mem_filterMap.mp hw
  have hm : w ∈ big := by first | exact List.mem_of_getElem? hi | exact List.getElem?_mem hi
  exact ⟨hm, good_of_word h1⟩
theorem goodIn_app {big a b : List Cond} (ha : GoodIn big a) (hb : GoodIn big b) : GoodIn big (a ++ b) := fun w h => (List.mem_append.mp h).elim (ha w) (hb w)
theorem goodIn_ca {big a b : List Cond} {c : Cond} (ha : GoodIn big (c :: a)) (hb : GoodIn big b) : GoodIn big (c :: (a ++ b)) := fun w h => (List.mem_cons.mp h).elim (fun e => ha w (List.mem_cons.mpr (Or.inl e))) (fun h => (List.mem_append.mp h).elim (fun h => ha w (List.mem_cons.mpr (Or.inr h))) (hb w))
theorem goodIn_sub {big ws : List Cond} (hm : ∀ w ∈ ws, w ∈ big) (h : ws.all goodWord = true) : GoodIn big ws := fun w hw => ⟨hm w hw, good_of_word (List.all_eq_true.mp h w hw)⟩
/-! ===== END ===== -/

/-! ===== BEGIN exceptions that leave a method, and their catching by the caller (launches without stack traces) ===== -/
section VXA
/-! The laws vx_back, vx_callV, vx_callS, vx_callSW, vx_throw0, vx_throwS follow proofs of the library, with one case more: JvmDerived/Free/Laws.lean (Back.of_free), Shelf42/LK1.lean (callV, callS), Shelf/KitTraced.lean (throwNew0V, throwNewS). -/
/-- where a method has thrown q: the class by its name, the cell, what was written, the world -/
def vx_T (XC : String → State → State → Prop) (st : State) (q : Addr) (t : State) (mc ms : Nat) (free : Addr → Prop) : Prop :=
  ∃ (E : String) (ce : Cell) (L : List Loc), XC E st t ∧ t.heap[q]? = some ce ∧ ce.vm = .none ∧ st.vm.findClass E = some ce.cls ∧ st.WarmedH t.vm ∧ st.sameButNew ({ t with vm := st.vm } : State) L mc ms ∧ ∀ z ∈ L, free z.base
def vx_Q (Qc : Array Value → State → Outcome → State → Prop) (XC : String → State → State → Prop) (mc ms : Nat) (free : Addr → Prop) : Array Value → State → Outcome → State → Prop := fun a st o t =>
  (Qc a st o t ∧ ∃ L, FrameEnd st o t L mc ms ∧ ∀ q ∈ L, free q.base) ∨ ∃ q, o = .threw q ∧ vx_T XC st q t mc ms free
/-- a callee that returns or throws -/
def vx_Met (l : Launch) (y : MethodName) (ws : List Cond) (rm : Room) (Pc : Array Value → State → Prop) (Qc : Array Value → State → Outcome → State → Prop) (XC : String → State → State → Prop) (mc ms : Nat) (free : Addr → Prop) : Prop :=
  MetFree l y (headSpec ws rm) Pc (fun _ _ _ _ _ => True) (vx_Q Qc XC mc ms free)
def vx_Post (XC : String → State → State → Prop) (mc ms : Nat) (free : Addr → Prop) : Pt → Array Value → Addr → Pt → Prop := fun A a q B =>
  ∃ (g : JFrame) (mk : MethodId) (t : State) (L : List Loc) (E : String) (ce : Cell), B.U.heap = t.heap ∧ B.U.vm = t.vm ∧ XC E (A.U.calling g mk a) t ∧ t.heap[q]? = some ce ∧ ce.vm = .none ∧ A.U.vm.findClass E = some ce.cls ∧ B.locs = A.locs ++ L ∧ (∀ z ∈ L, free z.base) ∧ B.cells = A.cells + mc ∧ B.slots = A.slots + ms
def vx_Back (l : Launch) (R : Room) (p : Program) (e : Env) (below : List Frame) (s : State) (sargs : Array Value) (y : MethodName) (len W9 : Nat)
    (Pre : Pt → Array Value → Prop) (Post : Pt → Array Value → Option Value → Pt → Prop) (PostX : Pt → Array Value → Addr → Pt → Prop) : Prop :=
  ∀ (m : MethodId) (meth : Method) (c : Code) (A : Pt) (g : JFrame) (ig : Instr) (mk : MethodId) (a : Array Value),
    Stand p l e R s m sargs below meth c A.U A.locs A.cells A.slots → g.method = m → g.locals.size = c.maxLocals → decode c.code g.pc = .ok (ig, len) →
    2 * g.monitorRoom + (g.stack.map fun v => v.category).sum ≤ W9 → A.U.methodNamed? y = some mk → Pre A a →
    (∃ (v : Option Value) (B : Pt), Stand p l e R s m sargs below meth c B.U B.locs B.cells B.slots ∧ Post A a v B ∧
      Steps p.tables e below (doInvoke e (A.U.setTop g) [] mk a).1 (B.U.setTop { g with pc := g.pc + len, stack := v.toList ++ g.stack })) ∨
    (∃ (q : Addr) (B : Pt), Stand p l e R s m sargs below meth c B.U B.locs B.cells B.slots ∧ PostX A a q B ∧
      Steps p.tables e below (doInvoke e (A.U.setTop g) [] mk a).1 ((B.U.setTop g).pushFrame (.throwing q)))
section Payer
variable {l : Launch} {R : Room} {p : Program} {e : Env} {below : List Frame} {s : State} {sargs : Array Value} {y : MethodName} {len W9 : Nat}
theorem vx_back {ws : List Cond} {rm : Room} {Pc : Array Value → State → Prop} {Qc : Array Value → State → Outcome → State → Prop} {XC : String → State → State → Prop} {mc ms : Nat} {free : Addr → Prop} {bytes : ByteArray} {maxL : Nat} {ret : Option FieldType}
    (hM : vx_Met l y ws rm Pc Qc XC mc ms free) (hblind : FrameBlind Pc) (hrc : rm.cells = mc) (hrs : rm.slots = ms)
    (hframes : rm.frames + 1 ≤ R.frames) (hlocals : W9 + (maxL + 11) + rm.locals ≤ R.locals)
    (hws : ∀ w ∈ ws, ∀ a' U, s.WarmedH U.vm → w.before a' U = true) (hcode : Cond.code y bytes maxL ret ∈ ws) (hinit : ∀ a' U, s.WarmedH U.vm → (Cond.initialized y.cls).before a' U = true) :
    vx_Back l R p e below s sargs y len W9 (PreOf R mc ms Pc) (PostOf Qc mc ms free) (vx_Post XC mc ms free) := by
  intro m meth c A g ig mk a X hg hsize hdg hW hn hp
  have h1 : (headSpec ws rm).pre.before a A.U = true := atoms_intro fun w hw => hws w hw _ _ X.warmed
  have h2 : (Cond.code y bytes maxL ret).before a A.U = true := hws _ hcode _ _ X.warmed
  have h3 : (Cond.initialized y.cls).before a A.U = true := hinit _ _ X.warmed
  have h4 : A.cells + (headSpec ws rm).room.cells ≤ R.cells := by rw [show (headSpec ws rm).room.cells = mc from hrc]; exact hp.1
  have h5 : A.slots + (headSpec ws rm).room.slots ≤ R.slots := by rw [show (headSpec ws rm).room.slots = ms from hrs]; exact hp.2.1
  have hPc : Pc a (A.U.calling g mk a) := hblind _ _ _ _ hp.2.2
  obtain ⟨U, Ls, c0, s0⟩ := A
  dsimp only [Pt.U, Pt.locs, Pt.cells, Pt.slots] at h1 h2 h3 h4 h5 X hn hPc ⊢
  obtain ⟨methY, cY, hmY, hcY, -, hlY, -, -, -, -⟩ := Cond.code_spec hn h2
  obtain ⟨kY, hkY, -⟩ := className_of_methodNamed hn
  have hinitY : kY.init = .initialized := Cond.initialized_spec (findClass_of_methodNamed hn) hkY h3
  have h : At U g.method c below := by rw [hg]; exact X.here
  have hlocals9 : W9 + (maxL + 11) + (headSpec ws rm).room.locals ≤ R.locals := hlocals
  have happ : (headSpec ws rm).appliesLoose y e.platform (U.calling g mk a) = true :=
    Spec.appliesLoose_calling (g := g) h hdg hn hkY hinitY
      (X.room_calling (g := g) (R' := (headSpec ws rm).room) hsize hmY hcY hframes (by rw [hlY]; omega) h4 h5) h1
  obtain ⟨mid, hmid⟩ := h.above
  have hfr : (U.setTop g).frames = (.java g :: mid) ++ below := by rw [State.frames_setTop' g h.top, hmid]; rfl
  obtain ⟨o, s₂, hsteps, -, hend, hq⟩ := Steps.callFree hM p X.admits X.cas X.clock (acts := []) hfr happ hPc trivial
  have hq' : vx_Q Qc XC mc ms free a (U.calling g mk a) o s₂ := hq
  rw [State.frames_setTop' g h.top] at hend
  obtain ⟨g₀, hg0⟩ := Option.isSome_iff_exists.mp h.top
  obtain ⟨r, hr⟩ := State.topJava?_eq_some.mp hg0
  have hr' : (({ U with heap := s₂.heap, slotsUsed := s₂.slotsUsed } : State).setVm s₂.vm).frames = .java g₀ :: r := hr
  rcases hq' with ⟨hqc, L, hfe, hL⟩ | ⟨q, rfl, E, ce, L, hx, hce, hcv, hcl, hW₂, hsm, hL⟩
  · obtain ⟨⟨v, rfl⟩, hW₂, e2, q2, q3, q4, q5, q6⟩ := id hfe
    have e3 : s₂ = ({ (U.calling g mk a).setFrames s₂.frames with heap := s₂.heap, slotsUsed := s₂.slotsUsed } : State).setVm s₂.vm := by
      have : s₂ = ({ s₂ with vm := (U.calling g mk a).vm } : State).setVm s₂.vm := rfl
      rw [e2] at this
      exact this
    obtain ⟨c₂, i₂, len₂, hc₂, hd₂, hf₂⟩ := hend
    have hW' : U.WarmedH s₂.vm := hW₂
    have hcc : c₂ = c := by
      have h1 : s₂.code? g.method = U.code? g.method := by
        rw [State.code?_eq, State.code?_eq, hW'.alike.method?]
      exact Option.some.inj (hc₂.symm.trans (h1.trans h.code))
    subst hcc
    have hlen : len₂ = len := by rw [hdg] at hd₂; cases hd₂; rfl
    subst hlen
    have hs₂ : s₂ = (({ U with heap := s₂.heap, slotsUsed := s₂.slotsUsed } : State).setVm s₂.vm).setTop { g with pc := g.pc + len₂, stack := v.toList ++ g.stack } := by
      refine e3.trans ?_
      rw [hf₂, State.calling_eq h.top, State.setFrames_setFrames, State.setTop_of_frames _ hr', hr]
      rfl
    have hsame : U.sameButNew ({ U with heap := s₂.heap, slotsUsed := s₂.slotsUsed } : State) L mc ms := by
      refine ⟨?_, q2, q3, q4, q5, q6⟩
      obtain ⟨t, ht, -⟩ := State.frames_cons hr
      show ({ U with heap := s₂.heap, slotsUsed := s₂.slotsUsed } : State) = { U.setFrames U.frames with heap := s₂.heap, slotsUsed := s₂.slotsUsed }
      rw [State.setFrames_self ht]
    subst hg
    refine Or.inl ⟨v, ⟨(({ U with heap := s₂.heap, slotsUsed := s₂.slotsUsed } : State).setVm s₂.vm), Ls ++ L, c0 + mc, s0 + ms⟩,
      ⟨X.admits, X.cas, X.clock, X.frames, X.room, X.hears, X.method, X.code, (X.here.setHeapUsed s₂.heap s₂.slotsUsed).setVm hW'.alike, X.tail, State.WarmedH.trans X.warmed hW', X.limits, X.bytes, X.same.trans (hsame.setVm s.vm)⟩,
      ⟨g, mk, s₂, L, rfl, rfl, hqc, rfl, hL, rfl, rfl⟩, ?_⟩
    show Steps p.tables e below _ ((({ U with heap := s₂.heap, slotsUsed := s₂.slotsUsed } : State).setVm s₂.vm).setTop { g with pc := g.pc + len₂, stack := v.toList ++ g.stack })
    rw [← hs₂]
    exact hsteps
  · obtain ⟨e2, q2, q3, q4, q5, q6⟩ := id hsm
    have e3 : s₂ = ({ (U.calling g mk a).setFrames s₂.frames with heap := s₂.heap, slotsUsed := s₂.slotsUsed } : State).setVm s₂.vm := by
      have : s₂ = ({ s₂ with vm := (U.calling g mk a).vm } : State).setVm s₂.vm := rfl
      rw [e2] at this
      exact this
    have hf₂ : s₂.frames = .throwing q :: .java g :: U.frames.tail := hend
    have hW' : U.WarmedH s₂.vm := hW₂
    have hs₂ : s₂ = ((({ U with heap := s₂.heap, slotsUsed := s₂.slotsUsed } : State).setVm s₂.vm).setTop g).pushFrame (.throwing q) := by
      refine e3.trans ?_
      rw [hf₂, State.calling_eq h.top, State.setFrames_setFrames, State.pushFrame, State.frames_setTop _ hr', State.setTop_of_frames _ hr', State.setFrames_setFrames, hr]
      rfl
    have hsame : U.sameButNew ({ U with heap := s₂.heap, slotsUsed := s₂.slotsUsed } : State) L mc ms := by
      refine ⟨?_, q2, q3, q4, q5, q6⟩
      obtain ⟨t, ht, -⟩ := State.frames_cons hr
      show ({ U with heap := s₂.heap, slotsUsed := s₂.slotsUsed } : State) = { U.setFrames U.frames with heap := s₂.heap, slotsUsed := s₂.slotsUsed }
      rw [State.setFrames_self ht]
    subst hg
    refine Or.inr ⟨q, ⟨(({ U with heap := s₂.heap, slotsUsed := s₂.slotsUsed } : State).setVm s₂.vm), Ls ++ L, c0 + mc, s0 + ms⟩,
      ⟨X.admits, X.cas, X.clock, X.frames, X.room, X.hears, X.method, X.code, (X.here.setHeapUsed s₂.heap s₂.slotsUsed).setVm hW'.alike, X.tail, State.WarmedH.trans X.warmed hW', X.limits, X.bytes, X.same.trans (hsame.setVm s.vm)⟩,
      ⟨g, mk, s₂, L, E, ce, rfl, rfl, hx, hce, hcv, hcl, rfl, hL, rfl, rfl⟩, ?_⟩
    show Steps p.tables e below _ (((({ U with heap := s₂.heap, slotsUsed := s₂.slotsUsed } : State).setVm s₂.vm).setTop g).pushFrame (.throwing q))
    rw [← hs₂]
    exact hsteps
end Payer
section Calls
variable {p : Program} {l : Launch} {e : Env} {R : Room} {s : State} {m : MethodId} {args : Array Value} {below : List Frame} {meth : Method} {c : Code} {T : State} {locs : List Loc} {cells slots : Nat}
theorem vx_callV (X : Stand p l e R s m args below meth c T locs cells slots) (hexec : p.tables.exec = Jvm.exec) {own C : String} {index : Nat} {y : MethodName} {bytes : ByteArray} {maxL : Nat} {ret : Option FieldType}
    (hown : s.vm.findClass own = some m.cls) (hlink : (Cond.methodLink own index y).before args s = true) (hinst : (Cond.instanceMethod y).before args s = true) (hsel : (Cond.selects C y y).before args s = true)
    (hcode : (Cond.code y bytes maxL ret).before args s = true) (hy : y.cls ≠ "java/lang/invoke/MethodHandle" ∧ y.cls ≠ "java/lang/invoke/VarHandle")
    {W9 : Nat} {Pre : Pt → Array Value → Prop} {Post : Pt → Array Value → Option Value → Pt → Prop} {PostX : Pt → Array Value → Addr → Pt → Prop} (hK : vx_Back l R p e below s args y 3 W9 Pre Post PostX)
    {b : Addr} {cellB : Cell} (hcell : T.heap[b]? = some cellB) (hobj : cellB.vm.isStatics = false) (hcls : s.vm.findClass C = some cellB.cls)
    {g : JFrame} (hg : g.method = m) (hsize : g.locals.size = c.maxLocals) {argsL rest : List Value} (hlen : ∀ sig, parseMethodDescriptor y.desc = some sig → argsL.length = sig.parameters.length)
    (hstack : g.stack = argsL.reverse ++ .ref b :: rest) (hW : 2 * g.monitorRoom + (rest.map fun v => v.category).sum ≤ W9) (hdg : decode c.code g.pc = .ok (.invokevirtual index, 3))
    (hpre : ∀ vm₁, s.WarmedH vm₁ → Pre ⟨T.setVm vm₁, locs, cells, slots⟩ (Value.ref b :: argsL).toArray) :
    (∃ (v : Option Value) (vm₁ : Vm) (B : Pt), s.WarmedH vm₁ ∧ Stand p l e R s m args below meth c B.U B.locs B.cells B.slots ∧ Post ⟨T.setVm vm₁, locs, cells, slots⟩ (Value.ref b :: argsL).toArray v B ∧
      ∀ target, Steps p.tables e below (B.U.setTop { g with pc := g.pc + 3, stack := v.toList ++ rest }) target → Steps p.tables e below (T.setTop g) target) ∨
    (∃ (q : Addr) (vm₁ : Vm) (B : Pt), s.WarmedH vm₁ ∧ Stand p l e R s m args below meth c B.U B.locs B.cells B.slots ∧ PostX ⟨T.setVm vm₁, locs, cells, slots⟩ (Value.ref b :: argsL).toArray q B ∧
      Steps p.tables e below (T.setTop g) ((B.U.setTop { g with stack := rest }).pushFrame (.throwing q))) := by
  obtain ⟨mk, methM, hnamed, hmethM, hstM, habM⟩ := Cond.instanceMethod_spec hinst
  obtain ⟨methM', cM, hmethM', -, -, -, -, -, -, hsigM⟩ := Cond.code_spec hnamed hcode
  cases hmethM.symm.trans hmethM'
  obtain ⟨c2, r2, m2, q1, q2, q3, q4, kP, hkP, hkPi⟩ := Cond.selects_spec hsel
  cases hcls.symm.trans q1
  cases (State.methodFound?_of_named hnamed hy).symm.trans q2
  cases hnamed.symm.trans q3
  have hselP : selectMethod e.platform s.vm cellB.cls mk = .method mk := by rw [Launch.admits_selectMethod X.admits]; exact q4
  obtain ⟨vm₁, X₁, hstep₁⟩ := X.invokevirtual hexec hown hlink hnamed hmethM hstM hkP hkPi hy (a := b) (cell := cellB) hcell
    (fun z h => by rw [h] at hobj; cases hobj) hselP hmethM habM hkP hkPi (g := g) hg (argsL := argsL) (rest := rest) (hlen _ hsigM) hstack hdg
  rcases hK m meth c ⟨T.setVm vm₁, locs, cells, slots⟩ { g with stack := rest } (.invokevirtual index) mk (Value.ref b :: argsL).toArray X₁ hg hsize hdg hW (X₁.named hnamed) (hpre vm₁ X₁.warmed) with ⟨v, B, X', hpost, hsteps⟩ | ⟨q, B, X', hpost, hsteps⟩
  · exact Or.inl ⟨v, vm₁, B, X₁.warmed, X', hpost, fun target h => hstep₁ _ fun acts => by rw [doInvoke_state]; exact hsteps.trans h⟩
  · exact Or.inr ⟨q, vm₁, B, X₁.warmed, X', hpost, hstep₁ _ fun acts => by rw [doInvoke_state]; exact hsteps⟩
theorem vx_callS (X : Stand p l e R s m args below meth c T locs cells slots) (hexec : p.tables.exec = Jvm.exec) {own : String} {index : Nat} {y : MethodName} {bytes : ByteArray} {maxL : Nat} {ret : Option FieldType}
    (hown : s.vm.findClass own = some m.cls) (hlink : (Cond.methodLink own index y).before args s = true) (hstat : (Cond.static y).before args s = true) (hinit : (Cond.initialized y.cls).before args s = true)
    (hcode : (Cond.code y bytes maxL ret).before args s = true) (hy : y.cls ≠ "java/lang/invoke/MethodHandle" ∧ y.cls ≠ "java/lang/invoke/VarHandle")
    {W9 : Nat} {Pre : Pt → Array Value → Prop} {Post : Pt → Array Value → Option Value → Pt → Prop} {PostX : Pt → Array Value → Addr → Pt → Prop} (hK : vx_Back l R p e below s args y 3 W9 Pre Post PostX)
    {g : JFrame} (hg : g.method = m) (hsize : g.locals.size = c.maxLocals) {argsL rest : List Value} (hlen : ∀ sig, parseMethodDescriptor y.desc = some sig → argsL.length = sig.parameters.length)
    (hstack : g.stack = argsL.reverse ++ rest) (hW : 2 * g.monitorRoom + (rest.map fun v => v.category).sum ≤ W9) (hdg : decode c.code g.pc = .ok (.invokestatic index, 3))
    (hpre : ∀ vm₁, s.WarmedH vm₁ → Pre ⟨T.setVm vm₁, locs, cells, slots⟩ argsL.toArray) :
    (∃ (v : Option Value) (vm₁ : Vm) (B : Pt), s.WarmedH vm₁ ∧ Stand p l e R s m args below meth c B.U B.locs B.cells B.slots ∧ Post ⟨T.setVm vm₁, locs, cells, slots⟩ argsL.toArray v B ∧
      ∀ target, Steps p.tables e below (B.U.setTop { g with pc := g.pc + 3, stack := v.toList ++ rest }) target → Steps p.tables e below (T.setTop g) target) ∨
    (∃ (q : Addr) (vm₁ : Vm) (B : Pt), s.WarmedH vm₁ ∧ Stand p l e R s m args below meth c B.U B.locs B.cells B.slots ∧ PostX ⟨T.setVm vm₁, locs, cells, slots⟩ argsL.toArray q B ∧
      Steps p.tables e below (T.setTop g) ((B.U.setTop { g with stack := rest }).pushFrame (.throwing q))) := by
  obtain ⟨mk, hnamed⟩ := Cond.code_named hcode
  obtain ⟨methM, cM, hmethM, -, -, -, -, -, -, hsigM⟩ := Cond.code_spec hnamed hcode
  have hstatic : methM.isStatic = true := Cond.static_spec hnamed hmethM hstat
  obtain ⟨kP, hkP, -⟩ := className_of_methodNamed hnamed
  have hinitP : kP.init = .initialized := Cond.initialized_spec (findClass_of_methodNamed hnamed) hkP hinit
  obtain ⟨vm₁, X₁, hstep₁⟩ := X.invokestatic hexec hown hlink hnamed hmethM hstatic hkP hinitP hy (g := g) hg (argsL := argsL) (rest := rest) (hlen _ hsigM) hstack hdg
  rcases hK m meth c ⟨T.setVm vm₁, locs, cells, slots⟩ { g with stack := rest } (.invokestatic index) mk argsL.toArray X₁ hg hsize hdg hW (X₁.named hnamed) (hpre vm₁ X₁.warmed) with ⟨v, B, X', hpost, hsteps⟩ | ⟨q, B, X', hpost, hsteps⟩
  · exact Or.inl ⟨v, vm₁, B, X₁.warmed, X', hpost, fun target h => hstep₁ _ fun acts => by rw [doInvoke_state]; exact hsteps.trans h⟩
  · exact Or.inr ⟨q, vm₁, B, X₁.warmed, X', hpost, hstep₁ _ fun acts => by rw [doInvoke_state]; exact hsteps⟩
end Calls
theorem vx_cls {s : State} {T : State} {vm₁ : Vm} {E : String} {k : ClassId} (hW : s.WarmedH vm₁) (h : (T.setVm vm₁).vm.findClass E = some k) : s.vm.findClass E = some k := by
  have h1 : vm₁.findClass E = some k := h
  rw [hW.alike.findClass] at h1
  exact h1
/-- the method's frame g, with q thrown over it -/
def vx_W (p : Program) (l : Launch) (e : Env) (R : Room) (s : State) (m : MethodId) (args : Array Value) (below : List Frame) (meth : Method) (c : Code) (H : Heap) (locs : List Loc) (cells slots : Nat) (Q : State → Prop) (g : JFrame) (q : Addr) : Prop :=
  ∀ T : State, T.heap = H → Stand p l e R s m args below meth c T locs cells slots → ∃ t, Steps p.tables e below ((T.setTop g).pushFrame (.throwing q)) t ∧ Q t
def vx_Run (p : Program) (l : Launch) (e : Env) (R : Room) (s : State) (m : MethodId) (args : Array Value) (below : List Frame) (meth : Method) (c : Code) (H : Heap) (locs : List Loc) (cells slots mc ms : Nat) (g : JFrame) (rest : List Value) (Qa : State → Outcome → State → Prop) (XC : String → State → State → Prop) (free : Addr → Prop) : Prop :=
  ∀ T : State, T.heap = H → Stand p l e R s m args below meth c T locs cells slots →
    (∃ (v : Option Value) (st₀ t T' : State) (L : List Loc), st₀.heap = H ∧ Stand p l e R s m args below meth c T' (locs ++ L) (cells + mc) (slots + ms) ∧ (∀ q ∈ L, free q.base) ∧ T'.heap = t.heap ∧ T'.vm = t.vm ∧ Qa st₀ (.returned v) t ∧
      Goes p e below T g T' { g with pc := g.pc + 3, stack := v.toList ++ rest }) ∨
    (∃ (q : Addr) (st₀ t T' : State) (L : List Loc) (E : String) (ce : Cell), st₀.heap = H ∧ Stand p l e R s m args below meth c T' (locs ++ L) (cells + mc) (slots + ms) ∧ (∀ z ∈ L, free z.base) ∧ T'.heap = t.heap ∧ T'.vm = t.vm ∧ XC E st₀ t ∧ t.heap[q]? = some ce ∧ ce.vm = .none ∧ s.vm.findClass E = some ce.cls ∧
      Steps p.tables e below (T.setTop g) ((T'.setTop { g with stack := rest }).pushFrame (.throwing q)))
def vx_X {S : Type} (px : S → Prop) (B : String → S → State → Prop) (A : Nat → Prop) : String → State → State → Prop := fun E st t => ∃ u : S, px u ∧ B E u t ∧ va_F A st t
section Runs
variable {p : Program} {l : Launch} {e : Env} {R : Room} {s : State} {m : MethodId} {args : Array Value} {below : List Frame} {meth : Method} {c : Code} {H : Heap} {locs : List Loc} {cells slots : Nat}
variable {y : MethodName} {bytes cc : ByteArray} {maxL nL mc ms n index : Nat} {ret : Option FieldType} {ws : List Cond} {rm : Room} {Pc : Array Value → State → Prop} {Qc : Array Value → State → Outcome → State → Prop} {XC : String → State → State → Prop} {free : Addr → Prop} {Ts : List Cond} {own C : String} {b : Addr} {As rest : List Value} {g : JFrame}
theorem vx_callBack (cb : CallB R s args own index y bytes maxL ret ws rm mc ms n) (hM : vx_Met l y ws rm Pc Qc XC mc ms free) (hbl : FrameBlind Pc) : vx_Back l R p e below s args y 3 8 (PreOf R mc ms Pc) (PostOf Qc mc ms free) (vx_Post XC mc ms free) := by
  obtain ⟨hrc, hrs, hfr, hlo, hws, hcw, -, hini, -⟩ := cb
  exact vx_back (bytes := bytes) (maxL := maxL) (ret := ret) hM hbl hrc hrs hfr hlo hws hcw (fun a' U hW => word_at hW (Or.inl (by first | rfl | simp [Cond.onTables, Cond.keeps, Cond.steady])) hini)
theorem vx_runV (S : CallFix p m c cc nL s args Ts own) (hM : vx_Met l y ws rm Pc Qc XC mc ms free) (cw : CallW R s args own C index y bytes maxL ret ws rm mc ms n) (hp : PreV s H C b Pc As)
    (hg : g.method = m) (hn : As.length = n) (hsize : g.locals.size = nL) (hstack : g.stack = As.reverse ++ .ref b :: rest) (hW : 2 * g.monitorRoom + (rest.map fun v => v.category).sum ≤ 8) (hdg : decode cc g.pc = .ok (.invokevirtual index, 3)) (hf : cells + mc ≤ R.cells ∧ slots + ms ≤ R.slots) :
    vx_Run p l e R s m args below meth c H locs cells slots mc ms g rest (Qc (Value.ref b :: As).toArray) XC free := by
  have hK : vx_Back l R p e below s args y 3 8 (PreOf R mc ms Pc) (PostOf Qc mc ms free) (vx_Post XC mc ms free) := vx_callBack cw.1 hM hp.1
  obtain ⟨⟨-, -, -, -, -, -, hcode, -, hy, hlen, hl⟩, hin, hse⟩ := cw
  obtain ⟨hx, hb, hml, ho, -⟩ := S
  obtain ⟨-, ⟨cellB, hcB, hoB, hclB⟩, hPc⟩ := hp
  intro T hT X
  rcases vx_callV X hx (C := C) (bytes := bytes) (maxL := maxL) (ret := ret) ho hl hin hse hcode hy hK (by rw [hT]; exact hcB) hoB hclB hg (hsize.trans hml.symm) (argsL := As) (rest := rest) (fun sig h => hn.trans (hlen sig h)) hstack hW (by rw [hb]; exact hdg)
    (fun vm₁ hW₁ => ⟨hf.1, hf.2, hPc (T.setVm vm₁) hT hW₁⟩) with ⟨v, vm₁, ⟨U', l2, c2, s2⟩, hW₁, X', ⟨g', mk, t, L, e1, e2, hq, h1, hL, h2, h3⟩, st⟩ | ⟨q, vm₁, ⟨U', l2, c2, s2⟩, hW₁, X', ⟨g', mk, t, L, E, ce, e1, e2, hq, hce, hcv, hcl, h1, hL, h2, h3⟩, st⟩
  · dsimp only [Pt.U, Pt.locs, Pt.cells, Pt.slots] at X' e1 e2 h1 h2 h3 st
    subst h1; subst h2; subst h3
    exact Or.inl ⟨v, (T.setVm vm₁).calling g' mk (Value.ref b :: As).toArray, t, U', L, hT, X', hL, e1, e2, hq, st⟩
  · dsimp only [Pt.U, Pt.locs, Pt.cells, Pt.slots] at X' e1 e2 h1 h2 h3 st hcl
    subst h1; subst h2; subst h3
    exact Or.inr ⟨q, (T.setVm vm₁).calling g' mk (Value.ref b :: As).toArray, t, U', L, E, ce, hT, X', hL, e1, e2, hq, hce, hcv, vx_cls hW₁ hcl, st⟩
theorem vx_runS (S : CallFix p m c cc nL s args Ts own) (hM : vx_Met l y ws rm Pc Qc XC mc ms free) (cw : CallB R s args own index y bytes maxL ret ws rm mc ms n ∧ (Cond.static y).before args s = true) (hp : PreS s H Pc As)
    (hg : g.method = m) (hn : As.length = n) (hsize : g.locals.size = nL) (hstack : g.stack = As.reverse ++ rest) (hW : 2 * g.monitorRoom + (rest.map fun v => v.category).sum ≤ 8) (hdg : decode cc g.pc = .ok (.invokestatic index, 3)) (hf : cells + mc ≤ R.cells ∧ slots + ms ≤ R.slots) :
    vx_Run p l e R s m args below meth c H locs cells slots mc ms g rest (Qc As.toArray) XC free := by
  have hK : vx_Back l R p e below s args y 3 8 (PreOf R mc ms Pc) (PostOf Qc mc ms free) (vx_Post XC mc ms free) := vx_callBack cw.1 hM hp.1
  obtain ⟨⟨-, -, -, -, -, -, hcode, hini, hy, hlen, hl⟩, hstt⟩ := cw
  obtain ⟨hx, hb, hml, ho, -⟩ := S
  intro T hT X
  rcases vx_callS X hx (bytes := bytes) (maxL := maxL) (ret := ret) ho hl hstt hini hcode hy hK hg (hsize.trans hml.symm) (argsL := As) (rest := rest) (fun sig h => hn.trans (hlen sig h)) hstack hW (by rw [hb]; exact hdg)
    (fun vm₁ hW₁ => ⟨hf.1, hf.2, hp.2 (T.setVm vm₁) hT hW₁⟩) with ⟨v, vm₁, ⟨U', l2, c2, s2⟩, hW₁, X', ⟨g', mk, t, L, e1, e2, hq, h1, hL, h2, h3⟩, st⟩ | ⟨q, vm₁, ⟨U', l2, c2, s2⟩, hW₁, X', ⟨g', mk, t, L, E, ce, e1, e2, hq, hce, hcv, hcl, h1, hL, h2, h3⟩, st⟩
  · dsimp only [Pt.U, Pt.locs, Pt.cells, Pt.slots] at X' e1 e2 h1 h2 h3 st
    subst h1; subst h2; subst h3
    exact Or.inl ⟨v, (T.setVm vm₁).calling g' mk As.toArray, t, U', L, hT, X', hL, e1, e2, hq, st⟩
  · dsimp only [Pt.U, Pt.locs, Pt.cells, Pt.slots] at X' e1 e2 h1 h2 h3 st hcl
    subst h1; subst h2; subst h3
    exact Or.inr ⟨q, (T.setVm vm₁).calling g' mk As.toArray, t, U', L, E, ce, hT, X', hL, e1, e2, hq, hce, hcv, vx_cls hW₁ hcl, st⟩
end Runs
section Rows
variable {p : Program} {l : Launch} {e : Env} {R : Room} {s : State} {m : MethodId} {args : Array Value} {below : List Frame} {meth : Method} {c : Code} {H : Heap} {locs : List Loc} {cells slots : Nat} {Q : State → Prop}
variable {mc ms : Nat} {free : Addr → Prop} {A0 A1 : Nat → Prop} {H0 : Heap} {a : Array Value} {pc : Nat} {ls : Array Slot} {st0 rest : List Value}
theorem vx_keep {st₀ t T' : State} {L : List Loc} (h0 : st₀.heap = H) (e1 : T'.heap = t.heap) (hS : va_S A0 H0 H locs) (hA : ∀ q, q < H.size → A1 q → A0 q) (hf : ∀ q, free q → A0 q) (hL : ∀ q ∈ L, free q.base) (hF : va_F A1 st₀ t) :
    H.size ≤ T'.heap.size ∧ (∀ q : Nat, q < H.size → ¬ A1 q → T'.heap[q]? = H[q]?) ∧ va_S A0 H0 T'.heap (locs ++ L) := by
  obtain ⟨hz, hk⟩ := hF
  rw [h0] at hz hk
  exact ⟨by rw [e1]; exact hz, fun q h1 h2 => by rw [e1]; exact hk q h1 h2,
    ⟨Nat.le_trans hS.1 (by rw [e1]; exact hz), fun q h1 h2 => by rw [e1, hk q (Nat.lt_of_lt_of_le h1 hS.1) (fun z => h2 (hA q (Nat.lt_of_lt_of_le h1 hS.1) z))]; exact hS.2.1 q h1 h2, fun q hq => by
      rcases List.mem_append.mp hq with h | h
      · exact hS.2.2 q h
      · exact hf _ (hL q h)⟩⟩
theorem vx_calli {S SX : Type} {post : Int32 → S → Prop} {px : SX → Prop} {B : S → State → Prop} {BX : String → SX → State → Prop} {AX : Nat → Prop} (hr : vx_Run p l e R s m args below meth c H locs cells slots mc ms (F0 m pc ls st0) rest (va_Qi post B A1 a) (vx_X px BX AX) free) (hS : va_S A0 H0 H locs) (hA : ∀ q, q < H.size → A1 q → A0 q) (hf : ∀ q, free q → A0 q) (hAX : ∀ q, q < H.size → AX q → A0 q)
    (kx : ∀ (E : String) (ce : Cell) (q9 : Addr) (u : SX) (t : State) (H1 : Heap) (locs1 : List Loc), t.heap = H1 → s.vm.Alike t.vm → px u → BX E u t → H.size ≤ H1.size → (∀ q : Nat, q < H.size → ¬ AX q → H1[q]? = H[q]?) → va_S A0 H0 H1 locs1 → H1[q9]? = some ce → ce.vm = .none → s.vm.findClass E = some ce.cls → vx_W p l e R s m args below meth c H1 locs1 (cells + mc) (slots + ms) Q (F0 m pc ls rest) q9)
    (kk : ∀ (r : Int32) (u : S) (t : State) (H1 : Heap) (locs1 : List Loc), t.heap = H1 → s.vm.Alike t.vm → post r u → B u t → H.size ≤ H1.size → (∀ q : Nat, q < H.size → ¬ A1 q → H1[q]? = H[q]?) → va_S A0 H0 H1 locs1 → W p l e R s m args below meth c H1 locs1 (cells + mc) (slots + ms) Q (F0 m (pc + 3) ls (.int r :: rest))) : W p l e R s m args below meth c H locs cells slots Q (F0 m pc ls st0) := by
  intro T hT X
  rcases hr T hT X with ⟨v, st₀, t, T', L, h0, X', hL, e1, e2, ⟨⟨r, u, hv, hp, hb⟩, hF⟩, st⟩ | ⟨q, st₀, t, T', L, E, ce, h0, X', hL, e1, e2, ⟨u, hp, hb, hF⟩, hce, hcv, hcl, st⟩
  · cases hv
    obtain ⟨k1, k2, k3⟩ := vx_keep h0 e1 hS hA hf hL hF
    obtain ⟨t2, a1, b1⟩ := kk r u t T'.heap (locs ++ L) e1.symm (by rw [← e2]; exact X'.warmed.alike) hp hb k1 k2 k3 T' rfl X'
    exact ⟨t2, st t2 a1, b1⟩
  · obtain ⟨k1, k2, k3⟩ := vx_keep h0 e1 hS hAX hf hL hF
    obtain ⟨t2, a1, b1⟩ := kx E ce q u t T'.heap (locs ++ L) e1.symm (by rw [← e2]; exact X'.warmed.alike) hp hb k1 k2 k3 (by rw [e1]; exact hce) hcv hcl T' rfl X'
    exact ⟨t2, st.trans a1, b1⟩
theorem vx_calll {S SX : Type} {post : Int64 → S → Prop} {px : SX → Prop} {B : S → State → Prop} {BX : String → SX → State → Prop} {AX : Nat → Prop} (hr : vx_Run p l e R s m args below meth c H locs cells slots mc ms (F0 m pc ls st0) rest (va_Ql post B A1 a) (vx_X px BX AX) free) (hS : va_S A0 H0 H locs) (hA : ∀ q, q < H.size → A1 q → A0 q) (hf : ∀ q, free q → A0 q) (hAX : ∀ q, q < H.size → AX q → A0 q)
    (kx : ∀ (E : String) (ce : Cell) (q9 : Addr) (u : SX) (t : State) (H1 : Heap) (locs1 : List Loc), t.heap = H1 → s.vm.Alike t.vm → px u → BX E u t → H.size ≤ H1.size → (∀ q : Nat, q < H.size → ¬ AX q → H1[q]? = H[q]?) → va_S A0 H0 H1 locs1 → H1[q9]? = some ce → ce.vm = .none → s.vm.findClass E = some ce.cls → vx_W p l e R s m args below meth c H1 locs1 (cells + mc) (slots + ms) Q (F0 m pc ls rest) q9)
    (kk : ∀ (r : Int64) (u : S) (t : State) (H1 : Heap) (locs1 : List Loc), t.heap = H1 → s.vm.Alike t.vm → post r u → B u t → H.size ≤ H1.size → (∀ q : Nat, q < H.size → ¬ A1 q → H1[q]? = H[q]?) → va_S A0 H0 H1 locs1 → W p l e R s m args below meth c H1 locs1 (cells + mc) (slots + ms) Q (F0 m (pc + 3) ls (.long r :: rest))) : W p l e R s m args below meth c H locs cells slots Q (F0 m pc ls st0) := by
  intro T hT X
  rcases hr T hT X with ⟨v, st₀, t, T', L, h0, X', hL, e1, e2, ⟨⟨r, u, hv, hp, hb⟩, hF⟩, st⟩ | ⟨q, st₀, t, T', L, E, ce, h0, X', hL, e1, e2, ⟨u, hp, hb, hF⟩, hce, hcv, hcl, st⟩
  · cases hv
    obtain ⟨k1, k2, k3⟩ := vx_keep h0 e1 hS hA hf hL hF
    obtain ⟨t2, a1, b1⟩ := kk r u t T'.heap (locs ++ L) e1.symm (by rw [← e2]; exact X'.warmed.alike) hp hb k1 k2 k3 T' rfl X'
    exact ⟨t2, st t2 a1, b1⟩
  · obtain ⟨k1, k2, k3⟩ := vx_keep h0 e1 hS hAX hf hL hF
    obtain ⟨t2, a1, b1⟩ := kx E ce q u t T'.heap (locs ++ L) e1.symm (by rw [← e2]; exact X'.warmed.alike) hp hb k1 k2 k3 (by rw [e1]; exact hce) hcv hcl T' rfl X'
    exact ⟨t2, st.trans a1, b1⟩
theorem vx_callf {S SX : Type} {post : UInt32 → S → Prop} {px : SX → Prop} {B : S → State → Prop} {BX : String → SX → State → Prop} {AX : Nat → Prop} (hr : vx_Run p l e R s m args below meth c H locs cells slots mc ms (F0 m pc ls st0) rest (va_Qf post B A1 a) (vx_X px BX AX) free) (hS : va_S A0 H0 H locs) (hA : ∀ q, q < H.size → A1 q → A0 q) (hf : ∀ q, free q → A0 q) (hAX : ∀ q, q < H.size → AX q → A0 q)
    (kx : ∀ (E : String) (ce : Cell) (q9 : Addr) (u : SX) (t : State) (H1 : Heap) (locs1 : List Loc), t.heap = H1 → s.vm.Alike t.vm → px u → BX E u t → H.size ≤ H1.size → (∀ q : Nat, q < H.size → ¬ AX q → H1[q]? = H[q]?) → va_S A0 H0 H1 locs1 → H1[q9]? = some ce → ce.vm = .none → s.vm.findClass E = some ce.cls → vx_W p l e R s m args below meth c H1 locs1 (cells + mc) (slots + ms) Q (F0 m pc ls rest) q9)
    (kk : ∀ (r : UInt32) (u : S) (t : State) (H1 : Heap) (locs1 : List Loc), t.heap = H1 → s.vm.Alike t.vm → post r u → B u t → H.size ≤ H1.size → (∀ q : Nat, q < H.size → ¬ A1 q → H1[q]? = H[q]?) → va_S A0 H0 H1 locs1 → W p l e R s m args below meth c H1 locs1 (cells + mc) (slots + ms) Q (F0 m (pc + 3) ls (.float r :: rest))) : W p l e R s m args below meth c H locs cells slots Q (F0 m pc ls st0) := by
  intro T hT X
  rcases hr T hT X with ⟨v, st₀, t, T', L, h0, X', hL, e1, e2, ⟨⟨r, u, hv, hp, hb⟩, hF⟩, st⟩ | ⟨q, st₀, t, T', L, E, ce, h0, X', hL, e1, e2, ⟨u, hp, hb, hF⟩, hce, hcv, hcl, st⟩
  · cases hv
    obtain ⟨k1, k2, k3⟩ := vx_keep h0 e1 hS hA hf hL hF
    obtain ⟨t2, a1, b1⟩ := kk r u t T'.heap (locs ++ L) e1.symm (by rw [← e2]; exact X'.warmed.alike) hp hb k1 k2 k3 T' rfl X'
    exact ⟨t2, st t2 a1, b1⟩
  · obtain ⟨k1, k2, k3⟩ := vx_keep h0 e1 hS hAX hf hL hF
    obtain ⟨t2, a1, b1⟩ := kx E ce q u t T'.heap (locs ++ L) e1.symm (by rw [← e2]; exact X'.warmed.alike) hp hb k1 k2 k3 (by rw [e1]; exact hce) hcv hcl T' rfl X'
    exact ⟨t2, st.trans a1, b1⟩
theorem vx_calld {S SX : Type} {post : UInt64 → S → Prop} {px : SX → Prop} {B : S → State → Prop} {BX : String → SX → State → Prop} {AX : Nat → Prop} (hr : vx_Run p l e R s m args below meth c H locs cells slots mc ms (F0 m pc ls st0) rest (va_Qd post B A1 a) (vx_X px BX AX) free) (hS : va_S A0 H0 H locs) (hA : ∀ q, q < H.size → A1 q → A0 q) (hf : ∀ q, free q → A0 q) (hAX : ∀ q, q < H.size → AX q → A0 q)
    (kx : ∀ (E : String) (ce : Cell) (q9 : Addr) (u : SX) (t : State) (H1 : Heap) (locs1 : List Loc), t.heap = H1 → s.vm.Alike t.vm → px u → BX E u t → H.size ≤ H1.size → (∀ q : Nat, q < H.size → ¬ AX q → H1[q]? = H[q]?) → va_S A0 H0 H1 locs1 → H1[q9]? = some ce → ce.vm = .none → s.vm.findClass E = some ce.cls → vx_W p l e R s m args below meth c H1 locs1 (cells + mc) (slots + ms) Q (F0 m pc ls rest) q9)
    (kk : ∀ (r : UInt64) (u : S) (t : State) (H1 : Heap) (locs1 : List Loc), t.heap = H1 → s.vm.Alike t.vm → post r u → B u t → H.size ≤ H1.size → (∀ q : Nat, q < H.size → ¬ A1 q → H1[q]? = H[q]?) → va_S A0 H0 H1 locs1 → W p l e R s m args below meth c H1 locs1 (cells + mc) (slots + ms) Q (F0 m (pc + 3) ls (.double r :: rest))) : W p l e R s m args below meth c H locs cells slots Q (F0 m pc ls st0) := by
  intro T hT X
  rcases hr T hT X with ⟨v, st₀, t, T', L, h0, X', hL, e1, e2, ⟨⟨r, u, hv, hp, hb⟩, hF⟩, st⟩ | ⟨q, st₀, t, T', L, E, ce, h0, X', hL, e1, e2, ⟨u, hp, hb, hF⟩, hce, hcv, hcl, st⟩
  · cases hv
    obtain ⟨k1, k2, k3⟩ := vx_keep h0 e1 hS hA hf hL hF
    obtain ⟨t2, a1, b1⟩ := kk r u t T'.heap (locs ++ L) e1.symm (by rw [← e2]; exact X'.warmed.alike) hp hb k1 k2 k3 T' rfl X'
    exact ⟨t2, st t2 a1, b1⟩
  · obtain ⟨k1, k2, k3⟩ := vx_keep h0 e1 hS hAX hf hL hF
    obtain ⟨t2, a1, b1⟩ := kx E ce q u t T'.heap (locs ++ L) e1.symm (by rw [← e2]; exact X'.warmed.alike) hp hb k1 k2 k3 (by rw [e1]; exact hce) hcv hcl T' rfl X'
    exact ⟨t2, st.trans a1, b1⟩
theorem vx_callv {S SX : Type} {post : S → Prop} {px : SX → Prop} {B : S → State → Prop} {BX : String → SX → State → Prop} {AX : Nat → Prop} (hr : vx_Run p l e R s m args below meth c H locs cells slots mc ms (F0 m pc ls st0) rest (va_Qv post B A1 a) (vx_X px BX AX) free) (hS : va_S A0 H0 H locs) (hA : ∀ q, q < H.size → A1 q → A0 q) (hf : ∀ q, free q → A0 q) (hAX : ∀ q, q < H.size → AX q → A0 q)
    (kx : ∀ (E : String) (ce : Cell) (q9 : Addr) (u : SX) (t : State) (H1 : Heap) (locs1 : List Loc), t.heap = H1 → s.vm.Alike t.vm → px u → BX E u t → H.size ≤ H1.size → (∀ q : Nat, q < H.size → ¬ AX q → H1[q]? = H[q]?) → va_S A0 H0 H1 locs1 → H1[q9]? = some ce → ce.vm = .none → s.vm.findClass E = some ce.cls → vx_W p l e R s m args below meth c H1 locs1 (cells + mc) (slots + ms) Q (F0 m pc ls rest) q9)
    (kk : ∀ (u : S) (t : State) (H1 : Heap) (locs1 : List Loc), t.heap = H1 → s.vm.Alike t.vm → post u → B u t → H.size ≤ H1.size → (∀ q : Nat, q < H.size → ¬ A1 q → H1[q]? = H[q]?) → va_S A0 H0 H1 locs1 → W p l e R s m args below meth c H1 locs1 (cells + mc) (slots + ms) Q (F0 m (pc + 3) ls (rest))) : W p l e R s m args below meth c H locs cells slots Q (F0 m pc ls st0) := by
  intro T hT X
  rcases hr T hT X with ⟨v, st₀, t, T', L, h0, X', hL, e1, e2, ⟨⟨u, hv, hp, hb⟩, hF⟩, st⟩ | ⟨q, st₀, t, T', L, E, ce, h0, X', hL, e1, e2, ⟨u, hp, hb, hF⟩, hce, hcv, hcl, st⟩
  · cases hv
    obtain ⟨k1, k2, k3⟩ := vx_keep h0 e1 hS hA hf hL hF
    obtain ⟨t2, a1, b1⟩ := kk u t T'.heap (locs ++ L) e1.symm (by rw [← e2]; exact X'.warmed.alike) hp hb k1 k2 k3 T' rfl X'
    exact ⟨t2, st t2 a1, b1⟩
  · obtain ⟨k1, k2, k3⟩ := vx_keep h0 e1 hS hAX hf hL hF
    obtain ⟨t2, a1, b1⟩ := kx E ce q u t T'.heap (locs ++ L) e1.symm (by rw [← e2]; exact X'.warmed.alike) hp hb k1 k2 k3 (by rw [e1]; exact hce) hcv hcl T' rfl X'
    exact ⟨t2, st.trans a1, b1⟩
/-- caught by the row x of this method's table; the rows ahead don't take it -/
theorem vx_catch {own name : String} {E : String} {ce : Cell} {q : Addr} (hown : s.vm.findClass own = some m.cls) (pre : List ExceptionTableEntry) (x : ExceptionTableEntry) (suf : List ExceptionTableEntry) (hsplit : c.exceptionTable.toList = pre ++ x :: suf)
    (hpass : ∀ z ∈ pre, covers z pc = false ∨ (z.catchType ≠ 0 ∧ ∃ nm : String, (Cond.classLink own z.catchType nm).before args s = true ∧ va_Nc E nm s)) (hx : covers x pc = true) (h0 : x.catchType ≠ 0)
    (hlink : (Cond.classLink own x.catchType name).before args s = true) (hcast : (Cond.castable E name).before args s = true) (hcell : H[q]? = some ce) (hv : ce.vm = .none) (hcl : s.vm.findClass E = some ce.cls)
    (kk : W p l e R s m args below meth c H locs cells slots Q (F0 m x.handlerPc ls [.ref q])) : vx_W p l e R s m args below meth c H locs cells slots Q (F0 m pc ls rest) q := by
  intro T hT X
  have hpl : e.platform.magicAccessors = ({} : Platform).magicAccessors := by rw [X.admits.platform]
  obtain ⟨c3, c4, hc3, hc4, hasg⟩ := Cond.castable_spec hcast
  cases Option.some.inj (hc3.symm.trans hcl)
  obtain ⟨c5, hc5, hcl5⟩ := Cond.classLink_spec hown hlink e.platform hpl
  cases Option.some.inj (hc4.symm.trans hc5)
  obtain ⟨vm', X', st⟩ := X.thenCaughtThrough q (g := F0 m pc ls rest) rfl (Steps.refl _) (by rw [hT]; exact hcell) (by rw [hv]; rfl) (by obtain ⟨k9, h9, -⟩ := Vm.findClass_spec hcl; exact ⟨k9, h9⟩) pre x suf hsplit
    (fun z hz => by
      rcases hpass z hz with h | ⟨hz0, nm, hl1, hn1⟩
      · exact Or.inl h
      · obtain ⟨c6, hc6, hcl6⟩ := Cond.classLink_spec hown hl1 e.platform hpl
        obtain ⟨a8, b8, h1, h2, h3⟩ := hn1
        cases Option.some.inj (h1.symm.trans hcl)
        cases Option.some.inj (h2.symm.trans hc6)
        exact Or.inr ⟨hz0, _, hcl6, h3⟩) hx (Or.inr ⟨h0, c4, hcl5, hasg⟩)
  obtain ⟨t, a1, b1⟩ := kk (T.setVm vm') hT X'
  exact ⟨t, st.trans a1, b1⟩
end Rows
section Ends
variable {p : Program} {l : Launch} {e : Env} {R : Room} {s : State} {m : MethodId} {args : Array Value} {below : List Frame} {meth : Method} {c : Code} {H : Heap} {locs : List Loc} {cells slots : Nat} {Q : State → Prop}
variable {mc ms : Nat} {free : Addr → Prop} {A0 A1 : Nat → Prop} {H0 : Heap} {a : Array Value} {ls : Array Slot} {st0 rest : List Value}
variable {Qc : Array Value → State → Outcome → State → Prop} {XC : String → State → State → Prop}
/-- what a body that may throw owes at its end -/
def vx_MQ (below : List Frame) (Qc : Array Value → State → Outcome → State → Prop) (XC : String → State → State → Prop) (a : Array Value) (s : State) (mc ms : Nat) (free : Addr → Prop) : State → Prop := fun t =>
  ∃ o, t.status = .running ∧ Ended t below o ∧ vx_Q Qc XC mc ms free a s o t
theorem vx_ret {g : JFrame} {mc ms : Nat} (k : W p l e R s m args below meth c H locs cells slots (MQ below Qc args s mc ms free) g) : W p l e R s m args below meth c H locs cells slots (vx_MQ below Qc XC args s mc ms free) g := by
  intro T hT X
  obtain ⟨t, a1, o, b1, b2, b3, b4⟩ := k T hT X
  exact ⟨t, a1, o, b1, b2, Or.inl ⟨b3, b4⟩⟩
/-- not caught here: it goes on to the caller -/
theorem vx_widen {g : JFrame} {q : Addr} {k n : Nat} (h1 : cells ≤ k) (h2 : slots ≤ n) (kk : vx_W p l e R s m args below meth c H locs k n Q g q) : vx_W p l e R s m args below meth c H locs cells slots Q g q := fun T hT X => kk T hT (stand_widen X h1 h2)
theorem vx_out {pc : Nat} {E : String} {ce : Cell} {q : Addr} {mc ms : Nat} (hout : ∀ x ∈ c.exceptionTable.toList, covers x pc = false) (hlocks : meth.locks = false) (hcell : H[q]? = some ce) (hv : ce.vm = .none) (hcl : s.vm.findClass E = some ce.cls)
    (hx : ∀ t : State, t.heap = H → s.vm.Alike t.vm → XC E s t) (hf : ∀ z ∈ locs, free z.base) (hc : cells ≤ mc) (hs : slots ≤ ms) :
    vx_W p l e R s m args below meth c H locs cells slots (vx_MQ below Qc XC args s mc ms free) (F0 m pc ls rest) q := by
  intro T hT X
  obtain ⟨st1, hrun, hend, hW, hsm⟩ := X.leaveThrown q (g := F0 m pc ls rest) rfl rfl rfl hout hlocks
  have hcell9 : (T.setFrames (.throwing q :: below)).heap[q]? = some ce := by
    show T.heap[q]? = some ce
    rw [hT]; exact hcell
  exact ⟨_, st1, .threw q, hrun, hend, Or.inr ⟨q, rfl, E, ce, locs, hx _ hT hW.alike, hcell9, hv, hcl, hW, hsm.mono hc hs, hf⟩⟩
theorem vx_frame {U : State} {k n : Nat} (h : s.sameButNew ({ U with vm := s.vm } : State) locs k n) : s.heap.size ≤ U.heap.size ∧ ∀ q : Nat, q < s.heap.size → (∀ z ∈ locs, z.base ≠ q) → U.heap[q]? = s.heap[q]? := by
  obtain ⟨-, h2, -, -, -, h6⟩ := h
  refine ⟨h2, fun q hq hz => ?_⟩
  obtain ⟨c9, e1, e2, e3, e4⟩ := h6 q _ (Array.getElem?_eq_getElem hq)
  have hs : c9.slots = (s.heap[q]).slots := Array.ext_getElem? fun i => e4 i fun hm => hz _ hm rfl
  have h9 : c9 = s.heap[q] := by
    rw [hs] at e2
    exact e2
  have e5 : U.heap[q]? = some c9 := e1
  rw [e5, h9, Array.getElem?_eq_getElem hq]
/-- the words of a throw but the four that speak of the heap -/
def vx_no (w : Cond) : Bool := decide (w ≠ .isRef (.static Bundle.tN "UNASSIGNED_STACK" Bundle.steD)) && decide (w ≠ .isRef (.static Bundle.tN "SUPPRESSED_SENTINEL" Bundle.listD)) && decide (w ≠ .laysStatic Bundle.tN "UNASSIGNED_STACK" Bundle.steD) && decide (w ≠ .laysStatic Bundle.tN "SUPPRESSED_SENTINEL" Bundle.listD)
def vx_at0 (own : String) (ic : Nat) (X : String) (names : List String) : List Cond := (Bundle.ownAtoms0 own ic X names).filter vx_no
def vx_atS (own : String) (ic : Nat) (X : String) (names : List String) : List Cond := (Bundle.ownAtoms own ic X names).filter vx_no
/-- a word that the tables alone decide, or a good one -/
def vx_ot (w : Cond) : Bool := w.onTables || goodWord w
theorem vx_ot_at {args a' : Array Value} {s U : State} {w : Cond} (hW : s.WarmedH U.vm) (hvm : s.vm = U.vm) (hg : vx_ot w = true) (h : w.before args s = true) : w.before a' U = true := by
  simp only [vx_ot, Bool.or_eq_true] at hg
  rcases hg with hg | hg
  · exact va_tabs hg hvm h
  · exact word_at hW (good_of_word hg) h
/-- a list's words: the good ones out of the method's own list, the others by premises of their own -/
theorem vx_hat {args : Array Value} {s : State} {L B : List Cond} (h1 : ∀ w ∈ L.filter goodWord, w.before args s = true) (h2 : ∀ w ∈ L.filter (fun w => !goodWord w), w ∈ B) (h3 : ∀ w ∈ B, w.before args s = true) : ∀ w ∈ L, w.before args s = true := by
  intro w hw
  by_cases g : goodWord w = true
  · exact h1 w (List.mem_filter.mpr ⟨hw, g⟩)
  · refine h3 w (h2 w (List.mem_filter.mpr ⟨hw, ?_⟩))
    show (!goodWord w) = true
    cases hgw : goodWord w
    · rfl
    · exact absurd hgw g
theorem vx_c {args : Array Value} {s : State} {w : Cond} {B : List Cond} (h : w.before args s = true) (t : ∀ w ∈ B, w.before args s = true) : ∀ w' ∈ w :: B, w'.before args s = true := fun w' h' => (List.mem_cons.mp h').elim (fun e => by rw [e]; exact h) (t w')
theorem vx_n {args : Array Value} {s : State} : ∀ w ∈ ([] : List Cond), w.before args s = true := fun _ h => nomatch h
theorem vx_own {args : Array Value} {s : State} {L : List Cond} (h1 : ∀ w ∈ L.filter vx_no, w.before args s = true)
    (hU : (Cond.isRef (.static Bundle.tN "UNASSIGNED_STACK" Bundle.steD)).before args s = true) (hN : (Cond.isRef (.static Bundle.tN "SUPPRESSED_SENTINEL" Bundle.listD)).before args s = true)
    (lU : (Cond.laysStatic Bundle.tN "UNASSIGNED_STACK" Bundle.steD).before args s = true) (lN : (Cond.laysStatic Bundle.tN "SUPPRESSED_SENTINEL" Bundle.listD).before args s = true) : ∀ w ∈ L, w.before args s = true := by
  intro w hw
  by_cases e1 : w = .isRef (.static Bundle.tN "UNASSIGNED_STACK" Bundle.steD)
  · rw [e1]; exact hU
  · by_cases e2 : w = .isRef (.static Bundle.tN "SUPPRESSED_SENTINEL" Bundle.listD)
    · rw [e2]; exact hN
    · by_cases e3 : w = .laysStatic Bundle.tN "UNASSIGNED_STACK" Bundle.steD
      · rw [e3]; exact lU
      · by_cases e4 : w = .laysStatic Bundle.tN "SUPPRESSED_SENTINEL" Bundle.listD
        · rw [e4]; exact lN
        · exact h1 w (List.mem_filter.mpr ⟨hw, by unfold vx_no; rw [decide_eq_true e1, decide_eq_true e2, decide_eq_true e3, decide_eq_true e4]; rfl⟩)
/-- where a static field lies, its class's statics cell in H -/
def vx_L (C n d : String) (A : Nat → Prop) (U : State) (H : Heap) : Prop := ∃ (c : ClassId) (k : Class) (i : Nat) (f : Field) (a : Nat) (cell : Cell), U.vm.findClass C = some c ∧ U.fieldFound? C n d = some (c, k, i, f) ∧ f.isStatic = true ∧ k.statics = some a ∧ H[a]? = some cell ∧ cell.vm.isStatics = true ∧ cell.cls = c ∧ f.slot < cell.slots.size ∧ k.staticTypes[f.slot]? = some f.type ∧ ¬ A a
theorem vx_L.moved {C n d : String} {A : Nat → Prop} {u U : State} {H : Heap} (hvm : u.vm.Alike U.vm) (h : vx_L C n d A u H) : vx_L C n d A U H := by
  obtain ⟨c, k, i, f, a, cell, h1, h2, h3, h4, h5, h6, h7, h8, h9, h10⟩ := h
  obtain ⟨k', hi', he⟩ := State.fieldFound?_setVm hvm h2
  exact ⟨c, k', i, f, a, cell, by rw [hvm.findClass]; exact h1, hi', h3, by rw [he]; exact h4, h5, h6, h7, h8, by rw [he]; exact h9, h10⟩
theorem vx_L.kept {C n d : String} {A : Nat → Prop} {U : State} {H H1 : Heap} (h : vx_L C n d A U H) (hq : ∀ a : Nat, a < H.size → ¬ A a → H1[a]? = H[a]?) : vx_L C n d A U H1 := by
  obtain ⟨c, k, i, f, a, cell, h1, h2, h3, h4, h5, h6, h7, h8, h9, h10⟩ := h
  exact ⟨c, k, i, f, a, cell, h1, h2, h3, h4, by rw [hq a (Array.getElem?_eq_some_iff.mp h5).1 h10]; exact h5, h6, h7, h8, h9, h10⟩
theorem vx_L.narrow {C n d : String} {A B : Nat → Prop} {U : State} {H : Heap} (h : vx_L C n d A U H) (hAB : ∀ q, B q → A q) : vx_L C n d B U H := by
  obtain ⟨c, k, i, f, a, cell, h1, h2, h3, h4, h5, h6, h7, h8, h9, h10⟩ := h
  exact ⟨c, k, i, f, a, cell, h1, h2, h3, h4, h5, h6, h7, h8, h9, fun z => h10 (hAB _ z)⟩
theorem vx_L.word {C n d : String} {A : Nat → Prop} {s : State} {args : Array Value} (h : vx_L C n d A s s.heap) : (Cond.laysStatic C n d).before args s = true := by
  obtain ⟨c, k, i, f, a, cell, h1, h2, h3, h4, h5, h6, h7, h8, h9, -⟩ := h
  show (Cond.laysStatic C n d).holds args s none s [] = true
  exact Cond.laysStatic_of h1 h2 h3 h4 h5 h6 h7 h8 h9
/-- .. and what it holds: null or some reference -/
def vx_Zq (C n d : String) (A : Nat → Prop) (U : State) (H : Heap) : Prop := va_Zq C n d A U H ∧ vx_L C n d A U H
theorem vx_Zq.moved {C n d : String} {A : Nat → Prop} {u U : State} {H : Heap} (hvm : u.vm.Alike U.vm) (h : vx_Zq C n d A u H) : vx_Zq C n d A U H := ⟨va_Zq.moved hvm h.1, vx_L.moved hvm h.2⟩
theorem vx_Zq.kept {C n d : String} {A : Nat → Prop} {U : State} {H H1 : Heap} (h : vx_Zq C n d A U H) (hq : ∀ a : Nat, a < H.size → ¬ A a → H1[a]? = H[a]?) : vx_Zq C n d A U H1 := ⟨va_Zq.kept h.1 hq, vx_L.kept h.2 hq⟩
theorem vx_Zq.narrow {C n d : String} {A B : Nat → Prop} {U : State} {H : Heap} (h : vx_Zq C n d A U H) (hAB : ∀ q, B q → A q) : vx_Zq C n d B U H := ⟨va_Zq.narrow h.1 hAB, vx_L.narrow h.2 hAB⟩
theorem vx_Zqof {args : Array Value} {s : State} {C n d : String} {A : Nat → Prop} (hl : (Cond.laysStatic C n d).before args s = true) (hini : (Cond.initialized C).before args s = true) (h : (Cond.isRef (.static C n d)).before args s = true) (hA : ∀ a : Nat, a < s.heap.size → ¬ A a) : vx_Zq C n d A s s.heap := by
  refine ⟨va_Zqof hl hini h hA, ?_⟩
  obtain ⟨c, k, i, f, a, cell, h1, h2, h3, h4, h5, h6, h7, h8, h9⟩ := Cond.laysStatic_spec hl
  exact ⟨c, k, i, f, a, cell, h1, h2, h3, h4, h5, h6, h7, h8, h9, hA a (Array.getElem?_eq_some_iff.mp h5).1⟩
theorem vx_isRef {C n d : String} {v : Value} {A : Nat → Prop} {s : State} {args : Array Value} (h : va_Z C n d v A s s.heap) (hv : v.isRef = true) : (Cond.isRef (.static C n d)).before args s = true := by
  obtain ⟨cf, kf, fi, f, a, cell, h1, h2, h3, h4, h5, h6, h7, -⟩ := h
  have he : (Term.static C n d).eval args s none [] s = some v := by
    simp [Term.eval, State.fieldNamed?, h1, h2, h4, h5, h6, h7]
  simp only [Cond.before, Cond.holds, Cond.value, he]
  cases v <;> simp_all [Value.isRef]
theorem vx_isRefq {C n d : String} {A : Nat → Prop} {s : State} {args : Array Value} (h : va_Zq C n d A s s.heap) : (Cond.isRef (.static C n d)).before args s = true := by
  rcases h with h | ⟨t, h⟩
  · exact vx_isRef h rfl
  · exact vx_isRef h rfl
/-- the same frame, seen from here: as if the method were called anew in this heap -/
theorem vx_rebase {T : State} (X : Stand p l e R s m args below meth c T locs cells slots) {R' : Room} (hf : R'.frames ≤ R.frames) (hl : R'.locals ≤ R.locals) (hc : cells + R'.cells ≤ R.cells) (hs : slots + R'.slots ≤ R.slots) :
    Stand p l e R' ((T.setVm s.vm).setFrames (.invoking m args :: below)) m args below meth c T [] 0 0 := by
  have htop : (T.setVm s.vm).topJava?.isSome := X.here.top
  have hF : ((T.setVm s.vm).setFrames (.invoking m args :: below)).frames = .invoking m args :: below := State.frames_setFrames _ (State.cur_lt_of_top htop)
  obtain ⟨g₀, hg0⟩ := Option.isSome_iff_exists.mp htop
  obtain ⟨r, hr⟩ := State.topJava?_eq_some.mp hg0
  have hl9 : e.platform.stackLimits (T.setVm s.vm).me = e.platform.stackLimits s.me := X.limits
  have hb9 : (T.setVm s.vm).me.stackBytes = s.me.stackBytes := X.bytes
  refine ⟨X.admits, X.cas, X.clock, hF, ?_, X.hears, X.method, X.code, X.here, X.tail, X.warmed, ?_, ?_, ?_⟩
  · have h := X.room
    have hU : ((T.setVm s.vm).setFrames (.invoking m args :: below)).localsInUse = s.localsInUse := by
      rw [State.localsInUse_invoking hF (meth := meth) (c := c) X.method X.code, State.localsInUse_invoking X.frames X.method X.code]
    simp only [State.hasRoom, Bool.and_eq_true, decide_eq_true_eq] at h ⊢
    obtain ⟨⟨⟨⟨h1, h2, h3, h4, h5, h6⟩, h7⟩, h8⟩, h9⟩ := h
    rw [X.frames, List.length_cons] at h2 h3
    have q1 := X.heapSize
    have q2 := X.used
    simp only [hF, hU, List.length_cons, State.stackLimits_setFrames, State.stackBytes_setFrames, hl9, hb9]
    refine ⟨⟨⟨⟨by omega, by omega, by omega, by omega, by omega, h6⟩, ?_⟩, ?_⟩, X.book⟩
    · show T.heap.size + R'.cells ≤ e.platform.maxCells
      omega
    · show T.slotsUsed + R'.slots ≤ e.platform.maxSlots
      omega
  · rw [State.stackLimits_setFrames]; rfl
  · rw [State.stackBytes_setFrames]; rfl
  · refine ⟨?_, Nat.le_refl _, Nat.le_refl _, ?_, ?_, fun a c9 h9 => ⟨c9, h9, rfl, rfl, fun _ _ => rfl⟩⟩
    · obtain ⟨t, ht, -⟩ := State.frames_cons hr
      show T.setVm s.vm = { ((T.setVm s.vm).setFrames (.invoking m args :: below)).setFrames (T.setVm s.vm).frames with heap := T.heap, slotsUsed := T.slotsUsed }
      rw [State.setFrames_setFrames, State.setFrames_self ht]
      rfl
    · show T.slotsUsed = T.slotsUsed + ((T.heap.toList.drop T.heap.size).map (·.slots.size)).sum
      rw [List.drop_eq_nil_of_le (Nat.le_of_eq Array.length_toList)]
      rfl
    · show ((T.heap.toList.drop T.heap.size).map (·.slots.size)).sum ≤ 0
      rw [List.drop_eq_nil_of_le (Nat.le_of_eq Array.length_toList)]
      exact Nat.le_refl _
/-- 'throw new E()': new; dup; invokespecial; athrow -/
theorem vx_throw0 {cc : ByteArray} {pc : Nat} (hexec : p.tables.exec = Jvm.exec) (hb : c.code = cc) (hl : l.stackTraces = false) {own cls : String} {names : List String} {ik ic mc ms : Nat} {A : Nat → Prop}
    (hown : s.vm.findClass own = some m.cls) (hcls : Bundle.fit cls = true) (hnames : ∀ n ∈ names, Bundle.fit n = true)
    (hk : (Cond.classLink own ik cls).before args s = true) (hini : (Cond.initialized cls).before args s = true) (hat : ∀ w ∈ vx_at0 own ic cls names, w.before args s = true)
    (hgood : ∀ w ∈ Cond.classLink own ik cls :: Cond.initialized cls :: vx_at0 own ic cls names, vx_ot w = true)
    (hU : vx_Zq Bundle.tN "UNASSIGNED_STACK" Bundle.steD A s s.heap) (hN : vx_Zq Bundle.tN "SUPPRESSED_SENTINEL" Bundle.listD A s s.heap) (hS : va_S A s.heap H locs) (hsize : ls.size = c.maxLocals)
    (d0 : decode cc pc = .ok (.new ik, 3)) (d3 : decode cc (pc + 3) = .ok (.dup, 1)) (d4 : decode cc (pc + 4) = .ok (.invokespecial ic, 3)) (d7 : decode cc (pc + 7) = .ok (.athrow, 1))
    (hout : ∀ x ∈ c.exceptionTable.toList, covers x (pc + 7) = false)
    (hRframes : names.length + 3 < R.frames) (hRlocals : (rest.map fun v => v.category).sum + (13 * (names.length + 1) + 42) ≤ R.locals) (hRcells : cells + 1 ≤ R.cells) (hRslots : slots + 6 ≤ R.slots) (hlocks : meth.locks = false)
    (hx : ∀ t : State, s.vm.Alike t.vm → H.size ≤ t.heap.size → (∀ q : Nat, q < H.size → t.heap[q]? = H[q]?) → XC cls s t)
    (hf : ∀ z ∈ locs, free z.base) (hc : cells + 1 ≤ mc) (hs : slots + 6 ≤ ms) :
    W p l e R s m args below meth c H locs cells slots (vx_MQ below Qc XC args s mc ms free) (F0 m pc ls rest) := by
  intro T hT X
  have htr : e.platform.stackTraces = false := (show e.platform.stackTraces = l.stackTraces by rw [X.admits.platform]).trans hl
  have Y := vx_rebase X (R' := { frames := R.frames, locals := R.locals, cells := 1, slots := 6 }) (Nat.le_refl _) (Nat.le_refl _) hRcells hRslots
  obtain ⟨s', hA⟩ : ∃ z, z = (T.setVm s.vm).setFrames (.invoking m args :: below) := ⟨_, rfl⟩
  rw [← hA] at Y
  have hvm : s'.vm = s.vm := by rw [hA]; rfl
  have hhp : s'.heap = H := by rw [hA]; exact hT
  have hW0 : s.WarmedH s'.vm := by rw [hvm]; exact State.WarmedH.refl s
  have hat' : ∀ w ∈ vx_at0 own ic cls names, w.before args s' = true := fun w hw => vx_ot_at hW0 hvm.symm (hgood w (List.mem_cons_of_mem _ (List.mem_cons_of_mem _ hw))) (hat w hw)
  have hk' : (Cond.classLink own ik cls).before args s' = true := vx_ot_at hW0 hvm.symm (hgood _ List.mem_cons_self) hk
  have hini' : (Cond.initialized cls).before args s' = true := vx_ot_at hW0 hvm.symm (hgood _ (List.mem_cons_of_mem _ List.mem_cons_self)) hini
  have hU' : vx_Zq Bundle.tN "UNASSIGNED_STACK" Bundle.steD A s' s'.heap := by rw [hhp]; exact vx_Zq.moved hW0.alike (hU.kept hS.2.1)
  have hN' : vx_Zq Bundle.tN "SUPPRESSED_SENTINEL" Bundle.listD A s' s'.heap := by rw [hhp]; exact vx_Zq.moved hW0.alike (hN.kept hS.2.1)
  have h : ∀ w ∈ Bundle.ownAtoms0 own ic cls names, w.before args s' = true := vx_own hat' (vx_isRefq hU'.1) (vx_isRefq hN'.1) hU'.2.word hN'.2.word
  have hown' : s'.vm.findClass own = some m.cls := by rw [hvm]; exact hown
  have hins : (Cond.instantiable cls 6).before args s' = true := h _ (by simp [Bundle.ownAtoms0])
  obtain ⟨vm₁, cX, kX, hfX, hkX, -, -, X₁, st1⟩ := Y.newCold hexec (own := own) (C := cls) (index := ik) (n := 6) hown' hk' hins hini'
    (g := F0 m pc ls rest) rfl (by rw [hb]; exact d0) (Nat.le_refl _) (Nat.le_refl _)
  generalize hT1 : (T.setVm vm₁).pushCell { cls := cX, slots := kX.instanceTypes.map defaultValue, vm := .none } = T1 at X₁ st1
  have hcat : (Value.ref T.heap.size).category = 1 := rfl
  have hcellA : T1.heap[T.heap.size]? = some (freshCell cX kX) := by rw [← hT1]; exact State.heap_pushCell_size _ _
  have d3' : decode c.code (pc + 3) = .ok (.dup, 1) := by rw [hb]; exact d3
  obtain ⟨U, hsteps, hrun, hend, hW, hsame, ce, hce, hO⟩ := X₁.ctorThrow0 hexec htr (own := own) (cls := cls) (names := names) (ic := ic) hown' hcls hnames h (fun x hx => nomatch hx) hfX hkX hcellA (by rw [hhp, hT]; exact Nat.le_refl _)
    (g := { method := m, pc := pc + 4, locals := ls, stack := .ref T.heap.size :: .ref T.heap.size :: rest, locked := none }) rfl hsize rfl rfl (rest := rest) rfl
    (by rw [hb]; exact d4) (by rw [hb]; exact d7) hout hRframes (by simp only [List.map_cons, List.sum_cons, hcat]; omega) hlocks
  obtain ⟨f1, f2⟩ := vx_frame hsame
  rw [hhp] at f1 f2
  have hWs : s.WarmedH U.vm := State.WarmedH.trans hW0 hW
  have hcl : s.vm.findClass cls = some ce.cls := by
    have h9 := hO.cls
    rw [hvm] at h9
    exact h9
  have hall : s.sameButNew ({ U with vm := s.vm } : State) locs mc ms := by
    subst hA
    obtain ⟨e1, e2⟩ := hsame
    rw [State.setFrames_setFrames] at e1
    have h2 : (T.setVm s.vm).sameButNew ({ U with vm := s.vm } : State) [] (0 + 1) (0 + 6) := ⟨e1, e2⟩
    have h3 := X.same.trans h2
    rw [List.append_nil] at h3
    exact h3.mono hc hs
  refine ⟨U, ?_, .threw T.heap.size, hrun, hend, Or.inr ⟨T.heap.size, rfl, cls, ce, locs, hx U hWs.alike f1 (fun q hq => f2 q hq (fun z hz => nomatch hz)), hce, hO.vm, hcl, hWs, hall, hf⟩⟩
  refine st1 _ ?_
  show Steps p.tables e below (T1.setTop { method := m, pc := pc + 3, locals := ls, stack := .ref T.heap.size :: rest, locked := none }) _
  jvm_step X₁.here [X₁.here.top, hexec, d3', Value.category]
  exact hsteps
/-- 'throw new E("text")': new; dup; ldc; invokespecial; athrow -/
theorem vx_throwS {cc : ByteArray} {pc : Nat} (hexec : p.tables.exec = Jvm.exec) (hb : c.code = cc) (hl : l.stackTraces = false) {own cls text : String} {names : List String} {ik is ic mc ms sa : Nat} {A : Nat → Prop}
    (hown : s.vm.findClass own = some m.cls) (hcls : Bundle.fit cls = true) (hnames : ∀ n ∈ names, Bundle.fit n = true)
    (hk : (Cond.classLink own ik cls).before args s = true) (hini : (Cond.initialized cls).before args s = true) (hstr : vk_R own is text sa s) (hat : ∀ w ∈ vx_atS own ic cls names, w.before args s = true)
    (hgood : ∀ w ∈ Cond.classLink own ik cls :: Cond.initialized cls :: vx_atS own ic cls names, vx_ot w = true)
    (hU : vx_Zq Bundle.tN "UNASSIGNED_STACK" Bundle.steD A s s.heap) (hN : vx_Zq Bundle.tN "SUPPRESSED_SENTINEL" Bundle.listD A s s.heap) (hS : va_S A s.heap H locs) (hsize : ls.size = c.maxLocals)
    (d0 : decode cc pc = .ok (.new ik, 3)) (d3 : decode cc (pc + 3) = .ok (.dup, 1)) (d4 : decode cc (pc + 4) = .ok (.ldc is, 2)) (d6 : decode cc (pc + 6) = .ok (.invokespecial ic, 3)) (d9 : decode cc (pc + 9) = .ok (.athrow, 1))
    (hout : ∀ x ∈ c.exceptionTable.toList, covers x (pc + 9) = false)
    (hRframes : names.length + 3 < R.frames) (hRlocals : (rest.map fun v => v.category).sum + (13 * (names.length + 1) + 43) ≤ R.locals) (hRcells : cells + 1 ≤ R.cells) (hRslots : slots + 6 ≤ R.slots) (hlocks : meth.locks = false)
    (hx : ∀ t : State, s.vm.Alike t.vm → H.size ≤ t.heap.size → (∀ q : Nat, q < H.size → t.heap[q]? = H[q]?) → XC cls s t)
    (hf : ∀ z ∈ locs, free z.base) (hc : cells + 1 ≤ mc) (hs : slots + 6 ≤ ms) :
    W p l e R s m args below meth c H locs cells slots (vx_MQ below Qc XC args s mc ms free) (F0 m pc ls rest) := by
  intro T hT X
  have htr : e.platform.stackTraces = false := (show e.platform.stackTraces = l.stackTraces by rw [X.admits.platform]).trans hl
  have Y := vx_rebase X (R' := { frames := R.frames, locals := R.locals, cells := 1, slots := 6 }) (Nat.le_refl _) (Nat.le_refl _) hRcells hRslots
  obtain ⟨s', hA⟩ : ∃ z, z = (T.setVm s.vm).setFrames (.invoking m args :: below) := ⟨_, rfl⟩
  rw [← hA] at Y
  have hvm : s'.vm = s.vm := by rw [hA]; rfl
  have hhp : s'.heap = H := by rw [hA]; exact hT
  have hW0 : s.WarmedH s'.vm := by rw [hvm]; exact State.WarmedH.refl s
  have hat' : ∀ w ∈ vx_atS own ic cls names, w.before args s' = true := fun w hw => vx_ot_at hW0 hvm.symm (hgood w (List.mem_cons_of_mem _ (List.mem_cons_of_mem _ hw))) (hat w hw)
  have hk' : (Cond.classLink own ik cls).before args s' = true := vx_ot_at hW0 hvm.symm (hgood _ List.mem_cons_self) hk
  have hini' : (Cond.initialized cls).before args s' = true := vx_ot_at hW0 hvm.symm (hgood _ (List.mem_cons_of_mem _ List.mem_cons_self)) hini
  have hU' : vx_Zq Bundle.tN "UNASSIGNED_STACK" Bundle.steD A s' s'.heap := by rw [hhp]; exact vx_Zq.moved hW0.alike (hU.kept hS.2.1)
  have hN' : vx_Zq Bundle.tN "SUPPRESSED_SENTINEL" Bundle.listD A s' s'.heap := by rw [hhp]; exact vx_Zq.moved hW0.alike (hN.kept hS.2.1)
  have h : ∀ w ∈ Bundle.ownAtoms own ic cls names, w.before args s' = true := vx_own hat' (vx_isRefq hU'.1) (vx_isRefq hN'.1) hU'.2.word hN'.2.word
  have hown' : s'.vm.findClass own = some m.cls := by rw [hvm]; exact hown
  have hins : (Cond.instantiable cls 6).before args s' = true := h _ (by simp [Bundle.ownAtoms])
  obtain ⟨vm₁, cX, kX, hfX, hkX, -, -, X₁, st1⟩ := Y.newCold hexec (own := own) (C := cls) (index := ik) (n := 6) hown' hk' hins hini'
    (g := F0 m pc ls rest) rfl (by rw [hb]; exact d0) (Nat.le_refl _) (Nat.le_refl _)
  generalize hT1 : (T.setVm vm₁).pushCell { cls := cX, slots := kX.instanceTypes.map defaultValue, vm := .none } = T1 at X₁ st1
  have hcat : (Value.ref T.heap.size).category = 1 := rfl
  have hcellA : T1.heap[T.heap.size]? = some (freshCell cX kX) := by rw [← hT1]; exact State.heap_pushCell_size _ _
  have d3' : decode c.code (pc + 3) = .ok (.dup, 1) := by rw [hb]; exact d3
  have d4' : decode c.code (pc + 4) = .ok (.ldc is, 2) := by rw [hb]; exact d4
  have hstr' : vk_R own is text sa s' := vk_R.warm hW0 hstr
  obtain ⟨U, hsteps, hrun, hend, hW, hsame, ce, hce, hO⟩ := X₁.ctorThrowS hexec htr (own := own) (cls := cls) (names := names) (ic := ic) hown' hcls hnames h (fun x hx => nomatch hx) hfX hkX hcellA (by rw [hhp, hT]; exact Nat.le_refl _) (msg := .ref sa) rfl
    (g := { method := m, pc := pc + 6, locals := ls, stack := .ref sa :: .ref T.heap.size :: .ref T.heap.size :: rest, locked := none }) rfl hsize rfl rfl (rest := rest) rfl
    (by rw [hb]; exact d6) (by rw [hb]; exact d9) hout hRframes (by simp only [List.map_cons, List.sum_cons, hcat]; omega) hlocks
  obtain ⟨f1, f2⟩ := vx_frame hsame
  rw [hhp] at f1 f2
  have hWs : s.WarmedH U.vm := State.WarmedH.trans hW0 hW
  have hcl : s.vm.findClass cls = some ce.cls := by
    have h9 := hO.cls
    rw [hvm] at h9
    exact h9
  have hall : s.sameButNew ({ U with vm := s.vm } : State) locs mc ms := by
    subst hA
    obtain ⟨e1, e2⟩ := hsame
    rw [State.setFrames_setFrames] at e1
    have h2 : (T.setVm s.vm).sameButNew ({ U with vm := s.vm } : State) [] (0 + 1) (0 + 6) := ⟨e1, e2⟩
    have h3 := X.same.trans h2
    rw [List.append_nil] at h3
    exact h3.mono hc hs
  refine ⟨U, ?_, .threw T.heap.size, hrun, hend, Or.inr ⟨T.heap.size, rfl, cls, ce, locs, hx U hWs.alike f1 (fun q hq => f2 q hq (fun z hz => nomatch hz)), hce, hO.vm, hcl, hWs, hall, hf⟩⟩
  refine st1 _ ?_
  show Steps p.tables e below (T1.setTop { method := m, pc := pc + 3, locals := ls, stack := .ref T.heap.size :: rest, locked := none }) _
  jvm_step X₁.here [X₁.here.top, hexec, d3', Value.category]
  exact X₁.ldcString hexec (own := own) (text := text) (index := is) (a := sa) hown' hstr'.1 hstr'.2
    (g := { method := m, pc := pc + 4, locals := ls, stack := .ref T.heap.size :: .ref T.heap.size :: rest, locked := none }) rfl d4' _ hsteps
/-- 'throw new E("text")', the text by a wide index -/
theorem vx_throwSW {cc : ByteArray} {pc : Nat} (hexec : p.tables.exec = Jvm.exec) (hb : c.code = cc) (hl : l.stackTraces = false) {own cls text : String} {names : List String} {ik is ic mc ms sa : Nat} {A : Nat → Prop}
    (hown : s.vm.findClass own = some m.cls) (hcls : Bundle.fit cls = true) (hnames : ∀ n ∈ names, Bundle.fit n = true)
    (hk : (Cond.classLink own ik cls).before args s = true) (hini : (Cond.initialized cls).before args s = true) (hstr : vk_R own is text sa s) (hat : ∀ w ∈ vx_atS own ic cls names, w.before args s = true)
    (hgood : ∀ w ∈ Cond.classLink own ik cls :: Cond.initialized cls :: vx_atS own ic cls names, vx_ot w = true)
    (hU : vx_Zq Bundle.tN "UNASSIGNED_STACK" Bundle.steD A s s.heap) (hN : vx_Zq Bundle.tN "SUPPRESSED_SENTINEL" Bundle.listD A s s.heap) (hS : va_S A s.heap H locs) (hsize : ls.size = c.maxLocals)
    (d0 : decode cc pc = .ok (.new ik, 3)) (d3 : decode cc (pc + 3) = .ok (.dup, 1)) (d4 : decode cc (pc + 4) = .ok (.ldc_w is, 3)) (d7 : decode cc (pc + 7) = .ok (.invokespecial ic, 3)) (d10 : decode cc (pc + 10) = .ok (.athrow, 1))
    (hout : ∀ x ∈ c.exceptionTable.toList, covers x (pc + 10) = false)
    (hRframes : names.length + 3 < R.frames) (hRlocals : (rest.map fun v => v.category).sum + (13 * (names.length + 1) + 43) ≤ R.locals) (hRcells : cells + 1 ≤ R.cells) (hRslots : slots + 6 ≤ R.slots) (hlocks : meth.locks = false)
    (hx : ∀ t : State, s.vm.Alike t.vm → H.size ≤ t.heap.size → (∀ q : Nat, q < H.size → t.heap[q]? = H[q]?) → XC cls s t)
    (hf : ∀ z ∈ locs, free z.base) (hc : cells + 1 ≤ mc) (hs : slots + 6 ≤ ms) :
    W p l e R s m args below meth c H locs cells slots (vx_MQ below Qc XC args s mc ms free) (F0 m pc ls rest) := by
  intro T hT X
  have htr : e.platform.stackTraces = false := (show e.platform.stackTraces = l.stackTraces by rw [X.admits.platform]).trans hl
  have Y := vx_rebase X (R' := { frames := R.frames, locals := R.locals, cells := 1, slots := 6 }) (Nat.le_refl _) (Nat.le_refl _) hRcells hRslots
  obtain ⟨s', hA⟩ : ∃ z, z = (T.setVm s.vm).setFrames (.invoking m args :: below) := ⟨_, rfl⟩
  rw [← hA] at Y
  have hvm : s'.vm = s.vm := by rw [hA]; rfl
  have hhp : s'.heap = H := by rw [hA]; exact hT
  have hW0 : s.WarmedH s'.vm := by rw [hvm]; exact State.WarmedH.refl s
  have hat' : ∀ w ∈ vx_atS own ic cls names, w.before args s' = true := fun w hw => vx_ot_at hW0 hvm.symm (hgood w (List.mem_cons_of_mem _ (List.mem_cons_of_mem _ hw))) (hat w hw)
  have hk' : (Cond.classLink own ik cls).before args s' = true := vx_ot_at hW0 hvm.symm (hgood _ List.mem_cons_self) hk
  have hini' : (Cond.initialized cls).before args s' = true := vx_ot_at hW0 hvm.symm (hgood _ (List.mem_cons_of_mem _ List.mem_cons_self)) hini
  have hU' : vx_Zq Bundle.tN "UNASSIGNED_STACK" Bundle.steD A s' s'.heap := by rw [hhp]; exact vx_Zq.moved hW0.alike (hU.kept hS.2.1)
  have hN' : vx_Zq Bundle.tN "SUPPRESSED_SENTINEL" Bundle.listD A s' s'.heap := by rw [hhp]; exact vx_Zq.moved hW0.alike (hN.kept hS.2.1)
  have h : ∀ w ∈ Bundle.ownAtoms own ic cls names, w.before args s' = true := vx_own hat' (vx_isRefq hU'.1) (vx_isRefq hN'.1) hU'.2.word hN'.2.word
  have hown' : s'.vm.findClass own = some m.cls := by rw [hvm]; exact hown
  have hins : (Cond.instantiable cls 6).before args s' = true := h _ (by simp [Bundle.ownAtoms])
  obtain ⟨vm₁, cX, kX, hfX, hkX, -, -, X₁, st1⟩ := Y.newCold hexec (own := own) (C := cls) (index := ik) (n := 6) hown' hk' hins hini'
    (g := F0 m pc ls rest) rfl (by rw [hb]; exact d0) (Nat.le_refl _) (Nat.le_refl _)
  generalize hT1 : (T.setVm vm₁).pushCell { cls := cX, slots := kX.instanceTypes.map defaultValue, vm := .none } = T1 at X₁ st1
  have hcat : (Value.ref T.heap.size).category = 1 := rfl
  have hcellA : T1.heap[T.heap.size]? = some (freshCell cX kX) := by rw [← hT1]; exact State.heap_pushCell_size _ _
  have d3' : decode c.code (pc + 3) = .ok (.dup, 1) := by rw [hb]; exact d3
  have d4' : decode c.code (pc + 4) = .ok (.ldc_w is, 3) := by rw [hb]; exact d4
  have hstr' : vk_R own is text sa s' := vk_R.warm hW0 hstr
  obtain ⟨U, hsteps, hrun, hend, hW, hsame, ce, hce, hO⟩ := X₁.ctorThrowS hexec htr (own := own) (cls := cls) (names := names) (ic := ic) hown' hcls hnames h (fun x hx => nomatch hx) hfX hkX hcellA (by rw [hhp, hT]; exact Nat.le_refl _) (msg := .ref sa) rfl
    (g := { method := m, pc := pc + 7, locals := ls, stack := .ref sa :: .ref T.heap.size :: .ref T.heap.size :: rest, locked := none }) rfl hsize rfl rfl (rest := rest) rfl
    (by rw [hb]; exact d7) (by rw [hb]; exact d10) hout hRframes (by simp only [List.map_cons, List.sum_cons, hcat]; omega) hlocks
  obtain ⟨f1, f2⟩ := vx_frame hsame
  rw [hhp] at f1 f2
  have hWs : s.WarmedH U.vm := State.WarmedH.trans hW0 hW
  have hcl : s.vm.findClass cls = some ce.cls := by
    have h9 := hO.cls
    rw [hvm] at h9
    exact h9
  have hall : s.sameButNew ({ U with vm := s.vm } : State) locs mc ms := by
    subst hA
    obtain ⟨e1, e2⟩ := hsame
    rw [State.setFrames_setFrames] at e1
    have h2 : (T.setVm s.vm).sameButNew ({ U with vm := s.vm } : State) [] (0 + 1) (0 + 6) := ⟨e1, e2⟩
    have h3 := X.same.trans h2
    rw [List.append_nil] at h3
    exact h3.mono hc hs
  refine ⟨U, ?_, .threw T.heap.size, hrun, hend, Or.inr ⟨T.heap.size, rfl, cls, ce, locs, hx U hWs.alike f1 (fun q hq => f2 q hq (fun z hz => nomatch hz)), hce, hO.vm, hcl, hWs, hall, hf⟩⟩
  refine st1 _ ?_
  show Steps p.tables e below (T1.setTop { method := m, pc := pc + 3, locals := ls, stack := .ref T.heap.size :: rest, locked := none }) _
  jvm_step X₁.here [X₁.here.top, hexec, d3', Value.category]
  exact X₁.ldcStringW hexec (own := own) (text := text) (index := is) (a := sa) hown' hstr'.1 hstr'.2
    (g := { method := m, pc := pc + 4, locals := ls, stack := .ref T.heap.size :: .ref T.heap.size :: rest, locked := none }) rfl d4' _ hsteps
end Ends
section Bodies
variable {l : Launch}
theorem vx_ofW {y : MethodName} {ws ws' : List Cond} {rm : Room} {Pc : Array Value → State → Prop} {Qc : Array Value → State → Outcome → State → Prop} {XC : String → State → State → Prop} {mc ms : Nat} {free : Addr → Prop} {cc : ByteArray} {maxL : Nat} {ret : Option FieldType}
    (hy : plainName y.cls = true) (hw : ws = Cond.code y cc maxL ret :: ws')
    (body : ∀ p e s m args below meth c s₁, BodyLoose p l y (headSpec ws rm) cc maxL ret e s m args below meth c s₁ → c.maxLocals = maxL → (∀ x ∈ c.exceptionTable.toList, False) → Pc args s →
      W p l e (headSpec ws rm).room s m args below meth c s.heap [] 0 0 (vx_MQ below Qc XC args s mc ms free) (entryFrame m args maxL)) : vx_Met l y ws rm Pc Qc XC mc ms free := by
  refine MetFree.of_bodyS (code := cc) (maxLocals := maxL) (ret := ret) hy ?_ ?_
  · intro args s m h hn
    obtain ⟨meth, c, h1, h2, h3, h4, h5, h6, -, -⟩ := Cond.code_spec hn (atoms_spec (ws := ws) h _ (by rw [hw]; exact List.mem_cons_self))
    exact ⟨meth, c, h1, h2, h3, h4, h5, h6⟩
  · intro p e s m args below meth c s₁ B hml hP _
    have hh0 : s₁.heap = s.heap := by rw [B.state]; rfl
    have ht : ∀ x ∈ c.exceptionTable.toList, False := by
      obtain ⟨meth9, c9, h1, h2, -, -, -, -, h7, -⟩ := Cond.code_spec B.named (atoms_spec (ws := ws) B.pre _ (by rw [hw]; exact List.mem_cons_self))
      cases Option.some.inj (h1.symm.trans B.method)
      cases Option.some.inj (h2.symm.trans (Stand.of_body B).code)
      intro x hx
      rw [Array.isEmpty_iff.mp h7] at hx
      cases hx
    obtain ⟨t, a1, o, b1, b2, b3⟩ := body p e s m args below meth c s₁ B hml ht hP s₁ hh0 (Stand.of_body B)
    exact ⟨t, o, a1, b1, b2, b3⟩
/-- the table of a body with handlers -/
theorem vx_table {p : Program} {x y : MethodName} {S : Spec} {cc bytes : ByteArray} {maxL maxL' : Nat} {ret ret' : Option FieldType} {e : Env} {s s₁ : State} {m : MethodId} {args : Array Value} {below : List Frame} {meth : Method} {c : Code} {hh : List (Nat × Nat × Nat × Nat)}
    (B : BodyLoose p l y S cc maxL ret e s m args below meth c s₁) (h : (Cond.codeWith y bytes maxL' ret' hh).before args s = true) : c.exceptionTable.toList = tableOf hh := by
  obtain ⟨m9, meth9, c9, hn9, h1, h2, -, -, h6, -⟩ := Cond.codeWith_spec h
  cases Option.some.inj (hn9.symm.trans B.named)
  cases Option.some.inj (h1.symm.trans B.method)
  cases Option.some.inj (h2.symm.trans (Stand.of_body B).code)
  rw [← h6, table_eq]
end Bodies
end VXA
/-! ===== END ===== -/
/-! ===== BEGIN a static call of a method with an exception table ===== -/
section VXS
variable {p : Program} {l : Launch} {e : Env} {R : Room} {s : State} {m : MethodId} {args : Array Value} {below : List Frame} {meth : Method} {c : Code} {T : State} {H : Heap} {locs : List Loc} {cells slots : Nat}
abbrev vx_CSW (R : Room) (s : State) (args : Array Value) (own : String) (index : Nat) (y : MethodName) (bytes : ByteArray) (maxL : Nat) (ret : Option FieldType) (hh : List (Nat × Nat × Nat × Nat)) (ws : List Cond) (rm : Room) (mc ms n : Nat) : Prop :=
  (rm.cells = mc ∧ rm.slots = ms ∧ rm.frames + 1 ≤ R.frames ∧ 8 + (maxL + 11) + rm.locals ≤ R.locals ∧ (∀ w ∈ ws, ∀ (a' : Array Value) (U : State), s.WarmedH U.vm → w.before a' U = true) ∧ Cond.codeWith y bytes maxL ret hh ∈ ws) ∧
  (Cond.codeWith y bytes maxL ret hh).before args s = true ∧ (Cond.initialized y.cls).before args s = true ∧ (y.cls ≠ "java/lang/invoke/MethodHandle" ∧ y.cls ≠ "java/lang/invoke/VarHandle") ∧
  (∀ sig, parseMethodDescriptor y.desc = some sig → n = sig.parameters.length) ∧ (Cond.methodLink own index y).before args s = true ∧ (Cond.static y).before args s = true
theorem vx_cwSW {own : String} {index maxL mc ms : Nat} {y : MethodName} {bytes : ByteArray} {ret : Option FieldType} {hh : List (Nat × Nat × Nat × Nat)} {Ts ws ws' : List Cond} {rm : Room} (n : Nat) (ht : ∀ w ∈ Ts, w.before args s = true) (hT : GoodIn Ts (va_wsS own index y ws)) (hw : ws = Cond.codeWith y bytes maxL ret hh :: ws') (hrc : rm.cells = mc) (hrs : rm.slots = ms)
    (hd : y.cls ≠ "java/lang/invoke/MethodHandle" ∧ y.cls ≠ "java/lang/invoke/VarHandle" ∧ (parseMethodDescriptor y.desc).map (fun d => d.parameters.length) = some n) (hR : rm.frames + 1 ≤ R.frames ∧ 8 + (maxL + 11) + rm.locals ≤ R.locals) :
    vx_CSW R s args own index y bytes maxL ret hh ws rm mc ms n := by
  have ok : ∀ w ∈ va_wsS own index y ws, w.before args s = true := fun w h => ht w (hT w h).1
  have hG : GoodIn Ts ws := fun w h => hT w (by unfold va_wsS; exact List.mem_append_right _ h)
  have hc : Cond.codeWith y bytes maxL ret hh ∈ ws := by rw [hw]; exact List.mem_cons_self
  refine ⟨⟨hrc, hrs, hR.1, hR.2, pay_in ht hG, hc⟩, ht _ (hG _ hc).1, ok _ (by simp [va_wsS]), ⟨hd.1, hd.2.1⟩, fun sig h => ?_, ok _ (by simp [va_wsS]), ok _ (by simp [va_wsS])⟩
  have h2 := hd.2.2
  rw [h] at h2
  exact (Option.some.inj h2).symm
theorem vx_callSW (X : Stand p l e R s m args below meth c T locs cells slots) (hexec : p.tables.exec = Jvm.exec) {own : String} {index : Nat} {y : MethodName} {bytes : ByteArray} {maxL : Nat} {ret : Option FieldType} {hh : List (Nat × Nat × Nat × Nat)}
    (hown : s.vm.findClass own = some m.cls) (hlink : (Cond.methodLink own index y).before args s = true) (hstat : (Cond.static y).before args s = true) (hinit : (Cond.initialized y.cls).before args s = true)
    (hcode : (Cond.codeWith y bytes maxL ret hh).before args s = true) (hy : y.cls ≠ "java/lang/invoke/MethodHandle" ∧ y.cls ≠ "java/lang/invoke/VarHandle")
    {W9 : Nat} {Pre : Pt → Array Value → Prop} {Post : Pt → Array Value → Option Value → Pt → Prop} (hK : Back l R p e below s args y 3 W9 Pre Post)
    {g : JFrame} (hg : g.method = m) (hsize : g.locals.size = c.maxLocals) {argsL rest : List Value} (hlen : ∀ sig, parseMethodDescriptor y.desc = some sig → argsL.length = sig.parameters.length)
    (hstack : g.stack = argsL.reverse ++ rest) (hW : 2 * g.monitorRoom + (rest.map fun v => v.category).sum ≤ W9) (hdg : decode c.code g.pc = .ok (.invokestatic index, 3))
    (hpre : ∀ vm₁, s.WarmedH vm₁ → Pre ⟨T.setVm vm₁, locs, cells, slots⟩ argsL.toArray) :
    ∃ (v : Option Value) (vm₁ : Vm) (B : Pt), s.WarmedH vm₁ ∧ Stand p l e R s m args below meth c B.U B.locs B.cells B.slots ∧ Post ⟨T.setVm vm₁, locs, cells, slots⟩ argsL.toArray v B ∧
      ∀ target, Steps p.tables e below (B.U.setTop { g with pc := g.pc + 3, stack := v.toList ++ rest }) target → Steps p.tables e below (T.setTop g) target := by
  obtain ⟨mk, methM, cM, hnamed, hmethM, -, -, -, -, -, -, hsigM⟩ := Cond.codeWith_spec hcode
  have hstatic : methM.isStatic = true := Cond.static_spec hnamed hmethM hstat
  obtain ⟨kP, hkP, -⟩ := className_of_methodNamed hnamed
  have hinitP : kP.init = .initialized := Cond.initialized_spec (findClass_of_methodNamed hnamed) hkP hinit
  obtain ⟨vm₁, X₁, hstep₁⟩ := X.invokestatic hexec hown hlink hnamed hmethM hstatic hkP hinitP hy (g := g) hg (argsL := argsL) (rest := rest) (hlen _ hsigM) hstack hdg
  obtain ⟨v, B, X', hpost, hsteps⟩ := hK m meth c ⟨T.setVm vm₁, locs, cells, slots⟩ { g with stack := rest } (.invokestatic index) mk argsL.toArray X₁ hg hsize hdg hW (X₁.named hnamed) (hpre vm₁ X₁.warmed)
  exact ⟨v, vm₁, B, X₁.warmed, X', hpost, fun target h => hstep₁ _ fun acts => by rw [doInvoke_state]; exact hsteps.trans h⟩
theorem vx_runSW {y : MethodName} {bytes cc : ByteArray} {maxL nL mc ms n index : Nat} {ret : Option FieldType} {hh : List (Nat × Nat × Nat × Nat)} {ws : List Cond} {rm : Room} {Pc : Array Value → State → Prop} {Qc : Array Value → State → Outcome → State → Prop} {free : Addr → Prop} {Ts : List Cond} {own : String} {As rest : List Value} {g : JFrame}
    (S : CallFix p m c cc nL s args Ts own) (hM : Met l y ws rm Pc Qc mc ms free) (cw : vx_CSW R s args own index y bytes maxL ret hh ws rm mc ms n) (hp : PreS s H Pc As)
    (hg : g.method = m) (hn : As.length = n) (hsize : g.locals.size = nL) (hstack : g.stack = As.reverse ++ rest) (hW : 2 * g.monitorRoom + (rest.map fun v => v.category).sum ≤ 8) (hdg : decode cc g.pc = .ok (.invokestatic index, 3)) (hf : cells + mc ≤ R.cells ∧ slots + ms ≤ R.slots) :
    va_Run p l e R s m args below meth c H locs cells slots mc ms g rest (Qc As.toArray) (free) := by
  obtain ⟨⟨hrc, hrs, hfr, hlo, hws, hcw⟩, hcode, hini, hy, hlen, hl, hstt⟩ := cw
  have hK : Back l R p e below s args y 3 8 (PreOf R mc ms Pc) (PostOf Qc mc ms free) := va_backW (hh := hh) (bytes := bytes) (maxL := maxL) (ret := ret) hM hp.1 hrc hrs hfr hlo hws hcw (fun a' U hW => word_at hW (Or.inl (by first | rfl | simp [Cond.onTables, Cond.keeps, Cond.steady])) hini)
  obtain ⟨hx, hb, hml, ho, -⟩ := S
  intro T hT X
  obtain ⟨v, vm₁, ⟨U', l2, c2, s2⟩, hW₁, X', ⟨g', mk, t, L, e1, e2, hq, h1, hL, h2, h3⟩, st⟩ := vx_callSW X hx (hh := hh) (bytes := bytes) (maxL := maxL) (ret := ret) ho hl hstt hini hcode hy hK hg (hsize.trans hml.symm) (argsL := As) (rest := rest) (fun sig h => hn.trans (hlen sig h)) hstack hW (by rw [hb]; exact hdg)
    (fun vm₁ hW₁ => ⟨hf.1, hf.2, hp.2 (T.setVm vm₁) hT hW₁⟩)
  dsimp only [Pt.U, Pt.locs, Pt.cells, Pt.slots] at X' e1 e2 h1 h2 h3 st
  subst h1; subst h2; subst h3
  exact ⟨v, (T.setVm vm₁).calling g' mk As.toArray, t, U', L, hT, X', hL, e1, e2, hq, st⟩
/-- not caught here, past rows that name other classes: it goes on to the caller -/
theorem vx_outP {p : Program} {l : Launch} {e : Env} {R : Room} {s : State} {m : MethodId} {args : Array Value} {below : List Frame} {meth : Method} {c : Code} {H : Heap} {locs : List Loc} {cells slots : Nat} {free : Addr → Prop} {ls : Array Slot} {rest : List Value} {Qc : Array Value → State → Outcome → State → Prop} {XC : String → State → State → Prop}
    {pc : Nat} {own E : String} {ce : Cell} {q : Addr} {mc ms : Nat} (hown : s.vm.findClass own = some m.cls) (hlocks : meth.locks = false)
    (hpass : ∀ z ∈ c.exceptionTable.toList, covers z pc = false ∨ (z.catchType ≠ 0 ∧ ∃ nm : String, (Cond.classLink own z.catchType nm).before args s = true ∧ va_Nc E nm s)) (hcell : H[q]? = some ce) (hv : ce.vm = .none) (hcl : s.vm.findClass E = some ce.cls)
    (hx : ∀ t : State, t.heap = H → s.vm.Alike t.vm → XC E s t) (hf : ∀ z ∈ locs, free z.base) (hc : cells ≤ mc) (hs : slots ≤ ms) :
    vx_W p l e R s m args below meth c H locs cells slots (vx_MQ below Qc XC args s mc ms free) (F0 m pc ls rest) q := by
  intro T hT X
  have hpl : e.platform.magicAccessors = ({} : Platform).magicAccessors := by rw [X.admits.platform]
  obtain ⟨vm', hW', X', st⟩ := X.outThrough hlocks q (g := F0 m pc ls rest) rfl rfl rfl (cell := ce) (by rw [hT]; exact hcell) (by rw [hv]; rfl)
    (by obtain ⟨k9, h9, -⟩ := Vm.findClass_spec hcl; exact ⟨k9, h9⟩) (fun z hz => by
      rcases hpass z hz with h | ⟨hz0, nm, hl1, hn1⟩
      · exact Or.inl h
      · obtain ⟨c6, hc6, hcl6⟩ := Cond.classLink_spec hown hl1 e.platform hpl
        obtain ⟨a8, b8, h1, h2, h3⟩ := hn1
        cases Option.some.inj (h1.symm.trans hcl)
        cases Option.some.inj (h2.symm.trans hc6)
        exact Or.inr ⟨hz0, _, hcl6, h3⟩)
  obtain ⟨g₀, hfr⟩ := X'.frames_eq
  have hcell9 : ((T.setVm vm').setFrames (.throwing q :: below)).heap[q]? = some ce := by
    show T.heap[q]? = some ce
    rw [hT]; exact hcell
  have hend : Ended ((T.setVm vm').setFrames (.throwing q :: below)) below (.threw q) := State.frames_setFrames _ (State.cur_lt_of_frames hfr)
  refine ⟨(T.setVm vm').setFrames (.throwing q :: below), ?_, .threw q, X'.here.running, hend, Or.inr ⟨q, rfl, E, ce, locs, hx _ hT (X'.ends _).1.alike, hcell9, hv, hcl, (X'.ends _).1, (X'.ends _).2.mono hc hs, hf⟩⟩
  rw [X.pushThrowing_eq]
  exact st
/-- a thing of a world lies in the heap -/
theorem vx_lt {D : va_G} {cl : List vw_C} {ws : va_W} {H1 : Heap} (h : va_P D cl ws H1) {k : Nat} {q : Nat × va_E} (hk : ws[k]? = some q) : q.1 < H1.size := (h k q hk).lt
end VXS
/-! ===== END ===== -/
/-! ===== BEGIN methods with a table of their own: called by a name, returning or throwing ===== -/
section VXH
/-! vx_backW, vx_callVX, vx_callSX, vx_callVW, vx_runVW, vx_runVX, vx_runSX, vx_ofWH follow the same proofs as their sisters above (Free/Laws.lean, Shelf42/LK1.lean); vx_outP calls Shelf42/NT130.lean (outThrough). -/
section
variable {l : Launch} {R : Room} {p : Program} {e : Env} {below : List Frame} {s : State} {sargs : Array Value} {y : MethodName} {len W9 : Nat}
theorem vx_backW {ws : List Cond} {rm : Room} {Pc : Array Value → State → Prop} {Qc : Array Value → State → Outcome → State → Prop} {XC : String → State → State → Prop} {mc ms : Nat} {free : Addr → Prop} {bytes : ByteArray} {maxL : Nat} {ret : Option FieldType} {hh : List (Nat × Nat × Nat × Nat)}
    (hM : vx_Met l y ws rm Pc Qc XC mc ms free) (hblind : FrameBlind Pc) (hrc : rm.cells = mc) (hrs : rm.slots = ms)
    (hframes : rm.frames + 1 ≤ R.frames) (hlocals : W9 + (maxL + 11) + rm.locals ≤ R.locals)
    (hws : ∀ w ∈ ws, ∀ a' U, s.WarmedH U.vm → w.before a' U = true) (hcode : Cond.codeWith y bytes maxL ret hh ∈ ws) (hinit : ∀ a' U, s.WarmedH U.vm → (Cond.initialized y.cls).before a' U = true) :
    vx_Back l R p e below s sargs y len W9 (PreOf R mc ms Pc) (PostOf Qc mc ms free) (vx_Post XC mc ms free) := by
  intro m meth c A g ig mk a X hg hsize hdg hW hn hp
  have h1 : (headSpec ws rm).pre.before a A.U = true := atoms_intro fun w hw => hws w hw _ _ X.warmed
  have h2 : (Cond.codeWith y bytes maxL ret hh).before a A.U = true := hws _ hcode _ _ X.warmed
  have h3 : (Cond.initialized y.cls).before a A.U = true := hinit _ _ X.warmed
  have h4 : A.cells + (headSpec ws rm).room.cells ≤ R.cells := by rw [show (headSpec ws rm).room.cells = mc from hrc]; exact hp.1
  have h5 : A.slots + (headSpec ws rm).room.slots ≤ R.slots := by rw [show (headSpec ws rm).room.slots = ms from hrs]; exact hp.2.1
  have hPc : Pc a (A.U.calling g mk a) := hblind _ _ _ _ hp.2.2
  obtain ⟨U, Ls, c0, s0⟩ := A
  dsimp only [Pt.U, Pt.locs, Pt.cells, Pt.slots] at h1 h2 h3 h4 h5 X hn hPc ⊢
  obtain ⟨m9, methY, cY, hn9, hmY, hcY, -, hlY, -⟩ := Cond.codeWith_spec h2
  cases Option.some.inj (hn9.symm.trans hn)
  obtain ⟨kY, hkY, -⟩ := className_of_methodNamed hn
  have hinitY : kY.init = .initialized := Cond.initialized_spec (findClass_of_methodNamed hn) hkY h3
  have h : At U g.method c below := by rw [hg]; exact X.here
  have hlocals9 : W9 + (maxL + 11) + (headSpec ws rm).room.locals ≤ R.locals := hlocals
  have happ : (headSpec ws rm).appliesLoose y e.platform (U.calling g mk a) = true :=
    Spec.appliesLoose_calling (g := g) h hdg hn hkY hinitY
      (X.room_calling (g := g) (R' := (headSpec ws rm).room) hsize hmY hcY hframes (by rw [hlY]; omega) h4 h5) h1
  obtain ⟨mid, hmid⟩ := h.above
  have hfr : (U.setTop g).frames = (.java g :: mid) ++ below := by rw [State.frames_setTop' g h.top, hmid]; rfl
  obtain ⟨o, s₂, hsteps, -, hend, hq⟩ := Steps.callFree hM p X.admits X.cas X.clock (acts := []) hfr happ hPc trivial
  have hq' : vx_Q Qc XC mc ms free a (U.calling g mk a) o s₂ := hq
  rw [State.frames_setTop' g h.top] at hend
  obtain ⟨g₀, hg0⟩ := Option.isSome_iff_exists.mp h.top
  obtain ⟨r, hr⟩ := State.topJava?_eq_some.mp hg0
  have hr' : (({ U with heap := s₂.heap, slotsUsed := s₂.slotsUsed } : State).setVm s₂.vm).frames = .java g₀ :: r := hr
  rcases hq' with ⟨hqc, L, hfe, hL⟩ | ⟨q, rfl, E, ce, L, hx, hce, hcv, hcl, hW₂, hsm, hL⟩
  · obtain ⟨⟨v, rfl⟩, hW₂, e2, q2, q3, q4, q5, q6⟩ := id hfe
    have e3 : s₂ = ({ (U.calling g mk a).setFrames s₂.frames with heap := s₂.heap, slotsUsed := s₂.slotsUsed } : State).setVm s₂.vm := by
      have : s₂ = ({ s₂ with vm := (U.calling g mk a).vm } : State).setVm s₂.vm := rfl
      rw [e2] at this
      exact this
    obtain ⟨c₂, i₂, len₂, hc₂, hd₂, hf₂⟩ := hend
    have hW' : U.WarmedH s₂.vm := hW₂
    have hcc : c₂ = c := by
      have h1 : s₂.code? g.method = U.code? g.method := by
        rw [State.code?_eq, State.code?_eq, hW'.alike.method?]
      exact Option.some.inj (hc₂.symm.trans (h1.trans h.code))
    subst hcc
    have hlen : len₂ = len := by rw [hdg] at hd₂; cases hd₂; rfl
    subst hlen
    have hs₂ : s₂ = (({ U with heap := s₂.heap, slotsUsed := s₂.slotsUsed } : State).setVm s₂.vm).setTop { g with pc := g.pc + len₂, stack := v.toList ++ g.stack } := by
      refine e3.trans ?_
      rw [hf₂, State.calling_eq h.top, State.setFrames_setFrames, State.setTop_of_frames _ hr', hr]
      rfl
    have hsame : U.sameButNew ({ U with heap := s₂.heap, slotsUsed := s₂.slotsUsed } : State) L mc ms := by
      refine ⟨?_, q2, q3, q4, q5, q6⟩
      obtain ⟨t, ht, -⟩ := State.frames_cons hr
      show ({ U with heap := s₂.heap, slotsUsed := s₂.slotsUsed } : State) = { U.setFrames U.frames with heap := s₂.heap, slotsUsed := s₂.slotsUsed }
      rw [State.setFrames_self ht]
    subst hg
    refine Or.inl ⟨v, ⟨(({ U with heap := s₂.heap, slotsUsed := s₂.slotsUsed } : State).setVm s₂.vm), Ls ++ L, c0 + mc, s0 + ms⟩,
      ⟨X.admits, X.cas, X.clock, X.frames, X.room, X.hears, X.method, X.code, (X.here.setHeapUsed s₂.heap s₂.slotsUsed).setVm hW'.alike, X.tail, State.WarmedH.trans X.warmed hW', X.limits, X.bytes, X.same.trans (hsame.setVm s.vm)⟩,
      ⟨g, mk, s₂, L, rfl, rfl, hqc, rfl, hL, rfl, rfl⟩, ?_⟩
    show Steps p.tables e below _ ((({ U with heap := s₂.heap, slotsUsed := s₂.slotsUsed } : State).setVm s₂.vm).setTop { g with pc := g.pc + len₂, stack := v.toList ++ g.stack })
    rw [← hs₂]
    exact hsteps
  · obtain ⟨e2, q2, q3, q4, q5, q6⟩ := id hsm
    have e3 : s₂ = ({ (U.calling g mk a).setFrames s₂.frames with heap := s₂.heap, slotsUsed := s₂.slotsUsed } : State).setVm s₂.vm := by
      have : s₂ = ({ s₂ with vm := (U.calling g mk a).vm } : State).setVm s₂.vm := rfl
      rw [e2] at this
      exact this
    have hf₂ : s₂.frames = .throwing q :: .java g :: U.frames.tail := hend
    have hW' : U.WarmedH s₂.vm := hW₂
    have hs₂ : s₂ = ((({ U with heap := s₂.heap, slotsUsed := s₂.slotsUsed } : State).setVm s₂.vm).setTop g).pushFrame (.throwing q) := by
      refine e3.trans ?_
      rw [hf₂, State.calling_eq h.top, State.setFrames_setFrames, State.pushFrame, State.frames_setTop _ hr', State.setTop_of_frames _ hr', State.setFrames_setFrames, hr]
      rfl
    have hsame : U.sameButNew ({ U with heap := s₂.heap, slotsUsed := s₂.slotsUsed } : State) L mc ms := by
      refine ⟨?_, q2, q3, q4, q5, q6⟩
      obtain ⟨t, ht, -⟩ := State.frames_cons hr
      show ({ U with heap := s₂.heap, slotsUsed := s₂.slotsUsed } : State) = { U.setFrames U.frames with heap := s₂.heap, slotsUsed := s₂.slotsUsed }
      rw [State.setFrames_self ht]
    subst hg
    refine Or.inr ⟨q, ⟨(({ U with heap := s₂.heap, slotsUsed := s₂.slotsUsed } : State).setVm s₂.vm), Ls ++ L, c0 + mc, s0 + ms⟩,
      ⟨X.admits, X.cas, X.clock, X.frames, X.room, X.hears, X.method, X.code, (X.here.setHeapUsed s₂.heap s₂.slotsUsed).setVm hW'.alike, X.tail, State.WarmedH.trans X.warmed hW', X.limits, X.bytes, X.same.trans (hsame.setVm s.vm)⟩,
      ⟨g, mk, s₂, L, E, ce, rfl, rfl, hx, hce, hcv, hcl, rfl, hL, rfl, rfl⟩, ?_⟩
    show Steps p.tables e below _ (((({ U with heap := s₂.heap, slotsUsed := s₂.slotsUsed } : State).setVm s₂.vm).setTop g).pushFrame (.throwing q))
    rw [← hs₂]
    exact hsteps
end
variable {p : Program} {l : Launch} {e : Env} {R : Room} {s : State} {m : MethodId} {args : Array Value} {below : List Frame} {meth : Method} {c : Code} {T : State} {H : Heap} {locs : List Loc} {cells slots : Nat}
theorem vx_callVX (X : Stand p l e R s m args below meth c T locs cells slots) (hexec : p.tables.exec = Jvm.exec) {own C : String} {index : Nat} {y : MethodName} {bytes : ByteArray} {maxL : Nat} {ret : Option FieldType} {hh : List (Nat × Nat × Nat × Nat)}
    (hown : s.vm.findClass own = some m.cls) (hlink : (Cond.methodLink own index y).before args s = true) (hinst : (Cond.instanceMethod y).before args s = true) (hsel : (Cond.selects C y y).before args s = true)
    (hcode : (Cond.codeWith y bytes maxL ret hh).before args s = true) (hy : y.cls ≠ "java/lang/invoke/MethodHandle" ∧ y.cls ≠ "java/lang/invoke/VarHandle")
    {W9 : Nat} {Pre : Pt → Array Value → Prop} {Post : Pt → Array Value → Option Value → Pt → Prop} {PostX : Pt → Array Value → Addr → Pt → Prop} (hK : vx_Back l R p e below s args y 3 W9 Pre Post PostX)
    {b : Addr} {cellB : Cell} (hcell : T.heap[b]? = some cellB) (hobj : cellB.vm.isStatics = false) (hcls : s.vm.findClass C = some cellB.cls)
    {g : JFrame} (hg : g.method = m) (hsize : g.locals.size = c.maxLocals) {argsL rest : List Value} (hlen : ∀ sig, parseMethodDescriptor y.desc = some sig → argsL.length = sig.parameters.length)
    (hstack : g.stack = argsL.reverse ++ .ref b :: rest) (hW : 2 * g.monitorRoom + (rest.map fun v => v.category).sum ≤ W9) (hdg : decode c.code g.pc = .ok (.invokevirtual index, 3))
    (hpre : ∀ vm₁, s.WarmedH vm₁ → Pre ⟨T.setVm vm₁, locs, cells, slots⟩ (Value.ref b :: argsL).toArray) :
    (∃ (v : Option Value) (vm₁ : Vm) (B : Pt), s.WarmedH vm₁ ∧ Stand p l e R s m args below meth c B.U B.locs B.cells B.slots ∧ Post ⟨T.setVm vm₁, locs, cells, slots⟩ (Value.ref b :: argsL).toArray v B ∧
      ∀ target, Steps p.tables e below (B.U.setTop { g with pc := g.pc + 3, stack := v.toList ++ rest }) target → Steps p.tables e below (T.setTop g) target) ∨
    (∃ (q : Addr) (vm₁ : Vm) (B : Pt), s.WarmedH vm₁ ∧ Stand p l e R s m args below meth c B.U B.locs B.cells B.slots ∧ PostX ⟨T.setVm vm₁, locs, cells, slots⟩ (Value.ref b :: argsL).toArray q B ∧
      Steps p.tables e below (T.setTop g) ((B.U.setTop { g with stack := rest }).pushFrame (.throwing q))) := by
  obtain ⟨mk, methM, hnamed, hmethM, hstM, habM⟩ := Cond.instanceMethod_spec hinst
  obtain ⟨m8, methM', cM, hn8, hmethM', -, -, -, -, -, -, hsigM⟩ := Cond.codeWith_spec hcode
  cases Option.some.inj (hn8.symm.trans hnamed)
  cases hmethM.symm.trans hmethM'
  obtain ⟨c2, r2, m2, q1, q2, q3, q4, kP, hkP, hkPi⟩ := Cond.selects_spec hsel
  cases hcls.symm.trans q1
  cases (State.methodFound?_of_named hnamed hy).symm.trans q2
  cases hnamed.symm.trans q3
  have hselP : selectMethod e.platform s.vm cellB.cls mk = .method mk := by rw [Launch.admits_selectMethod X.admits]; exact q4
  obtain ⟨vm₁, X₁, hstep₁⟩ := X.invokevirtual hexec hown hlink hnamed hmethM hstM hkP hkPi hy (a := b) (cell := cellB) hcell
    (fun z h => by rw [h] at hobj; cases hobj) hselP hmethM habM hkP hkPi (g := g) hg (argsL := argsL) (rest := rest) (hlen _ hsigM) hstack hdg
  rcases hK m meth c ⟨T.setVm vm₁, locs, cells, slots⟩ { g with stack := rest } (.invokevirtual index) mk (Value.ref b :: argsL).toArray X₁ hg hsize hdg hW (X₁.named hnamed) (hpre vm₁ X₁.warmed) with ⟨v, B, X', hpost, hsteps⟩ | ⟨q, B, X', hpost, hsteps⟩
  · exact Or.inl ⟨v, vm₁, B, X₁.warmed, X', hpost, fun target h => hstep₁ _ fun acts => by rw [doInvoke_state]; exact hsteps.trans h⟩
  · exact Or.inr ⟨q, vm₁, B, X₁.warmed, X', hpost, hstep₁ _ fun acts => by rw [doInvoke_state]; exact hsteps⟩
theorem vx_callSX (X : Stand p l e R s m args below meth c T locs cells slots) (hexec : p.tables.exec = Jvm.exec) {own : String} {index : Nat} {y : MethodName} {bytes : ByteArray} {maxL : Nat} {ret : Option FieldType} {hh : List (Nat × Nat × Nat × Nat)}
    (hown : s.vm.findClass own = some m.cls) (hlink : (Cond.methodLink own index y).before args s = true) (hstat : (Cond.static y).before args s = true) (hinit : (Cond.initialized y.cls).before args s = true)
    (hcode : (Cond.codeWith y bytes maxL ret hh).before args s = true) (hy : y.cls ≠ "java/lang/invoke/MethodHandle" ∧ y.cls ≠ "java/lang/invoke/VarHandle")
    {W9 : Nat} {Pre : Pt → Array Value → Prop} {Post : Pt → Array Value → Option Value → Pt → Prop} {PostX : Pt → Array Value → Addr → Pt → Prop} (hK : vx_Back l R p e below s args y 3 W9 Pre Post PostX)
    {g : JFrame} (hg : g.method = m) (hsize : g.locals.size = c.maxLocals) {argsL rest : List Value} (hlen : ∀ sig, parseMethodDescriptor y.desc = some sig → argsL.length = sig.parameters.length)
    (hstack : g.stack = argsL.reverse ++ rest) (hW : 2 * g.monitorRoom + (rest.map fun v => v.category).sum ≤ W9) (hdg : decode c.code g.pc = .ok (.invokestatic index, 3))
    (hpre : ∀ vm₁, s.WarmedH vm₁ → Pre ⟨T.setVm vm₁, locs, cells, slots⟩ argsL.toArray) :
    (∃ (v : Option Value) (vm₁ : Vm) (B : Pt), s.WarmedH vm₁ ∧ Stand p l e R s m args below meth c B.U B.locs B.cells B.slots ∧ Post ⟨T.setVm vm₁, locs, cells, slots⟩ argsL.toArray v B ∧
      ∀ target, Steps p.tables e below (B.U.setTop { g with pc := g.pc + 3, stack := v.toList ++ rest }) target → Steps p.tables e below (T.setTop g) target) ∨
    (∃ (q : Addr) (vm₁ : Vm) (B : Pt), s.WarmedH vm₁ ∧ Stand p l e R s m args below meth c B.U B.locs B.cells B.slots ∧ PostX ⟨T.setVm vm₁, locs, cells, slots⟩ argsL.toArray q B ∧
      Steps p.tables e below (T.setTop g) ((B.U.setTop { g with stack := rest }).pushFrame (.throwing q))) := by
  obtain ⟨mk, methM, cM, hnamed, hmethM, -, -, -, -, -, -, hsigM⟩ := Cond.codeWith_spec hcode
  have hstatic : methM.isStatic = true := Cond.static_spec hnamed hmethM hstat
  obtain ⟨kP, hkP, -⟩ := className_of_methodNamed hnamed
  have hinitP : kP.init = .initialized := Cond.initialized_spec (findClass_of_methodNamed hnamed) hkP hinit
  obtain ⟨vm₁, X₁, hstep₁⟩ := X.invokestatic hexec hown hlink hnamed hmethM hstatic hkP hinitP hy (g := g) hg (argsL := argsL) (rest := rest) (hlen _ hsigM) hstack hdg
  rcases hK m meth c ⟨T.setVm vm₁, locs, cells, slots⟩ { g with stack := rest } (.invokestatic index) mk argsL.toArray X₁ hg hsize hdg hW (X₁.named hnamed) (hpre vm₁ X₁.warmed) with ⟨v, B, X', hpost, hsteps⟩ | ⟨q, B, X', hpost, hsteps⟩
  · exact Or.inl ⟨v, vm₁, B, X₁.warmed, X', hpost, fun target h => hstep₁ _ fun acts => by rw [doInvoke_state]; exact hsteps.trans h⟩
  · exact Or.inr ⟨q, vm₁, B, X₁.warmed, X', hpost, hstep₁ _ fun acts => by rw [doInvoke_state]; exact hsteps⟩
theorem vx_callVW (X : Stand p l e R s m args below meth c T locs cells slots) (hexec : p.tables.exec = Jvm.exec) {own C : String} {index : Nat} {y : MethodName} {bytes : ByteArray} {maxL : Nat} {ret : Option FieldType} {hh : List (Nat × Nat × Nat × Nat)}
    (hown : s.vm.findClass own = some m.cls) (hlink : (Cond.methodLink own index y).before args s = true) (hinst : (Cond.instanceMethod y).before args s = true) (hsel : (Cond.selects C y y).before args s = true)
    (hcode : (Cond.codeWith y bytes maxL ret hh).before args s = true) (hy : y.cls ≠ "java/lang/invoke/MethodHandle" ∧ y.cls ≠ "java/lang/invoke/VarHandle")
    {W9 : Nat} {Pre : Pt → Array Value → Prop} {Post : Pt → Array Value → Option Value → Pt → Prop} (hK : Back l R p e below s args y 3 W9 Pre Post)
    {b : Addr} {cellB : Cell} (hcell : T.heap[b]? = some cellB) (hobj : cellB.vm.isStatics = false) (hcls : s.vm.findClass C = some cellB.cls)
    {g : JFrame} (hg : g.method = m) (hsize : g.locals.size = c.maxLocals) {argsL rest : List Value} (hlen : ∀ sig, parseMethodDescriptor y.desc = some sig → argsL.length = sig.parameters.length)
    (hstack : g.stack = argsL.reverse ++ .ref b :: rest) (hW : 2 * g.monitorRoom + (rest.map fun v => v.category).sum ≤ W9) (hdg : decode c.code g.pc = .ok (.invokevirtual index, 3))
    (hpre : ∀ vm₁, s.WarmedH vm₁ → Pre ⟨T.setVm vm₁, locs, cells, slots⟩ (Value.ref b :: argsL).toArray) :
    ∃ (v : Option Value) (vm₁ : Vm) (B : Pt), s.WarmedH vm₁ ∧ Stand p l e R s m args below meth c B.U B.locs B.cells B.slots ∧ Post ⟨T.setVm vm₁, locs, cells, slots⟩ (Value.ref b :: argsL).toArray v B ∧
      ∀ target, Steps p.tables e below (B.U.setTop { g with pc := g.pc + 3, stack := v.toList ++ rest }) target → Steps p.tables e below (T.setTop g) target := by
  obtain ⟨mk, methM, hnamed, hmethM, hstM, habM⟩ := Cond.instanceMethod_spec hinst
  obtain ⟨m8, methM', cM, hn8, hmethM', -, -, -, -, -, -, hsigM⟩ := Cond.codeWith_spec hcode
  cases Option.some.inj (hn8.symm.trans hnamed)
  cases hmethM.symm.trans hmethM'
  obtain ⟨c2, r2, m2, q1, q2, q3, q4, kP, hkP, hkPi⟩ := Cond.selects_spec hsel
  cases hcls.symm.trans q1
  cases (State.methodFound?_of_named hnamed hy).symm.trans q2
  cases hnamed.symm.trans q3
  have hselP : selectMethod e.platform s.vm cellB.cls mk = .method mk := by rw [Launch.admits_selectMethod X.admits]; exact q4
  obtain ⟨vm₁, X₁, hstep₁⟩ := X.invokevirtual hexec hown hlink hnamed hmethM hstM hkP hkPi hy (a := b) (cell := cellB) hcell
    (fun z h => by rw [h] at hobj; cases hobj) hselP hmethM habM hkP hkPi (g := g) hg (argsL := argsL) (rest := rest) (hlen _ hsigM) hstack hdg
  obtain ⟨v, B, X', hpost, hsteps⟩ := hK m meth c ⟨T.setVm vm₁, locs, cells, slots⟩ { g with stack := rest } (.invokevirtual index) mk (Value.ref b :: argsL).toArray X₁ hg hsize hdg hW (X₁.named hnamed) (hpre vm₁ X₁.warmed)
  exact ⟨v, vm₁, B, X₁.warmed, X', hpost, fun target h => hstep₁ _ fun acts => by rw [doInvoke_state]; exact hsteps.trans h⟩
abbrev vx_CVW (R : Room) (s : State) (args : Array Value) (own C : String) (index : Nat) (y : MethodName) (bytes : ByteArray) (maxL : Nat) (ret : Option FieldType) (hh : List (Nat × Nat × Nat × Nat)) (ws : List Cond) (rm : Room) (mc ms n : Nat) : Prop :=
  (rm.cells = mc ∧ rm.slots = ms ∧ rm.frames + 1 ≤ R.frames ∧ 8 + (maxL + 11) + rm.locals ≤ R.locals ∧ (∀ w ∈ ws, ∀ (a' : Array Value) (U : State), s.WarmedH U.vm → w.before a' U = true) ∧ Cond.codeWith y bytes maxL ret hh ∈ ws) ∧
  (Cond.codeWith y bytes maxL ret hh).before args s = true ∧ (Cond.initialized y.cls).before args s = true ∧ (y.cls ≠ "java/lang/invoke/MethodHandle" ∧ y.cls ≠ "java/lang/invoke/VarHandle") ∧
  (∀ sig, parseMethodDescriptor y.desc = some sig → n = sig.parameters.length) ∧ (Cond.methodLink own index y).before args s = true ∧ (Cond.instanceMethod y).before args s = true ∧ (Cond.selects C y y).before args s = true
theorem vx_cwVW {own C : String} {index maxL mc ms : Nat} {y : MethodName} {bytes : ByteArray} {ret : Option FieldType} {hh : List (Nat × Nat × Nat × Nat)} {Ts ws ws' : List Cond} {rm : Room} (n : Nat) (ht : ∀ w ∈ Ts, w.before args s = true) (hT : GoodIn Ts (wsV own index C y ws)) (hw : ws = Cond.codeWith y bytes maxL ret hh :: ws') (hrc : rm.cells = mc) (hrs : rm.slots = ms)
    (hd : y.cls = C ∧ y.cls ≠ "java/lang/invoke/MethodHandle" ∧ y.cls ≠ "java/lang/invoke/VarHandle" ∧ (parseMethodDescriptor y.desc).map (fun d => d.parameters.length) = some n) (hR : rm.frames + 1 ≤ R.frames ∧ 8 + (maxL + 11) + rm.locals ≤ R.locals) :
    vx_CVW R s args own C index y bytes maxL ret hh ws rm mc ms n := by
  obtain ⟨hC, hd⟩ := hd
  subst hC
  have ok : ∀ w ∈ wsV own index y.cls y ws, w.before args s = true := fun w h => ht w (hT w h).1
  have hG : GoodIn Ts ws := fun w h => hT w (by unfold wsV; exact List.mem_append_right _ h)
  have hc : Cond.codeWith y bytes maxL ret hh ∈ ws := by rw [hw]; exact List.mem_cons_self
  refine ⟨⟨hrc, hrs, hR.1, hR.2, pay_in ht hG, hc⟩, ht _ (hG _ hc).1, ok _ (by simp [wsV]), ⟨hd.1, hd.2.1⟩, fun sig h => ?_, ok _ (by simp [wsV]), ok _ (by simp [wsV]), ok _ (by simp [wsV])⟩
  have h2 := hd.2.2
  rw [h] at h2
  exact (Option.some.inj h2).symm
theorem vx_runVW {y : MethodName} {bytes cc : ByteArray} {maxL nL mc ms n index : Nat} {ret : Option FieldType} {hh : List (Nat × Nat × Nat × Nat)} {ws : List Cond} {rm : Room} {Pc : Array Value → State → Prop} {Qc : Array Value → State → Outcome → State → Prop} {free : Addr → Prop} {Ts : List Cond} {own C : String} {b : Addr} {As rest : List Value} {g : JFrame}
    (S : CallFix p m c cc nL s args Ts own) (hM : Met l y ws rm Pc Qc mc ms free) (cw : vx_CVW R s args own C index y bytes maxL ret hh ws rm mc ms n) (hp : PreV s H C b Pc As)
    (hg : g.method = m) (hn : As.length = n) (hsize : g.locals.size = nL) (hstack : g.stack = As.reverse ++ .ref b :: rest) (hW : 2 * g.monitorRoom + (rest.map fun v => v.category).sum ≤ 8) (hdg : decode cc g.pc = .ok (.invokevirtual index, 3)) (hf : cells + mc ≤ R.cells ∧ slots + ms ≤ R.slots) :
    va_Run p l e R s m args below meth c H locs cells slots mc ms g rest (Qc (Value.ref b :: As).toArray) free := by
  obtain ⟨⟨hrc, hrs, hfr, hlo, hws, hcw⟩, hcode, hini, hy, hlen, hl, hin, hse⟩ := cw
  have hK : Back l R p e below s args y 3 8 (PreOf R mc ms Pc) (PostOf Qc mc ms free) := va_backW (hh := hh) (bytes := bytes) (maxL := maxL) (ret := ret) hM hp.1 hrc hrs hfr hlo hws hcw (fun a' U hW => word_at hW (Or.inl (by first | rfl | simp [Cond.onTables, Cond.keeps, Cond.steady])) hini)
  obtain ⟨hx, hb, hml, ho, -⟩ := S
  obtain ⟨-, ⟨cellB, hcB, hoB, hclB⟩, hPc⟩ := hp
  intro T hT X
  obtain ⟨v, vm₁, ⟨U', l2, c2, s2⟩, hW₁, X', ⟨g', mk, t, L, e1, e2, hq, h1, hL, h2, h3⟩, st⟩ := vx_callVW X hx (C := C) (hh := hh) (bytes := bytes) (maxL := maxL) (ret := ret) ho hl hin hse hcode hy hK (by rw [hT]; exact hcB) hoB hclB hg (hsize.trans hml.symm) (argsL := As) (rest := rest) (fun sig h => hn.trans (hlen sig h)) hstack hW (by rw [hb]; exact hdg)
    (fun vm₁ hW₁ => ⟨hf.1, hf.2, hPc (T.setVm vm₁) hT hW₁⟩)
  dsimp only [Pt.U, Pt.locs, Pt.cells, Pt.slots] at X' e1 e2 h1 h2 h3 st
  subst h1; subst h2; subst h3
  exact ⟨v, (T.setVm vm₁).calling g' mk (Value.ref b :: As).toArray, t, U', L, hT, X', hL, e1, e2, hq, st⟩
section
variable {y : MethodName} {bytes cc : ByteArray} {maxL nL mc ms n index : Nat} {ret : Option FieldType} {ws : List Cond} {rm : Room} {Pc : Array Value → State → Prop} {Qc : Array Value → State → Outcome → State → Prop} {XC : String → State → State → Prop} {free : Addr → Prop} {Ts : List Cond} {own C : String} {b : Addr} {As rest : List Value} {g : JFrame}
theorem vx_runVX {hh : List (Nat × Nat × Nat × Nat)} (S : CallFix p m c cc nL s args Ts own) (hM : vx_Met l y ws rm Pc Qc XC mc ms free) (cw : vx_CVW R s args own C index y bytes maxL ret hh ws rm mc ms n) (hp : PreV s H C b Pc As)
    (hg : g.method = m) (hn : As.length = n) (hsize : g.locals.size = nL) (hstack : g.stack = As.reverse ++ .ref b :: rest) (hW : 2 * g.monitorRoom + (rest.map fun v => v.category).sum ≤ 8) (hdg : decode cc g.pc = .ok (.invokevirtual index, 3)) (hf : cells + mc ≤ R.cells ∧ slots + ms ≤ R.slots) :
    vx_Run p l e R s m args below meth c H locs cells slots mc ms g rest (Qc (Value.ref b :: As).toArray) XC free := by
  obtain ⟨⟨hrc, hrs, hfr, hlo, hws, hcw⟩, hcode, hini, hy, hlen, hl, hin, hse⟩ := cw
  have hK : vx_Back l R p e below s args y 3 8 (PreOf R mc ms Pc) (PostOf Qc mc ms free) (vx_Post XC mc ms free) := vx_backW (hh := hh) (bytes := bytes) (maxL := maxL) (ret := ret) hM hp.1 hrc hrs hfr hlo hws hcw (fun a' U hW => word_at hW (Or.inl (by first | rfl | simp [Cond.onTables, Cond.keeps, Cond.steady])) hini)
  obtain ⟨hx, hb, hml, ho, -⟩ := S
  obtain ⟨-, ⟨cellB, hcB, hoB, hclB⟩, hPc⟩ := hp
  intro T hT X
  rcases vx_callVX X hx (C := C) (hh := hh) (bytes := bytes) (maxL := maxL) (ret := ret) ho hl hin hse hcode hy hK (by rw [hT]; exact hcB) hoB hclB hg (hsize.trans hml.symm) (argsL := As) (rest := rest) (fun sig h => hn.trans (hlen sig h)) hstack hW (by rw [hb]; exact hdg)
    (fun vm₁ hW₁ => ⟨hf.1, hf.2, hPc (T.setVm vm₁) hT hW₁⟩) with ⟨v, vm₁, ⟨U', l2, c2, s2⟩, hW₁, X', ⟨g', mk, t, L, e1, e2, hq, h1, hL, h2, h3⟩, st⟩ | ⟨q, vm₁, ⟨U', l2, c2, s2⟩, hW₁, X', ⟨g', mk, t, L, E, ce, e1, e2, hq, hce, hcv, hcl, h1, hL, h2, h3⟩, st⟩
  · dsimp only [Pt.U, Pt.locs, Pt.cells, Pt.slots] at X' e1 e2 h1 h2 h3 st
    subst h1; subst h2; subst h3
    exact Or.inl ⟨v, (T.setVm vm₁).calling g' mk (Value.ref b :: As).toArray, t, U', L, hT, X', hL, e1, e2, hq, st⟩
  · dsimp only [Pt.U, Pt.locs, Pt.cells, Pt.slots] at X' e1 e2 h1 h2 h3 st hcl
    subst h1; subst h2; subst h3
    exact Or.inr ⟨q, (T.setVm vm₁).calling g' mk (Value.ref b :: As).toArray, t, U', L, E, ce, hT, X', hL, e1, e2, hq, hce, hcv, vx_cls hW₁ hcl, st⟩
theorem vx_runSX {hh : List (Nat × Nat × Nat × Nat)} (S : CallFix p m c cc nL s args Ts own) (hM : vx_Met l y ws rm Pc Qc XC mc ms free) (cw : vx_CSW R s args own index y bytes maxL ret hh ws rm mc ms n) (hp : PreS s H Pc As)
    (hg : g.method = m) (hn : As.length = n) (hsize : g.locals.size = nL) (hstack : g.stack = As.reverse ++ rest) (hW : 2 * g.monitorRoom + (rest.map fun v => v.category).sum ≤ 8) (hdg : decode cc g.pc = .ok (.invokestatic index, 3)) (hf : cells + mc ≤ R.cells ∧ slots + ms ≤ R.slots) :
    vx_Run p l e R s m args below meth c H locs cells slots mc ms g rest (Qc As.toArray) XC free := by
  obtain ⟨⟨hrc, hrs, hfr, hlo, hws, hcw⟩, hcode, hini, hy, hlen, hl, hstt⟩ := cw
  have hK : vx_Back l R p e below s args y 3 8 (PreOf R mc ms Pc) (PostOf Qc mc ms free) (vx_Post XC mc ms free) := vx_backW (hh := hh) (bytes := bytes) (maxL := maxL) (ret := ret) hM hp.1 hrc hrs hfr hlo hws hcw (fun a' U hW => word_at hW (Or.inl (by first | rfl | simp [Cond.onTables, Cond.keeps, Cond.steady])) hini)
  obtain ⟨hx, hb, hml, ho, -⟩ := S
  intro T hT X
  rcases vx_callSX X hx (hh := hh) (bytes := bytes) (maxL := maxL) (ret := ret) ho hl hstt hini hcode hy hK hg (hsize.trans hml.symm) (argsL := As) (rest := rest) (fun sig h => hn.trans (hlen sig h)) hstack hW (by rw [hb]; exact hdg)
    (fun vm₁ hW₁ => ⟨hf.1, hf.2, hp.2 (T.setVm vm₁) hT hW₁⟩) with ⟨v, vm₁, ⟨U', l2, c2, s2⟩, hW₁, X', ⟨g', mk, t, L, e1, e2, hq, h1, hL, h2, h3⟩, st⟩ | ⟨q, vm₁, ⟨U', l2, c2, s2⟩, hW₁, X', ⟨g', mk, t, L, E, ce, e1, e2, hq, hce, hcv, hcl, h1, hL, h2, h3⟩, st⟩
  · dsimp only [Pt.U, Pt.locs, Pt.cells, Pt.slots] at X' e1 e2 h1 h2 h3 st
    subst h1; subst h2; subst h3
    exact Or.inl ⟨v, (T.setVm vm₁).calling g' mk As.toArray, t, U', L, hT, X', hL, e1, e2, hq, st⟩
  · dsimp only [Pt.U, Pt.locs, Pt.cells, Pt.slots] at X' e1 e2 h1 h2 h3 st hcl
    subst h1; subst h2; subst h3
    exact Or.inr ⟨q, (T.setVm vm₁).calling g' mk As.toArray, t, U', L, E, ce, hT, X', hL, e1, e2, hq, hce, hcv, vx_cls hW₁ hcl, st⟩
end
end VXH
theorem vx_ofWH {l : Launch} {y : MethodName} {ws ws' : List Cond} {rm : Room} {Pc : Array Value → State → Prop} {Qc : Array Value → State → Outcome → State → Prop} {XC : String → State → State → Prop} {mc ms : Nat} {free : Addr → Prop} {cc : ByteArray} {maxL : Nat} {ret : Option FieldType} {hh : List (Nat × Nat × Nat × Nat)}
    (hy : plainName y.cls = true) (hw : ws = Cond.codeWith y cc maxL ret hh :: ws')
    (body : ∀ p e s m args below meth c s₁, BodyLoose p l y (headSpec ws rm) cc maxL ret e s m args below meth c s₁ → c.maxLocals = maxL → Pc args s →
      W p l e (headSpec ws rm).room s m args below meth c s.heap [] 0 0 (vx_MQ below Qc XC args s mc ms free) (entryFrame m args maxL)) : vx_Met l y ws rm Pc Qc XC mc ms free := by
  refine MetFree.of_bodyS (code := cc) (maxLocals := maxL) (ret := ret) hy ?_ ?_
  · intro args s m h hn
    obtain ⟨m9, meth, c, hn9, h1, h2, h3, h4, -, h5, h6, -⟩ := Cond.codeWith_spec (atoms_spec (ws := ws) h _ (by rw [hw]; exact List.mem_cons_self))
    cases hn.symm.trans hn9
    exact ⟨meth, c, h1, h2, h3, h4, h5, h6⟩
  · intro p e s m args below meth c s₁ B hml hP _
    have hh0 : s₁.heap = s.heap := by rw [B.state]; rfl
    obtain ⟨t, a1, o, b1, b2, b3⟩ := body p e s m args below meth c s₁ B hml hP s₁ hh0 (Stand.of_body B)
    exact ⟨t, o, a1, b1, b2, b3⟩
/-! ===== END ===== -/
end
section
/-! ===== BEGIN printed: names, fields, word lists, decode rows ===== -/
def RX0 : String := "RoleMiner"
def TX0 : u_T := fun k => match k with
  | 0 => ("RoleMiner", "granted", "[I", true)
  | 1 => ("RoleMiner", "remembered", "[I", true)
  | 2 => ("RoleMiner", "opposed", "[I", true)
  | 3 => ("RoleMiner", "roleCost", "I", false)
  | 4 => ("RoleMiner", "exceptionCost", "I", false)
  | 5 => ("RoleMiner", "support", "I", false)
  | 6 => ("RoleMiner", "period", "I", false)
  | 7 => ("RoleMiner", "quarter", "I", false)
  | 8 => ("RoleMiner", "roleSets", "[I", true)
  | 9 => ("RoleMiner", "roleCount", "I", false)
  | 10 => ("RoleMiner", "candidateSets", "[I", true)
  | 11 => ("RoleMiner", "candidateCount", "I", false)
  | 12 => ("RoleMiner", "lowCover", "[J", true)
  | 13 => ("RoleMiner", "highCover", "[J", true)
  | 14 => ("RoleMiner", "lowLeft", "[J", true)
  | _ => ("RoleMiner", "highLeft", "[J", true)
def tyX0 : Nat → FieldType := fun k => match k with
  | 0 => .array .int
  | 1 => .array .int
  | 2 => .array .int
  | 3 => .int
  | 4 => .int
  | 5 => .int
  | 6 => .int
  | 7 => .int
  | 8 => .array .int
  | 9 => .int
  | 10 => .array .int
  | 11 => .int
  | 12 => .array .long
  | 13 => .array .long
  | 14 => .array .long
  | _ => .array .long
abbrev wsX00 : List Cond := u_ws RX0 TX0 16
theorem nmX0 : ∀ a, a < 16 → ∀ b, b < 16 → a ≠ b → (TX0 a).2.1 ≠ (TX0 b).2.1 := by decide +kernel
theorem tyX0_ok : ∀ k, k < 16 → parseFieldDescriptor (TX0 k).2.2.1 = some (tyX0 k) := by decide +kernel
abbrev cX0_init : ByteArray := prog_1_method_1_code
def yX0_init : MethodName := ⟨RX0, "<init>", "()V"⟩
abbrev cX0_grant : ByteArray := prog_1_method_2_code
def yX0_grant : MethodName := ⟨RX0, "grant", "(II)Z"⟩
abbrev cX0_revoke : ByteArray := prog_1_method_3_code
def yX0_revoke : MethodName := ⟨RX0, "revoke", "(II)Z"⟩
abbrev cX0_setGrants : ByteArray := prog_1_method_4_code
def yX0_setGrants : MethodName := ⟨RX0, "setGrants", "(II)I"⟩
abbrev cX0_setConflict : ByteArray := prog_1_method_5_code
def yX0_setConflict : MethodName := ⟨RX0, "setConflict", "(IIZ)Z"⟩
abbrev cX0_setCosts : ByteArray := prog_1_method_6_code
def yX0_setCosts : MethodName := ⟨RX0, "setCosts", "(II)V"⟩
abbrev cX0_setSupport : ByteArray := prog_1_method_7_code
def yX0_setSupport : MethodName := ⟨RX0, "setSupport", "(I)I"⟩
abbrev cX0_setPeriod : ByteArray := prog_1_method_8_code
def yX0_setPeriod : MethodName := ⟨RX0, "setPeriod", "(I)I"⟩
abbrev cX0_review : ByteArray := prog_1_method_9_code
def yX0_review : MethodName := ⟨RX0, "review", "(II)I"⟩
abbrev cX0_nextQuarter : ByteArray := prog_1_method_10_code
def yX0_nextQuarter : MethodName := ⟨RX0, "nextQuarter", "()I"⟩
abbrev cX0_mineGreedily : ByteArray := prog_1_method_11_code
def yX0_mineGreedily : MethodName := ⟨RX0, "mineGreedily", "()I"⟩
abbrev cX0_mineBest : ByteArray := prog_1_method_12_code
def yX0_mineBest : MethodName := ⟨RX0, "mineBest", "()I"⟩
abbrev cX0_dropRoles : ByteArray := prog_1_method_13_code
def yX0_dropRoles : MethodName := ⟨RX0, "dropRoles", "()I"⟩
abbrev cX0_permissions : ByteArray := prog_1_method_14_code
def yX0_permissions : MethodName := ⟨RX0, "permissions", "(I)I"⟩
abbrev cX0_grants : ByteArray := prog_1_method_15_code
def yX0_grants : MethodName := ⟨RX0, "grants", "()I"⟩
abbrev cX0_violations : ByteArray := prog_1_method_16_code
def yX0_violations : MethodName := ⟨RX0, "violations", "(I)I"⟩
abbrev cX0_quarter : ByteArray := prog_1_method_17_code
def yX0_quarter : MethodName := ⟨RX0, "quarter", "()I"⟩
abbrev cX0_due : ByteArray := prog_1_method_18_code
def yX0_due : MethodName := ⟨RX0, "due", "(I)I"⟩
abbrev cX0_candidates : ByteArray := prog_1_method_19_code
def yX0_candidates : MethodName := ⟨RX0, "candidates", "()I"⟩
abbrev cX0_candidate : ByteArray := prog_1_method_20_code
def yX0_candidate : MethodName := ⟨RX0, "candidate", "(I)I"⟩
abbrev cX0_holders : ByteArray := prog_1_method_21_code
def yX0_holders : MethodName := ⟨RX0, "holders", "(I)I"⟩
abbrev cX0_costOf : ByteArray := prog_1_method_22_code
def yX0_costOf : MethodName := ⟨RX0, "costOf", "(I)I"⟩
abbrev cX0_leastCost : ByteArray := prog_1_method_23_code
def yX0_leastCost : MethodName := ⟨RX0, "leastCost", "()I"⟩
abbrev cX0_roles : ByteArray := prog_1_method_24_code
def yX0_roles : MethodName := ⟨RX0, "roles", "()I"⟩
abbrev cX0_role : ByteArray := prog_1_method_25_code
def yX0_role : MethodName := ⟨RX0, "role", "(I)I"⟩
abbrev cX0_rolesOf : ByteArray := prog_1_method_26_code
def yX0_rolesOf : MethodName := ⟨RX0, "rolesOf", "(I)I"⟩
abbrev cX0_byRoles : ByteArray := prog_1_method_27_code
def yX0_byRoles : MethodName := ⟨RX0, "byRoles", "(I)I"⟩
abbrev cX0_exceptions : ByteArray := prog_1_method_28_code
def yX0_exceptions : MethodName := ⟨RX0, "exceptions", "(I)I"⟩
abbrev cX0_cost : ByteArray := prog_1_method_29_code
def yX0_cost : MethodName := ⟨RX0, "cost", "()I"⟩
abbrev cX0_isRisky : ByteArray := prog_1_method_30_code
def yX0_isRisky : MethodName := ⟨RX0, "isRisky", "(I)Z"⟩
abbrev cX0_isUser : ByteArray := prog_1_method_31_code
def yX0_isUser : MethodName := ⟨RX0, "isUser", "(I)Z"⟩
abbrev cX0_isPermission : ByteArray := prog_1_method_32_code
def yX0_isPermission : MethodName := ⟨RX0, "isPermission", "(I)Z"⟩
abbrev cX0_isPermissionSet : ByteArray := prog_1_method_33_code
def yX0_isPermissionSet : MethodName := ⟨RX0, "isPermissionSet", "(I)Z"⟩
abbrev cX0_isCost : ByteArray := prog_1_method_34_code
def yX0_isCost : MethodName := ⟨RX0, "isCost", "(I)Z"⟩
abbrev cX0_has : ByteArray := prog_1_method_35_code
def yX0_has : MethodName := ⟨RX0, "has", "(II)Z"⟩
abbrev cX0_grantIndex : ByteArray := prog_1_method_36_code
def yX0_grantIndex : MethodName := ⟨RX0, "grantIndex", "(II)I"⟩
abbrev cX0_insertInOrder : ByteArray := prog_1_method_37_code
def yX0_insertInOrder : MethodName := ⟨RX0, "insertInOrder", "([III)I"⟩
abbrev cX0_holds : ByteArray := prog_1_method_38_code
def yX0_holds : MethodName := ⟨RX0, "holds", "(II)Z"⟩
abbrev cX0_holdersOf : ByteArray := prog_1_method_39_code
def yX0_holdersOf : MethodName := ⟨RX0, "holdersOf", "(I)I"⟩
abbrev cX0_sharedBy : ByteArray := prog_1_method_40_code
def yX0_sharedBy : MethodName := ⟨RX0, "sharedBy", "(I)I"⟩
abbrev cX0_isProper : ByteArray := prog_1_method_41_code
def yX0_isProper : MethodName := ⟨RX0, "isProper", "(I)Z"⟩
abbrev cX0_lapsingIn : ByteArray := prog_1_method_42_code
def yX0_lapsingIn : MethodName := ⟨RX0, "lapsingIn", "(II)I"⟩
abbrev cX0_joinedRoles : ByteArray := prog_1_method_43_code
def yX0_joinedRoles : MethodName := ⟨RX0, "joinedRoles", "(I)I"⟩
abbrev cX0_findCandidates : ByteArray := prog_1_method_44_code
def yX0_findCandidates : MethodName := ⟨RX0, "findCandidates", "()V"⟩
abbrev cX0_findCover : ByteArray := prog_1_method_45_code
def yX0_findCover : MethodName := ⟨RX0, "findCover", "(I)V"⟩
abbrev cX0_findAllLeft : ByteArray := prog_1_method_46_code
def yX0_findAllLeft : MethodName := ⟨RX0, "findAllLeft", "()V"⟩
abbrev cX0_lowPart : ByteArray := prog_1_method_47_code
def yX0_lowPart : MethodName := ⟨RX0, "lowPart", "(II)J"⟩
abbrev cX0_highPart : ByteArray := prog_1_method_48_code
def yX0_highPart : MethodName := ⟨RX0, "highPart", "(II)J"⟩
abbrev cX0_costWith : ByteArray := prog_1_method_49_code
def yX0_costWith : MethodName := ⟨RX0, "costWith", "(IJJ)I"⟩
abbrev cX0_costOfChoice : ByteArray := prog_1_method_50_code
def yX0_costOfChoice : MethodName := ⟨RX0, "costOfChoice", "(I)I"⟩
abbrev cX0_mostSavingCandidate : ByteArray := prog_1_method_51_code
def yX0_mostSavingCandidate : MethodName := ⟨RX0, "mostSavingCandidate", "(JJ)I"⟩
abbrev cX0_bestChoice : ByteArray := prog_1_method_52_code
def yX0_bestChoice : MethodName := ⟨RX0, "bestChoice", "()I"⟩
abbrev cX0_comesBefore : ByteArray := prog_1_method_53_code
def yX0_comesBefore : MethodName := ⟨RX0, "comesBefore", "(II)Z"⟩
def RX1 : String := "RoleMinerModel"
def TX1 : u_T := fun k => match k with
  | 0 => ("RoleMinerModel", "has", "[I", true)
  | 1 => ("RoleMinerModel", "since", "[I", true)
  | 2 => ("RoleMinerModel", "against", "[I", true)
  | 3 => ("RoleMinerModel", "laid", "[I", true)
  | 4 => ("RoleMinerModel", "found", "[I", true)
  | 5 => ("RoleMinerModel", "common", "[I", true)
  | 6 => ("RoleMinerModel", "cover", "[I", true)
  | 7 => ("RoleMinerModel", "taken", "[I", true)
  | 8 => ("RoleMinerModel", "roleCost", "I", false)
  | 9 => ("RoleMinerModel", "exceptionCost", "I", false)
  | 10 => ("RoleMinerModel", "support", "I", false)
  | 11 => ("RoleMinerModel", "period", "I", false)
  | 12 => ("RoleMinerModel", "time", "I", false)
  | 13 => ("RoleMinerModel", "many", "I", false)
  | 14 => ("RoleMinerModel", "number", "I", false)
  | _ => ("RoleMinerModel", "thrown", "I", false)
def tyX1 : Nat → FieldType := fun k => match k with
  | 0 => .array .int
  | 1 => .array .int
  | 2 => .array .int
  | 3 => .array .int
  | 4 => .array .int
  | 5 => .array .int
  | 6 => .array .int
  | 7 => .array .int
  | 8 => .int
  | 9 => .int
  | 10 => .int
  | 11 => .int
  | 12 => .int
  | 13 => .int
  | 14 => .int
  | _ => .int
abbrev wsX10 : List Cond := u_ws RX1 TX1 16
theorem nmX1 : ∀ a, a < 16 → ∀ b, b < 16 → a ≠ b → (TX1 a).2.1 ≠ (TX1 b).2.1 := by decide +kernel
theorem tyX1_ok : ∀ k, k < 16 → parseFieldDescriptor (TX1 k).2.2.1 = some (tyX1 k) := by decide +kernel
abbrev cX1_init : ByteArray := prog_3_method_1_code
def yX1_init : MethodName := ⟨RX1, "<init>", "()V"⟩
abbrev cX1_thrown : ByteArray := prog_3_method_2_code
def yX1_thrown : MethodName := ⟨RX1, "thrown", "()I"⟩
abbrev cX1_holds : ByteArray := prog_3_method_3_code
def yX1_holds : MethodName := ⟨RX1, "holds", "(I)Z"⟩
abbrev cX1_plain : ByteArray := prog_3_method_4_code
def yX1_plain : MethodName := ⟨RX1, "plain", "(I)I"⟩
abbrev cX1_between : ByteArray := prog_3_method_5_code
def yX1_between : MethodName := ⟨RX1, "between", "(III)Z"⟩
abbrev cX1_isUser : ByteArray := prog_3_method_6_code
def yX1_isUser : MethodName := ⟨RX1, "isUser", "(I)Z"⟩
abbrev cX1_isPermission : ByteArray := prog_3_method_7_code
def yX1_isPermission : MethodName := ⟨RX1, "isPermission", "(I)Z"⟩
abbrev cX1_size : ByteArray := prog_3_method_8_code
def yX1_size : MethodName := ⟨RX1, "size", "(I)I"⟩
abbrev cX1_isIn : ByteArray := prog_3_method_9_code
def yX1_isIn : MethodName := ⟨RX1, "isIn", "(II)Z"⟩
abbrev cX1_isWithin : ByteArray := prog_3_method_10_code
def yX1_isWithin : MethodName := ⟨RX1, "isWithin", "(II)Z"⟩
abbrev cX1_isProper : ByteArray := prog_3_method_11_code
def yX1_isProper : MethodName := ⟨RX1, "isProper", "(I)Z"⟩
abbrev cX1_whoHas : ByteArray := prog_3_method_12_code
def yX1_whoHas : MethodName := ⟨RX1, "whoHas", "(I)I"⟩
abbrev cX1_give : ByteArray := prog_3_method_13_code
def yX1_give : MethodName := ⟨RX1, "give", "(II)V"⟩
abbrev cX1_grant : ByteArray := prog_3_method_14_code
def yX1_grant : MethodName := ⟨RX1, "grant", "(II)Z"⟩
abbrev cX1_revoke : ByteArray := prog_3_method_15_code
def yX1_revoke : MethodName := ⟨RX1, "revoke", "(II)Z"⟩
abbrev cX1_setGrants : ByteArray := prog_3_method_16_code
def yX1_setGrants : MethodName := ⟨RX1, "setGrants", "(II)I"⟩
abbrev cX1_setConflict : ByteArray := prog_3_method_17_code
def yX1_setConflict : MethodName := ⟨RX1, "setConflict", "(IIZ)Z"⟩
abbrev cX1_setCosts : ByteArray := prog_3_method_18_code
def yX1_setCosts : MethodName := ⟨RX1, "setCosts", "(II)V"⟩
abbrev cX1_setSupport : ByteArray := prog_3_method_19_code
def yX1_setSupport : MethodName := ⟨RX1, "setSupport", "(I)I"⟩
abbrev cX1_setPeriod : ByteArray := prog_3_method_20_code
def yX1_setPeriod : MethodName := ⟨RX1, "setPeriod", "(I)I"⟩
abbrev cX1_review : ByteArray := prog_3_method_21_code
def yX1_review : MethodName := ⟨RX1, "review", "(II)I"⟩
abbrev cX1_old : ByteArray := prog_3_method_22_code
def yX1_old : MethodName := ⟨RX1, "old", "(II)I"⟩
abbrev cX1_nextQuarter : ByteArray := prog_3_method_23_code
def yX1_nextQuarter : MethodName := ⟨RX1, "nextQuarter", "()I"⟩
abbrev cX1_find : ByteArray := prog_3_method_24_code
def yX1_find : MethodName := ⟨RX1, "find", "()V"⟩
abbrev cX1_uncover : ByteArray := prog_3_method_25_code
def yX1_uncover : MethodName := ⟨RX1, "uncover", "()V"⟩
abbrev cX1_add : ByteArray := prog_3_method_26_code
def yX1_add : MethodName := ⟨RX1, "add", "(I)V"⟩
abbrev cX1_uncovered : ByteArray := prog_3_method_27_code
def yX1_uncovered : MethodName := ⟨RX1, "uncovered", "()I"⟩
abbrev cX1_gain : ByteArray := prog_3_method_28_code
def yX1_gain : MethodName := ⟨RX1, "gain", "(I)I"⟩
abbrev cX1_price : ByteArray := prog_3_method_29_code
def yX1_price : MethodName := ⟨RX1, "price", "(I)I"⟩
abbrev cX1_mineGreedily : ByteArray := prog_3_method_30_code
def yX1_mineGreedily : MethodName := ⟨RX1, "mineGreedily", "()I"⟩
abbrev cX1_precedes : ByteArray := prog_3_method_31_code
def yX1_precedes : MethodName := ⟨RX1, "precedes", "(II)Z"⟩
abbrev cX1_best : ByteArray := prog_3_method_32_code
def yX1_best : MethodName := ⟨RX1, "best", "()I"⟩
abbrev cX1_isTooMuch : ByteArray := prog_3_method_33_code
def yX1_isTooMuch : MethodName := ⟨RX1, "isTooMuch", "()Z"⟩
abbrev cX1_mineBest : ByteArray := prog_3_method_34_code
def yX1_mineBest : MethodName := ⟨RX1, "mineBest", "()I"⟩
abbrev cX1_dropRoles : ByteArray := prog_3_method_35_code
def yX1_dropRoles : MethodName := ⟨RX1, "dropRoles", "()I"⟩
abbrev cX1_permissions : ByteArray := prog_3_method_36_code
def yX1_permissions : MethodName := ⟨RX1, "permissions", "(I)I"⟩
abbrev cX1_grants : ByteArray := prog_3_method_37_code
def yX1_grants : MethodName := ⟨RX1, "grants", "()I"⟩
abbrev cX1_violations : ByteArray := prog_3_method_38_code
def yX1_violations : MethodName := ⟨RX1, "violations", "(I)I"⟩
abbrev cX1_quarter : ByteArray := prog_3_method_39_code
def yX1_quarter : MethodName := ⟨RX1, "quarter", "()I"⟩
abbrev cX1_due : ByteArray := prog_3_method_40_code
def yX1_due : MethodName := ⟨RX1, "due", "(I)I"⟩
abbrev cX1_candidates : ByteArray := prog_3_method_41_code
def yX1_candidates : MethodName := ⟨RX1, "candidates", "()I"⟩
abbrev cX1_candidate : ByteArray := prog_3_method_42_code
def yX1_candidate : MethodName := ⟨RX1, "candidate", "(I)I"⟩
abbrev cX1_holders : ByteArray := prog_3_method_43_code
def yX1_holders : MethodName := ⟨RX1, "holders", "(I)I"⟩
abbrev cX1_costOf : ByteArray := prog_3_method_44_code
def yX1_costOf : MethodName := ⟨RX1, "costOf", "(I)I"⟩
abbrev cX1_leastCost : ByteArray := prog_3_method_45_code
def yX1_leastCost : MethodName := ⟨RX1, "leastCost", "()I"⟩
abbrev cX1_isRole : ByteArray := prog_3_method_46_code
def yX1_isRole : MethodName := ⟨RX1, "isRole", "(I)Z"⟩
abbrev cX1_roles : ByteArray := prog_3_method_47_code
def yX1_roles : MethodName := ⟨RX1, "roles", "()I"⟩
abbrev cX1_role : ByteArray := prog_3_method_48_code
def yX1_role : MethodName := ⟨RX1, "role", "(I)I"⟩
abbrev cX1_rolesOf : ByteArray := prog_3_method_49_code
def yX1_rolesOf : MethodName := ⟨RX1, "rolesOf", "(I)I"⟩
abbrev cX1_gotten : ByteArray := prog_3_method_50_code
def yX1_gotten : MethodName := ⟨RX1, "gotten", "(I)I"⟩
abbrev cX1_byRoles : ByteArray := prog_3_method_51_code
def yX1_byRoles : MethodName := ⟨RX1, "byRoles", "(I)I"⟩
abbrev cX1_exceptions : ByteArray := prog_3_method_52_code
def yX1_exceptions : MethodName := ⟨RX1, "exceptions", "(I)I"⟩
abbrev cX1_cost : ByteArray := prog_3_method_53_code
def yX1_cost : MethodName := ⟨RX1, "cost", "()I"⟩
abbrev cX1_isRisky : ByteArray := prog_3_method_54_code
def yX1_isRisky : MethodName := ⟨RX1, "isRisky", "(I)Z"⟩
def RJ6 : String := "java/lang/Integer"
def TJ6 : u_T := fun k => match k with
  | _ => ("", "", "", false)
def tyJ6 : Nat → FieldType := fun k => match k with
  | _ => .int
abbrev wsJ60 : List Cond := u_ws RJ6 TJ6 0
theorem nmJ6 : ∀ a, a < 0 → ∀ b, b < 0 → a ≠ b → (TJ6 a).2.1 ≠ (TJ6 b).2.1 := by decide +kernel
theorem tyJ6_ok : ∀ k, k < 0 → parseFieldDescriptor (TJ6 k).2.2.1 = some (tyJ6 k) := by decide +kernel
abbrev cJ6_lowestOneBit_0f7a4 : ByteArray := prog_8_method_46_code
def yJ6_lowestOneBit_0f7a4 : MethodName := ⟨RJ6, "lowestOneBit", "(I)I"⟩
abbrev cJ6_numberOfTrailingZeros_0f7a4 : ByteArray := prog_8_method_48_code
def yJ6_numberOfTrailingZeros_0f7a4 : MethodName := ⟨RJ6, "numberOfTrailingZeros", "(I)I"⟩
abbrev cJ6_bitCount_0f7a4 : ByteArray := prog_8_method_49_code
def yJ6_bitCount_0f7a4 : MethodName := ⟨RJ6, "bitCount", "(I)I"⟩
def RJ13 : String := "java/lang/Long"
def TJ13 : u_T := fun k => match k with
  | _ => ("", "", "", false)
def tyJ13 : Nat → FieldType := fun k => match k with
  | _ => .int
abbrev wsJ130 : List Cond := u_ws RJ13 TJ13 0
theorem nmJ13 : ∀ a, a < 0 → ∀ b, b < 0 → a ≠ b → (TJ13 a).2.1 ≠ (TJ13 b).2.1 := by decide +kernel
theorem tyJ13_ok : ∀ k, k < 0 → parseFieldDescriptor (TJ13 k).2.2.1 = some (tyJ13 k) := by decide +kernel
abbrev cJ13_bitCount_95d88 : ByteArray := prog_9_method_50_code
def yJ13_bitCount_95d88 : MethodName := ⟨RJ13, "bitCount", "(J)I"⟩
def RJ9 : String := "java/lang/Math"
def TJ9 : u_T := fun k => match k with
  | _ => ("", "", "", false)
def tyJ9 : Nat → FieldType := fun k => match k with
  | _ => .int
abbrev wsJ90 : List Cond := u_ws RJ9 TJ9 0
theorem nmJ9 : ∀ a, a < 0 → ∀ b, b < 0 → a ≠ b → (TJ9 a).2.1 ≠ (TJ9 b).2.1 := by decide +kernel
theorem tyJ9_ok : ∀ k, k < 0 → parseFieldDescriptor (TJ9 k).2.2.1 = some (tyJ9 k) := by decide +kernel
abbrev cJ9_min_7cf53 : ByteArray := prog_10_method_69_code
def yJ9_min_7cf53 : MethodName := ⟨RJ9, "min", "(II)I"⟩
def RJ0 : String := "java/lang/String"
def TJ0 : u_T := fun k => match k with
  | _ => ("", "", "", false)
def tyJ0 : Nat → FieldType := fun k => match k with
  | _ => .int
abbrev wsJ00 : List Cond := u_ws RJ0 TJ0 0
theorem nmJ0 : ∀ a, a < 0 → ∀ b, b < 0 → a ≠ b → (TJ0 a).2.1 ≠ (TJ0 b).2.1 := by decide +kernel
theorem tyJ0_ok : ∀ k, k < 0 → parseFieldDescriptor (TJ0 k).2.2.1 = some (tyJ0 k) := by decide +kernel
def RL : String := "RoleMinerLaw"
abbrev cL_grant : ByteArray := method_3_code
def yL_grant : MethodName := ⟨RL, "grant", "(LRoleMiner;II[J)I"⟩
abbrev cL_revoke : ByteArray := method_4_code
def yL_revoke : MethodName := ⟨RL, "revoke", "(LRoleMiner;II[J)I"⟩
abbrev cL_setGrants : ByteArray := method_5_code
def yL_setGrants : MethodName := ⟨RL, "setGrants", "(LRoleMiner;II[J)I"⟩
abbrev cL_setConflict : ByteArray := method_6_code
def yL_setConflict : MethodName := ⟨RL, "setConflict", "(LRoleMiner;IIZ[J)I"⟩
abbrev cL_setCosts : ByteArray := method_7_code
def yL_setCosts : MethodName := ⟨RL, "setCosts", "(LRoleMiner;II)I"⟩
abbrev cL_setSupport : ByteArray := method_8_code
def yL_setSupport : MethodName := ⟨RL, "setSupport", "(LRoleMiner;I[J)I"⟩
abbrev cL_setPeriod : ByteArray := method_9_code
def yL_setPeriod : MethodName := ⟨RL, "setPeriod", "(LRoleMiner;I[J)I"⟩
abbrev cL_review : ByteArray := method_10_code
def yL_review : MethodName := ⟨RL, "review", "(LRoleMiner;II[J)I"⟩
abbrev cL_nextQuarter : ByteArray := method_11_code
def yL_nextQuarter : MethodName := ⟨RL, "nextQuarter", "(LRoleMiner;[J)I"⟩
abbrev cL_mineBest : ByteArray := method_12_code
def yL_mineBest : MethodName := ⟨RL, "mineBest", "(LRoleMiner;[J)I"⟩
abbrev cL_permissions : ByteArray := method_13_code
def yL_permissions : MethodName := ⟨RL, "permissions", "(LRoleMiner;I[J)I"⟩
abbrev cL_violations : ByteArray := method_14_code
def yL_violations : MethodName := ⟨RL, "violations", "(LRoleMiner;I[J)I"⟩
abbrev cL_due : ByteArray := method_15_code
def yL_due : MethodName := ⟨RL, "due", "(LRoleMiner;I[J)I"⟩
abbrev cL_candidate : ByteArray := method_16_code
def yL_candidate : MethodName := ⟨RL, "candidate", "(LRoleMiner;I[J)I"⟩
abbrev cL_holders : ByteArray := method_17_code
def yL_holders : MethodName := ⟨RL, "holders", "(LRoleMiner;I[J)I"⟩
abbrev cL_costOf : ByteArray := method_18_code
def yL_costOf : MethodName := ⟨RL, "costOf", "(LRoleMiner;I[J)I"⟩
abbrev cL_leastCost : ByteArray := method_19_code
def yL_leastCost : MethodName := ⟨RL, "leastCost", "(LRoleMiner;[J)I"⟩
abbrev cL_role : ByteArray := method_20_code
def yL_role : MethodName := ⟨RL, "role", "(LRoleMiner;I[J)I"⟩
abbrev cL_rolesOf : ByteArray := method_21_code
def yL_rolesOf : MethodName := ⟨RL, "rolesOf", "(LRoleMiner;I[J)I"⟩
abbrev cL_byRoles : ByteArray := method_22_code
def yL_byRoles : MethodName := ⟨RL, "byRoles", "(LRoleMiner;I[J)I"⟩
abbrev cL_exceptions : ByteArray := method_23_code
def yL_exceptions : MethodName := ⟨RL, "exceptions", "(LRoleMiner;I[J)I"⟩
abbrev cL_isRisky : ByteArray := method_24_code
def yL_isRisky : MethodName := ⟨RL, "isRisky", "(LRoleMiner;I[J)I"⟩
abbrev cL_law : ByteArray := code
def yL_law : MethodName := ⟨RL, "law", "([I)Z"⟩
def wsX0_init : List Cond := .code yX0_init cX0_init 1 none :: ([.methodLink RX0 1 objectInit, .instanceMethod objectInit, .code objectInit ⟨#[0xb1]⟩ 1 none, .arrayClass .int, .fieldLink RX0 9 "RoleMiner" "granted" "[I", .fieldLink RX0 13 "RoleMiner" "remembered" "[I", .fieldLink RX0 16 "RoleMiner" "opposed" "[I", .fieldLink RX0 19 "RoleMiner" "roleCost" "I", .fieldLink RX0 23 "RoleMiner" "exceptionCost" "I", .fieldLink RX0 26 "RoleMiner" "support" "I", .fieldLink RX0 29 "RoleMiner" "period" "I", .fieldLink RX0 32 "RoleMiner" "quarter" "I", .fieldLink RX0 35 "RoleMiner" "roleSets" "[I", .fieldLink RX0 38 "RoleMiner" "roleCount" "I", .fieldLink RX0 41 "RoleMiner" "candidateSets" "[I", .fieldLink RX0 44 "RoleMiner" "candidateCount" "I", .arrayClass .long, .fieldLink RX0 47 "RoleMiner" "lowCover" "[J", .fieldLink RX0 51 "RoleMiner" "highCover" "[J", .fieldLink RX0 54 "RoleMiner" "lowLeft" "[J", .fieldLink RX0 57 "RoleMiner" "highLeft" "[J"] ++ wsX00)
def wsX0_isUser : List Cond := .code yX0_isUser cX0_isUser 1 (some .boolean) :: ([])
def wsX0_isPermission : List Cond := .code yX0_isPermission cX0_isPermission 1 (some .boolean) :: ([])
def wsX0_has : List Cond := .code yX0_has cX0_has 2 (some .boolean) :: ([])
def wsX0_grantIndex : List Cond := .code yX0_grantIndex cX0_grantIndex 2 (some .int) :: ([])
def wsX0_grant : List Cond := .code yX0_grant cX0_grant 3 (some .boolean) :: ([.classLink RX0 67 "java/lang/IndexOutOfBoundsException", .initialized "java/lang/IndexOutOfBoundsException", .fieldLink RX0 9 "RoleMiner" "granted" "[I", .fieldLink RX0 13 "RoleMiner" "remembered" "[I", .fieldLink RX0 32 "RoleMiner" "quarter" "I", .methodLink RX0 60 yX0_isUser, .static yX0_isUser, .initialized RX0, .code yX0_isUser cX0_isUser 1 (some .boolean), .methodLink RX0 64 yX0_isPermission, .static yX0_isPermission, .code yX0_isPermission cX0_isPermission 1 (some .boolean), .methodLink RX0 74 yX0_has, .static yX0_has, .code yX0_has cX0_has 2 (some .boolean), .methodLink RX0 78 yX0_grantIndex, .static yX0_grantIndex, .code yX0_grantIndex cX0_grantIndex 2 (some .int)] ++ wsX00 ++ (vx_atS RX0 71 "java/lang/IndexOutOfBoundsException" ["java/lang/RuntimeException", "java/lang/Exception"]).filter goodWord)
def wsX0_revoke : List Cond := .code yX0_revoke cX0_revoke 4 (some .boolean) :: ([.classLink RX0 67 "java/lang/IndexOutOfBoundsException", .initialized "java/lang/IndexOutOfBoundsException", .fieldLink RX0 9 "RoleMiner" "granted" "[I", .methodLink RX0 60 yX0_isUser, .static yX0_isUser, .initialized RX0, .code yX0_isUser cX0_isUser 1 (some .boolean), .methodLink RX0 64 yX0_isPermission, .static yX0_isPermission, .code yX0_isPermission cX0_isPermission 1 (some .boolean), .methodLink RX0 74 yX0_has, .static yX0_has, .code yX0_has cX0_has 2 (some .boolean)] ++ wsX00 ++ (vx_atS RX0 71 "java/lang/IndexOutOfBoundsException" ["java/lang/RuntimeException", "java/lang/Exception"]).filter goodWord)
def wsX0_isPermissionSet : List Cond := .code yX0_isPermissionSet cX0_isPermissionSet 1 (some .boolean) :: ([])
def wsJ6_bitCount_0f7a4 : List Cond := .code yJ6_bitCount_0f7a4 cJ6_bitCount_0f7a4 1 (some .int) :: ([.constant RJ6 265 (1431655765), .constant RJ6 266 (858993459), .constant RJ6 267 (252645135)])
def wsX0_setGrants_r1 : List Cond := [Cond.classLink RX0 67 "java/lang/IndexOutOfBoundsException", Cond.initialized "java/lang/IndexOutOfBoundsException", Cond.classLink RX0 87 "java/lang/IllegalArgumentException", Cond.initialized "java/lang/IllegalArgumentException", Cond.fieldLink RX0 9 "RoleMiner" "granted" "[I", Cond.fieldLink RX0 13 "RoleMiner" "remembered" "[I", Cond.fieldLink RX0 32 "RoleMiner" "quarter" "I", Cond.methodLink RX0 60 yX0_isUser, Cond.static yX0_isUser, Cond.initialized RX0, Cond.code yX0_isUser cX0_isUser 1 (some .boolean), Cond.methodLink RX0 84 yX0_isPermissionSet, Cond.static yX0_isPermissionSet, Cond.code yX0_isPermissionSet cX0_isPermissionSet 1 (some .boolean), Cond.methodLink RX0 74 yX0_has, Cond.static yX0_has, Cond.code yX0_has cX0_has 2 (some .boolean), Cond.methodLink RX0 78 yX0_grantIndex, Cond.static yX0_grantIndex, Cond.code yX0_grantIndex cX0_grantIndex 2 (some .int), Cond.methodLink RX0 92 yJ6_bitCount_0f7a4, Cond.static yJ6_bitCount_0f7a4, Cond.initialized RJ6, Cond.code yJ6_bitCount_0f7a4 cJ6_bitCount_0f7a4 1 (some .int)]
def wsX0_setGrants_r2 : List Cond := [Cond.constant RJ6 265 (1431655765), Cond.constant RJ6 266 (858993459), Cond.constant RJ6 267 (252645135)]
def wsX0_setGrants : List Cond := .code yX0_setGrants cX0_setGrants 5 (some .int) :: ((wsX0_setGrants_r1 ++ wsX0_setGrants_r2) ++ wsX00 ++ (vx_atS RX0 71 "java/lang/IndexOutOfBoundsException" ["java/lang/RuntimeException", "java/lang/Exception"]).filter goodWord ++ (vx_atS RX0 91 "java/lang/IllegalArgumentException" ["java/lang/RuntimeException", "java/lang/Exception"]).filter goodWord)
def wsX0_setConflict : List Cond := .code yX0_setConflict cX0_setConflict 5 (some .boolean) :: ([.classLink RX0 67 "java/lang/IndexOutOfBoundsException", .initialized "java/lang/IndexOutOfBoundsException", .classLink RX0 87 "java/lang/IllegalArgumentException", .initialized "java/lang/IllegalArgumentException", .fieldLink RX0 16 "RoleMiner" "opposed" "[I", .methodLink RX0 64 yX0_isPermission, .static yX0_isPermission, .initialized RX0, .code yX0_isPermission cX0_isPermission 1 (some .boolean), .methodLink RX0 74 yX0_has, .static yX0_has, .code yX0_has cX0_has 2 (some .boolean)] ++ wsX00 ++ (vx_atS RX0 71 "java/lang/IndexOutOfBoundsException" ["java/lang/RuntimeException", "java/lang/Exception"]).filter goodWord ++ (vx_atS RX0 91 "java/lang/IllegalArgumentException" ["java/lang/RuntimeException", "java/lang/Exception"]).filter goodWord)
def wsX0_isCost : List Cond := .code yX0_isCost cX0_isCost 1 (some .boolean) :: ([])
def wsX0_setCosts : List Cond := .code yX0_setCosts cX0_setCosts 3 none :: ([.classLink RX0 87 "java/lang/IllegalArgumentException", .initialized "java/lang/IllegalArgumentException", .fieldLink RX0 19 "RoleMiner" "roleCost" "I", .fieldLink RX0 23 "RoleMiner" "exceptionCost" "I", .methodLink RX0 102 yX0_isCost, .static yX0_isCost, .initialized RX0, .code yX0_isCost cX0_isCost 1 (some .boolean)] ++ wsX00 ++ (vx_atS RX0 91 "java/lang/IllegalArgumentException" ["java/lang/RuntimeException", "java/lang/Exception"]).filter goodWord)
def wsX0_setSupport : List Cond := .code yX0_setSupport cX0_setSupport 3 (some .int) :: ([.classLink RX0 87 "java/lang/IllegalArgumentException", .initialized "java/lang/IllegalArgumentException", .fieldLink RX0 26 "RoleMiner" "support" "I"] ++ wsX00 ++ (vx_atS RX0 91 "java/lang/IllegalArgumentException" ["java/lang/RuntimeException", "java/lang/Exception"]).filter goodWord)
def wsX0_setPeriod : List Cond := .code yX0_setPeriod cX0_setPeriod 3 (some .int) :: ([.classLink RX0 87 "java/lang/IllegalArgumentException", .initialized "java/lang/IllegalArgumentException", .fieldLink RX0 29 "RoleMiner" "period" "I"] ++ wsX00 ++ (vx_atS RX0 91 "java/lang/IllegalArgumentException" ["java/lang/RuntimeException", "java/lang/Exception"]).filter goodWord)
def wsX0_review : List Cond := .code yX0_review cX0_review 5 (some .int) :: ([.classLink RX0 67 "java/lang/IndexOutOfBoundsException", .initialized "java/lang/IndexOutOfBoundsException", .classLink RX0 111 "java/lang/IllegalStateException", .initialized "java/lang/IllegalStateException", .fieldLink RX0 9 "RoleMiner" "granted" "[I", .fieldLink RX0 32 "RoleMiner" "quarter" "I", .fieldLink RX0 13 "RoleMiner" "remembered" "[I", .methodLink RX0 60 yX0_isUser, .static yX0_isUser, .initialized RX0, .code yX0_isUser cX0_isUser 1 (some .boolean), .methodLink RX0 64 yX0_isPermission, .static yX0_isPermission, .code yX0_isPermission cX0_isPermission 1 (some .boolean), .methodLink RX0 74 yX0_has, .static yX0_has, .code yX0_has cX0_has 2 (some .boolean), .methodLink RX0 78 yX0_grantIndex, .static yX0_grantIndex, .code yX0_grantIndex cX0_grantIndex 2 (some .int)] ++ wsX00 ++ (vx_atS RX0 71 "java/lang/IndexOutOfBoundsException" ["java/lang/RuntimeException", "java/lang/Exception"]).filter goodWord ++ (vx_atS RX0 115 "java/lang/IllegalStateException" ["java/lang/RuntimeException", "java/lang/Exception"]).filter goodWord)
def wsX0_lapsingIn : List Cond := .code yX0_lapsingIn cX0_lapsingIn 6 (some .int) :: ([.fieldLink RX0 13 "RoleMiner" "remembered" "[I", .fieldLink RX0 9 "RoleMiner" "granted" "[I", .fieldLink RX0 29 "RoleMiner" "period" "I", .methodLink RX0 78 yX0_grantIndex, .static yX0_grantIndex, .initialized RX0, .code yX0_grantIndex cX0_grantIndex 2 (some .int), .methodLink RX0 74 yX0_has, .static yX0_has, .code yX0_has cX0_has 2 (some .boolean)] ++ wsX00)
def wsX0_nextQuarter : List Cond := .code yX0_nextQuarter cX0_nextQuarter 4 (some .int) :: ([.classLink RX0 111 "java/lang/IllegalStateException", .initialized "java/lang/IllegalStateException", .fieldLink RX0 32 "RoleMiner" "quarter" "I", .fieldLink RX0 9 "RoleMiner" "granted" "[I", .methodLink RX0 118 yX0_lapsingIn, .instanceMethod yX0_lapsingIn, .selects RX0 yX0_lapsingIn yX0_lapsingIn, .initialized RX0, .code yX0_lapsingIn cX0_lapsingIn 6 (some .int), .fieldLink RX0 13 "RoleMiner" "remembered" "[I", .fieldLink RX0 29 "RoleMiner" "period" "I", .methodLink RX0 78 yX0_grantIndex, .static yX0_grantIndex, .code yX0_grantIndex cX0_grantIndex 2 (some .int), .methodLink RX0 74 yX0_has, .static yX0_has, .code yX0_has cX0_has 2 (some .boolean), .methodLink RX0 92 yJ6_bitCount_0f7a4, .static yJ6_bitCount_0f7a4, .initialized RJ6, .code yJ6_bitCount_0f7a4 cJ6_bitCount_0f7a4 1 (some .int), .constant RJ6 265 (1431655765), .constant RJ6 266 (858993459), .constant RJ6 267 (252645135)] ++ wsX00 ++ (vx_atS RX0 115 "java/lang/IllegalStateException" ["java/lang/RuntimeException", "java/lang/Exception"]).filter goodWord)
def wsX0_sharedBy : List Cond := .code yX0_sharedBy cX0_sharedBy 4 (some .int) :: ([.fieldLink RX0 9 "RoleMiner" "granted" "[I", .methodLink RX0 74 yX0_has, .static yX0_has, .initialized RX0, .code yX0_has cX0_has 2 (some .boolean)] ++ wsX00)
def wsX0_holds : List Cond := .code yX0_holds cX0_holds 3 (some .boolean) :: ([.fieldLink RX0 9 "RoleMiner" "granted" "[I"] ++ wsX00)
def wsX0_holdersOf : List Cond := .code yX0_holdersOf cX0_holdersOf 4 (some .int) :: ([.methodLink RX0 156 yX0_holds, .instanceMethod yX0_holds, .selects RX0 yX0_holds yX0_holds, .initialized RX0, .code yX0_holds cX0_holds 3 (some .boolean), .fieldLink RX0 9 "RoleMiner" "granted" "[I"] ++ wsX00)
def wsX0_isProper : List Cond := .code yX0_isProper cX0_isProper 3 (some .boolean) :: ([.fieldLink RX0 16 "RoleMiner" "opposed" "[I", .methodLink RX0 74 yX0_has, .static yX0_has, .initialized RX0, .code yX0_has cX0_has 2 (some .boolean)] ++ wsX00)
def wsX0_insertInOrder : List Cond := .code yX0_insertInOrder cX0_insertInOrder 4 (some .int) :: ([])
def wsX0_lowPart : List Cond := .code yX0_lowPart cX0_lowPart 2 (some .long) :: ([])
def wsX0_highPart : List Cond := .code yX0_highPart cX0_highPart 2 (some .long) :: ([])
def wsX0_findCover : List Cond := .code yX0_findCover cX0_findCover 8 none :: ([.fieldLink RX0 41 "RoleMiner" "candidateSets" "[I", .fieldLink RX0 47 "RoleMiner" "lowCover" "[J", .fieldLink RX0 51 "RoleMiner" "highCover" "[J", .methodLink RX0 156 yX0_holds, .instanceMethod yX0_holds, .selects RX0 yX0_holds yX0_holds, .initialized RX0, .code yX0_holds cX0_holds 3 (some .boolean), .fieldLink RX0 9 "RoleMiner" "granted" "[I", .methodLink RX0 175 yX0_lowPart, .static yX0_lowPart, .code yX0_lowPart cX0_lowPart 2 (some .long), .methodLink RX0 179 yX0_highPart, .static yX0_highPart, .code yX0_highPart cX0_highPart 2 (some .long)] ++ wsX00)
def wsX0_findAllLeft : List Cond := .code yX0_findAllLeft cX0_findAllLeft 6 none :: ([.fieldLink RX0 9 "RoleMiner" "granted" "[I", .fieldLink RX0 54 "RoleMiner" "lowLeft" "[J", .fieldLink RX0 57 "RoleMiner" "highLeft" "[J", .methodLink RX0 175 yX0_lowPart, .static yX0_lowPart, .initialized RX0, .code yX0_lowPart cX0_lowPart 2 (some .long), .methodLink RX0 179 yX0_highPart, .static yX0_highPart, .code yX0_highPart cX0_highPart 2 (some .long)] ++ wsX00)
def wsX0_findCandidates_r1 : List Cond := [Cond.fieldLink RX0 44 "RoleMiner" "candidateCount" "I", Cond.fieldLink RX0 26 "RoleMiner" "support" "I", Cond.fieldLink RX0 41 "RoleMiner" "candidateSets" "[I", Cond.methodLink RX0 165 yX0_sharedBy, Cond.instanceMethod yX0_sharedBy, Cond.selects RX0 yX0_sharedBy yX0_sharedBy, Cond.initialized RX0, Cond.code yX0_sharedBy cX0_sharedBy 4 (some .int), Cond.fieldLink RX0 9 "RoleMiner" "granted" "[I", Cond.methodLink RX0 74 yX0_has, Cond.static yX0_has, Cond.code yX0_has cX0_has 2 (some .boolean), Cond.methodLink RX0 149 yX0_holdersOf, Cond.instanceMethod yX0_holdersOf, Cond.selects RX0 yX0_holdersOf yX0_holdersOf, Cond.code yX0_holdersOf cX0_holdersOf 4 (some .int), Cond.methodLink RX0 156 yX0_holds, Cond.instanceMethod yX0_holds, Cond.selects RX0 yX0_holds yX0_holds, Cond.code yX0_holds cX0_holds 3 (some .boolean), Cond.methodLink RX0 92 yJ6_bitCount_0f7a4, Cond.static yJ6_bitCount_0f7a4, Cond.initialized RJ6, Cond.code yJ6_bitCount_0f7a4 cJ6_bitCount_0f7a4 1 (some .int)]
def wsX0_findCandidates_r2 : List Cond := [Cond.constant RJ6 265 (1431655765), Cond.constant RJ6 266 (858993459), Cond.constant RJ6 267 (252645135), Cond.methodLink RX0 162 yX0_isProper, Cond.instanceMethod yX0_isProper, Cond.selects RX0 yX0_isProper yX0_isProper, Cond.code yX0_isProper cX0_isProper 3 (some .boolean), Cond.fieldLink RX0 16 "RoleMiner" "opposed" "[I", Cond.methodLink RX0 128 yX0_insertInOrder, Cond.static yX0_insertInOrder, Cond.code yX0_insertInOrder cX0_insertInOrder 4 (some .int), Cond.methodLink RX0 168 yX0_findCover, Cond.instanceMethod yX0_findCover, Cond.selects RX0 yX0_findCover yX0_findCover, Cond.code yX0_findCover cX0_findCover 8 none, Cond.fieldLink RX0 47 "RoleMiner" "lowCover" "[J", Cond.fieldLink RX0 51 "RoleMiner" "highCover" "[J", Cond.methodLink RX0 175 yX0_lowPart, Cond.static yX0_lowPart, Cond.code yX0_lowPart cX0_lowPart 2 (some .long), Cond.methodLink RX0 179 yX0_highPart, Cond.static yX0_highPart, Cond.code yX0_highPart cX0_highPart 2 (some .long), Cond.methodLink RX0 172 yX0_findAllLeft]
def wsX0_findCandidates_r3 : List Cond := [Cond.instanceMethod yX0_findAllLeft, Cond.selects RX0 yX0_findAllLeft yX0_findAllLeft, Cond.code yX0_findAllLeft cX0_findAllLeft 6 none, Cond.fieldLink RX0 54 "RoleMiner" "lowLeft" "[J", Cond.fieldLink RX0 57 "RoleMiner" "highLeft" "[J"]
def wsX0_findCandidates : List Cond := .code yX0_findCandidates cX0_findCandidates 4 none :: ((wsX0_findCandidates_r1 ++ (wsX0_findCandidates_r2 ++ wsX0_findCandidates_r3)) ++ wsX00)
def wsJ13_bitCount_95d88 : List Cond := .code yJ13_bitCount_95d88 cJ13_bitCount_95d88 2 (some .int) :: ([.constantLong RJ13 314 (6148914691236517205), .constantLong RJ13 316 (3689348814741910323), .constantLong RJ13 318 (1085102592571150095)])
def wsX0_mostSavingCandidate : List Cond := .code yX0_mostSavingCandidate cX0_mostSavingCandidate 10 (some .int) :: ([.fieldLink RX0 44 "RoleMiner" "candidateCount" "I", .fieldLink RX0 47 "RoleMiner" "lowCover" "[J", .fieldLink RX0 51 "RoleMiner" "highCover" "[J", .fieldLink RX0 23 "RoleMiner" "exceptionCost" "I", .fieldLink RX0 19 "RoleMiner" "roleCost" "I", .methodLink RX0 182 yJ13_bitCount_95d88, .static yJ13_bitCount_95d88, .initialized RJ13, .code yJ13_bitCount_95d88 cJ13_bitCount_95d88 2 (some .int), .constantLong RJ13 314 (6148914691236517205), .constantLong RJ13 316 (3689348814741910323), .constantLong RJ13 318 (1085102592571150095)] ++ wsX00)
def wsX0_costWith : List Cond := .code yX0_costWith cX0_costWith 6 (some .int) :: ([.fieldLink RX0 19 "RoleMiner" "roleCost" "I", .fieldLink RX0 23 "RoleMiner" "exceptionCost" "I", .methodLink RX0 182 yJ13_bitCount_95d88, .static yJ13_bitCount_95d88, .initialized RJ13, .code yJ13_bitCount_95d88 cJ13_bitCount_95d88 2 (some .int), .constantLong RJ13 314 (6148914691236517205), .constantLong RJ13 316 (3689348814741910323), .constantLong RJ13 318 (1085102592571150095)] ++ wsX00)
def wsX0_mineGreedily_r1 : List Cond := [Cond.fieldLink RX0 38 "RoleMiner" "roleCount" "I", Cond.fieldLink RX0 54 "RoleMiner" "lowLeft" "[J", Cond.fieldLink RX0 57 "RoleMiner" "highLeft" "[J", Cond.fieldLink RX0 44 "RoleMiner" "candidateCount" "I", Cond.fieldLink RX0 35 "RoleMiner" "roleSets" "[I", Cond.fieldLink RX0 41 "RoleMiner" "candidateSets" "[I", Cond.fieldLink RX0 47 "RoleMiner" "lowCover" "[J", Cond.constantLong RX0 132 (-1), Cond.fieldLink RX0 51 "RoleMiner" "highCover" "[J", Cond.methodLink RX0 121 yX0_findCandidates, Cond.instanceMethod yX0_findCandidates, Cond.selects RX0 yX0_findCandidates yX0_findCandidates, Cond.initialized RX0, Cond.code yX0_findCandidates cX0_findCandidates 4 none, Cond.fieldLink RX0 26 "RoleMiner" "support" "I", Cond.methodLink RX0 165 yX0_sharedBy, Cond.instanceMethod yX0_sharedBy, Cond.selects RX0 yX0_sharedBy yX0_sharedBy, Cond.code yX0_sharedBy cX0_sharedBy 4 (some .int), Cond.fieldLink RX0 9 "RoleMiner" "granted" "[I", Cond.methodLink RX0 74 yX0_has, Cond.static yX0_has, Cond.code yX0_has cX0_has 2 (some .boolean), Cond.methodLink RX0 149 yX0_holdersOf]
def wsX0_mineGreedily_r2 : List Cond := [Cond.instanceMethod yX0_holdersOf, Cond.selects RX0 yX0_holdersOf yX0_holdersOf, Cond.code yX0_holdersOf cX0_holdersOf 4 (some .int), Cond.methodLink RX0 156 yX0_holds, Cond.instanceMethod yX0_holds, Cond.selects RX0 yX0_holds yX0_holds, Cond.code yX0_holds cX0_holds 3 (some .boolean), Cond.methodLink RX0 92 yJ6_bitCount_0f7a4, Cond.static yJ6_bitCount_0f7a4, Cond.initialized RJ6, Cond.code yJ6_bitCount_0f7a4 cJ6_bitCount_0f7a4 1 (some .int), Cond.constant RJ6 265 (1431655765), Cond.constant RJ6 266 (858993459), Cond.constant RJ6 267 (252645135), Cond.methodLink RX0 162 yX0_isProper, Cond.instanceMethod yX0_isProper, Cond.selects RX0 yX0_isProper yX0_isProper, Cond.code yX0_isProper cX0_isProper 3 (some .boolean), Cond.fieldLink RX0 16 "RoleMiner" "opposed" "[I", Cond.methodLink RX0 128 yX0_insertInOrder, Cond.static yX0_insertInOrder, Cond.code yX0_insertInOrder cX0_insertInOrder 4 (some .int), Cond.methodLink RX0 168 yX0_findCover, Cond.instanceMethod yX0_findCover]
def wsX0_mineGreedily_r3 : List Cond := [Cond.selects RX0 yX0_findCover yX0_findCover, Cond.code yX0_findCover cX0_findCover 8 none, Cond.methodLink RX0 175 yX0_lowPart, Cond.static yX0_lowPart, Cond.code yX0_lowPart cX0_lowPart 2 (some .long), Cond.methodLink RX0 179 yX0_highPart, Cond.static yX0_highPart, Cond.code yX0_highPart cX0_highPart 2 (some .long), Cond.methodLink RX0 172 yX0_findAllLeft, Cond.instanceMethod yX0_findAllLeft, Cond.selects RX0 yX0_findAllLeft yX0_findAllLeft, Cond.code yX0_findAllLeft cX0_findAllLeft 6 none, Cond.methodLink RX0 124 yX0_mostSavingCandidate, Cond.instanceMethod yX0_mostSavingCandidate, Cond.selects RX0 yX0_mostSavingCandidate yX0_mostSavingCandidate, Cond.code yX0_mostSavingCandidate cX0_mostSavingCandidate 10 (some .int), Cond.fieldLink RX0 23 "RoleMiner" "exceptionCost" "I", Cond.fieldLink RX0 19 "RoleMiner" "roleCost" "I", Cond.methodLink RX0 182 yJ13_bitCount_95d88, Cond.static yJ13_bitCount_95d88, Cond.initialized RJ13, Cond.code yJ13_bitCount_95d88 cJ13_bitCount_95d88 2 (some .int), Cond.constantLong RJ13 314 (6148914691236517205), Cond.constantLong RJ13 316 (3689348814741910323)]
def wsX0_mineGreedily_r4 : List Cond := [Cond.constantLong RJ13 318 (1085102592571150095), Cond.methodLink RX0 134 yX0_costWith, Cond.instanceMethod yX0_costWith, Cond.selects RX0 yX0_costWith yX0_costWith, Cond.code yX0_costWith cX0_costWith 6 (some .int)]
def wsX0_mineGreedily : List Cond := .code yX0_mineGreedily cX0_mineGreedily 7 (some .int) :: ((wsX0_mineGreedily_r1 ++ (wsX0_mineGreedily_r2 ++ (wsX0_mineGreedily_r3 ++ wsX0_mineGreedily_r4))) ++ wsX00)
def wsX0_costOfChoice_r1 : List Cond := [Cond.fieldLink RX0 54 "RoleMiner" "lowLeft" "[J", Cond.fieldLink RX0 57 "RoleMiner" "highLeft" "[J", Cond.fieldLink RX0 44 "RoleMiner" "candidateCount" "I", Cond.fieldLink RX0 47 "RoleMiner" "lowCover" "[J", Cond.constantLong RX0 132 (-1), Cond.fieldLink RX0 51 "RoleMiner" "highCover" "[J", Cond.methodLink RX0 74 yX0_has, Cond.static yX0_has, Cond.initialized RX0, Cond.code yX0_has cX0_has 2 (some .boolean), Cond.methodLink RX0 92 yJ6_bitCount_0f7a4, Cond.static yJ6_bitCount_0f7a4, Cond.initialized RJ6, Cond.code yJ6_bitCount_0f7a4 cJ6_bitCount_0f7a4 1 (some .int), Cond.constant RJ6 265 (1431655765), Cond.constant RJ6 266 (858993459), Cond.constant RJ6 267 (252645135), Cond.methodLink RX0 134 yX0_costWith, Cond.instanceMethod yX0_costWith, Cond.selects RX0 yX0_costWith yX0_costWith, Cond.code yX0_costWith cX0_costWith 6 (some .int), Cond.fieldLink RX0 19 "RoleMiner" "roleCost" "I", Cond.fieldLink RX0 23 "RoleMiner" "exceptionCost" "I", Cond.methodLink RX0 182 yJ13_bitCount_95d88]
def wsX0_costOfChoice_r2 : List Cond := [Cond.static yJ13_bitCount_95d88, Cond.initialized RJ13, Cond.code yJ13_bitCount_95d88 cJ13_bitCount_95d88 2 (some .int), Cond.constantLong RJ13 314 (6148914691236517205), Cond.constantLong RJ13 316 (3689348814741910323), Cond.constantLong RJ13 318 (1085102592571150095)]
def wsX0_costOfChoice : List Cond := .code yX0_costOfChoice cX0_costOfChoice 7 (some .int) :: ((wsX0_costOfChoice_r1 ++ wsX0_costOfChoice_r2) ++ wsX00)
def wsJ6_numberOfTrailingZeros_0f7a4 : List Cond := .code yJ6_numberOfTrailingZeros_0f7a4 cJ6_numberOfTrailingZeros_0f7a4 2 (some .int) :: ([.constant RJ6 264 (65536)])
def wsJ6_lowestOneBit_0f7a4 : List Cond := .code yJ6_lowestOneBit_0f7a4 cJ6_lowestOneBit_0f7a4 1 (some .int) :: ([])
def wsX0_comesBefore : List Cond := .code yX0_comesBefore cX0_comesBefore 4 (some .boolean) :: ([.methodLink RX0 92 yJ6_bitCount_0f7a4, .static yJ6_bitCount_0f7a4, .initialized RJ6, .code yJ6_bitCount_0f7a4 cJ6_bitCount_0f7a4 1 (some .int), .constant RJ6 265 (1431655765), .constant RJ6 266 (858993459), .constant RJ6 267 (252645135), .methodLink RX0 198 yJ6_lowestOneBit_0f7a4, .static yJ6_lowestOneBit_0f7a4, .code yJ6_lowestOneBit_0f7a4 cJ6_lowestOneBit_0f7a4 1 (some .int)])
def wsX0_bestChoice_r1 : List Cond := [Cond.fieldLink RX0 44 "RoleMiner" "candidateCount" "I", Cond.methodLink RX0 187 Lib.Math.min.name, Cond.static Lib.Math.min.name, Cond.initialized "java/lang/Math", Cond.code Lib.Math.min.name Lib.Math.min.code 2 (some .int), Cond.fieldLink RX0 54 "RoleMiner" "lowLeft" "[J", Cond.fieldLink RX0 47 "RoleMiner" "lowCover" "[J", Cond.constantLong RX0 132 (-1), Cond.fieldLink RX0 57 "RoleMiner" "highLeft" "[J", Cond.fieldLink RX0 51 "RoleMiner" "highCover" "[J", Cond.methodLink RX0 144 yX0_costOfChoice, Cond.instanceMethod yX0_costOfChoice, Cond.selects RX0 yX0_costOfChoice yX0_costOfChoice, Cond.initialized RX0, Cond.code yX0_costOfChoice cX0_costOfChoice 7 (some .int), Cond.methodLink RX0 74 yX0_has, Cond.static yX0_has, Cond.code yX0_has cX0_has 2 (some .boolean), Cond.methodLink RX0 92 yJ6_bitCount_0f7a4, Cond.static yJ6_bitCount_0f7a4, Cond.initialized RJ6, Cond.code yJ6_bitCount_0f7a4 cJ6_bitCount_0f7a4 1 (some .int), Cond.constant RJ6 265 (1431655765), Cond.constant RJ6 266 (858993459)]
def wsX0_bestChoice_r2 : List Cond := [Cond.constant RJ6 267 (252645135), Cond.methodLink RX0 134 yX0_costWith, Cond.instanceMethod yX0_costWith, Cond.selects RX0 yX0_costWith yX0_costWith, Cond.code yX0_costWith cX0_costWith 6 (some .int), Cond.fieldLink RX0 19 "RoleMiner" "roleCost" "I", Cond.fieldLink RX0 23 "RoleMiner" "exceptionCost" "I", Cond.methodLink RX0 182 yJ13_bitCount_95d88, Cond.static yJ13_bitCount_95d88, Cond.initialized RJ13, Cond.code yJ13_bitCount_95d88 cJ13_bitCount_95d88 2 (some .int), Cond.constantLong RJ13 314 (6148914691236517205), Cond.constantLong RJ13 316 (3689348814741910323), Cond.constantLong RJ13 318 (1085102592571150095), Cond.methodLink RX0 192 yJ6_numberOfTrailingZeros_0f7a4, Cond.static yJ6_numberOfTrailingZeros_0f7a4, Cond.code yJ6_numberOfTrailingZeros_0f7a4 cJ6_numberOfTrailingZeros_0f7a4 2 (some .int), Cond.constant RJ6 264 (65536), Cond.methodLink RX0 195 yX0_comesBefore, Cond.static yX0_comesBefore, Cond.code yX0_comesBefore cX0_comesBefore 4 (some .boolean), Cond.methodLink RX0 198 yJ6_lowestOneBit_0f7a4, Cond.static yJ6_lowestOneBit_0f7a4, Cond.code yJ6_lowestOneBit_0f7a4 cJ6_lowestOneBit_0f7a4 1 (some .int)]
def wsX0_bestChoice : List Cond := .code yX0_bestChoice cX0_bestChoice 8 (some .int) :: ((wsX0_bestChoice_r1 ++ wsX0_bestChoice_r2) ++ wsX00)
def wsX0_mineBest_r1 : List Cond := [Cond.classLink RX0 111 "java/lang/IllegalStateException", Cond.initialized "java/lang/IllegalStateException", Cond.fieldLink RX0 44 "RoleMiner" "candidateCount" "I", Cond.fieldLink RX0 38 "RoleMiner" "roleCount" "I", Cond.fieldLink RX0 35 "RoleMiner" "roleSets" "[I", Cond.fieldLink RX0 41 "RoleMiner" "candidateSets" "[I", Cond.methodLink RX0 121 yX0_findCandidates, Cond.instanceMethod yX0_findCandidates, Cond.selects RX0 yX0_findCandidates yX0_findCandidates, Cond.initialized RX0, Cond.code yX0_findCandidates cX0_findCandidates 4 none, Cond.fieldLink RX0 26 "RoleMiner" "support" "I", Cond.methodLink RX0 165 yX0_sharedBy, Cond.instanceMethod yX0_sharedBy, Cond.selects RX0 yX0_sharedBy yX0_sharedBy, Cond.code yX0_sharedBy cX0_sharedBy 4 (some .int), Cond.fieldLink RX0 9 "RoleMiner" "granted" "[I", Cond.methodLink RX0 74 yX0_has, Cond.static yX0_has, Cond.code yX0_has cX0_has 2 (some .boolean), Cond.methodLink RX0 149 yX0_holdersOf, Cond.instanceMethod yX0_holdersOf, Cond.selects RX0 yX0_holdersOf yX0_holdersOf, Cond.code yX0_holdersOf cX0_holdersOf 4 (some .int)]
def wsX0_mineBest_r2 : List Cond := [Cond.methodLink RX0 156 yX0_holds, Cond.instanceMethod yX0_holds, Cond.selects RX0 yX0_holds yX0_holds, Cond.code yX0_holds cX0_holds 3 (some .boolean), Cond.methodLink RX0 92 yJ6_bitCount_0f7a4, Cond.static yJ6_bitCount_0f7a4, Cond.initialized RJ6, Cond.code yJ6_bitCount_0f7a4 cJ6_bitCount_0f7a4 1 (some .int), Cond.constant RJ6 265 (1431655765), Cond.constant RJ6 266 (858993459), Cond.constant RJ6 267 (252645135), Cond.methodLink RX0 162 yX0_isProper, Cond.instanceMethod yX0_isProper, Cond.selects RX0 yX0_isProper yX0_isProper, Cond.code yX0_isProper cX0_isProper 3 (some .boolean), Cond.fieldLink RX0 16 "RoleMiner" "opposed" "[I", Cond.methodLink RX0 128 yX0_insertInOrder, Cond.static yX0_insertInOrder, Cond.code yX0_insertInOrder cX0_insertInOrder 4 (some .int), Cond.methodLink RX0 168 yX0_findCover, Cond.instanceMethod yX0_findCover, Cond.selects RX0 yX0_findCover yX0_findCover, Cond.code yX0_findCover cX0_findCover 8 none, Cond.fieldLink RX0 47 "RoleMiner" "lowCover" "[J"]
def wsX0_mineBest_r3 : List Cond := [Cond.fieldLink RX0 51 "RoleMiner" "highCover" "[J", Cond.methodLink RX0 175 yX0_lowPart, Cond.static yX0_lowPart, Cond.code yX0_lowPart cX0_lowPart 2 (some .long), Cond.methodLink RX0 179 yX0_highPart, Cond.static yX0_highPart, Cond.code yX0_highPart cX0_highPart 2 (some .long), Cond.methodLink RX0 172 yX0_findAllLeft, Cond.instanceMethod yX0_findAllLeft, Cond.selects RX0 yX0_findAllLeft yX0_findAllLeft, Cond.code yX0_findAllLeft cX0_findAllLeft 6 none, Cond.fieldLink RX0 54 "RoleMiner" "lowLeft" "[J", Cond.fieldLink RX0 57 "RoleMiner" "highLeft" "[J", Cond.methodLink RX0 140 yX0_bestChoice, Cond.instanceMethod yX0_bestChoice, Cond.selects RX0 yX0_bestChoice yX0_bestChoice, Cond.code yX0_bestChoice cX0_bestChoice 8 (some .int), Cond.methodLink RX0 187 Lib.Math.min.name, Cond.static Lib.Math.min.name, Cond.initialized "java/lang/Math", Cond.code Lib.Math.min.name Lib.Math.min.code 2 (some .int), Cond.constantLong RX0 132 (-1), Cond.methodLink RX0 144 yX0_costOfChoice, Cond.instanceMethod yX0_costOfChoice]
def wsX0_mineBest_r4 : List Cond := [Cond.selects RX0 yX0_costOfChoice yX0_costOfChoice, Cond.code yX0_costOfChoice cX0_costOfChoice 7 (some .int), Cond.methodLink RX0 134 yX0_costWith, Cond.instanceMethod yX0_costWith, Cond.selects RX0 yX0_costWith yX0_costWith, Cond.code yX0_costWith cX0_costWith 6 (some .int), Cond.fieldLink RX0 19 "RoleMiner" "roleCost" "I", Cond.fieldLink RX0 23 "RoleMiner" "exceptionCost" "I", Cond.methodLink RX0 182 yJ13_bitCount_95d88, Cond.static yJ13_bitCount_95d88, Cond.initialized RJ13, Cond.code yJ13_bitCount_95d88 cJ13_bitCount_95d88 2 (some .int), Cond.constantLong RJ13 314 (6148914691236517205), Cond.constantLong RJ13 316 (3689348814741910323), Cond.constantLong RJ13 318 (1085102592571150095), Cond.methodLink RX0 192 yJ6_numberOfTrailingZeros_0f7a4, Cond.static yJ6_numberOfTrailingZeros_0f7a4, Cond.code yJ6_numberOfTrailingZeros_0f7a4 cJ6_numberOfTrailingZeros_0f7a4 2 (some .int), Cond.constant RJ6 264 (65536), Cond.methodLink RX0 195 yX0_comesBefore, Cond.static yX0_comesBefore, Cond.code yX0_comesBefore cX0_comesBefore 4 (some .boolean), Cond.methodLink RX0 198 yJ6_lowestOneBit_0f7a4, Cond.static yJ6_lowestOneBit_0f7a4]
def wsX0_mineBest_r5 : List Cond := [Cond.code yJ6_lowestOneBit_0f7a4 cJ6_lowestOneBit_0f7a4 1 (some .int)]
def wsX0_mineBest : List Cond := .code yX0_mineBest cX0_mineBest 3 (some .int) :: ((wsX0_mineBest_r1 ++ (wsX0_mineBest_r2 ++ (wsX0_mineBest_r3 ++ (wsX0_mineBest_r4 ++ wsX0_mineBest_r5)))) ++ wsX00 ++ (vx_atS RX0 115 "java/lang/IllegalStateException" ["java/lang/RuntimeException", "java/lang/Exception"]).filter goodWord)
def wsX0_dropRoles : List Cond := .code yX0_dropRoles cX0_dropRoles 2 (some .int) :: ([.fieldLink RX0 38 "RoleMiner" "roleCount" "I"] ++ wsX00)
def wsX0_permissions : List Cond := .code yX0_permissions cX0_permissions 2 (some .int) :: ([.classLink RX0 67 "java/lang/IndexOutOfBoundsException", .initialized "java/lang/IndexOutOfBoundsException", .fieldLink RX0 9 "RoleMiner" "granted" "[I", .methodLink RX0 60 yX0_isUser, .static yX0_isUser, .initialized RX0, .code yX0_isUser cX0_isUser 1 (some .boolean)] ++ wsX00 ++ (vx_atS RX0 71 "java/lang/IndexOutOfBoundsException" ["java/lang/RuntimeException", "java/lang/Exception"]).filter goodWord)
def wsX0_grants : List Cond := .code yX0_grants cX0_grants 3 (some .int) :: ([.fieldLink RX0 9 "RoleMiner" "granted" "[I", .methodLink RX0 92 yJ6_bitCount_0f7a4, .static yJ6_bitCount_0f7a4, .initialized RJ6, .code yJ6_bitCount_0f7a4 cJ6_bitCount_0f7a4 1 (some .int), .constant RJ6 265 (1431655765), .constant RJ6 266 (858993459), .constant RJ6 267 (252645135)] ++ wsX00)
def wsX0_violations : List Cond := .code yX0_violations cX0_violations 4 (some .int) :: ([.classLink RX0 67 "java/lang/IndexOutOfBoundsException", .initialized "java/lang/IndexOutOfBoundsException", .fieldLink RX0 9 "RoleMiner" "granted" "[I", .fieldLink RX0 16 "RoleMiner" "opposed" "[I", .methodLink RX0 60 yX0_isUser, .static yX0_isUser, .initialized RX0, .code yX0_isUser cX0_isUser 1 (some .boolean), .methodLink RX0 74 yX0_has, .static yX0_has, .code yX0_has cX0_has 2 (some .boolean), .methodLink RX0 92 yJ6_bitCount_0f7a4, .static yJ6_bitCount_0f7a4, .initialized RJ6, .code yJ6_bitCount_0f7a4 cJ6_bitCount_0f7a4 1 (some .int), .constant RJ6 265 (1431655765), .constant RJ6 266 (858993459), .constant RJ6 267 (252645135)] ++ wsX00 ++ (vx_atS RX0 71 "java/lang/IndexOutOfBoundsException" ["java/lang/RuntimeException", "java/lang/Exception"]).filter goodWord)
def wsX0_quarter : List Cond := .code yX0_quarter cX0_quarter 1 (some .int) :: ([.fieldLink RX0 32 "RoleMiner" "quarter" "I"] ++ wsX00)
def wsX0_due : List Cond := .code yX0_due cX0_due 2 (some .int) :: ([.classLink RX0 67 "java/lang/IndexOutOfBoundsException", .initialized "java/lang/IndexOutOfBoundsException", .fieldLink RX0 32 "RoleMiner" "quarter" "I", .methodLink RX0 60 yX0_isUser, .static yX0_isUser, .initialized RX0, .code yX0_isUser cX0_isUser 1 (some .boolean), .methodLink RX0 118 yX0_lapsingIn, .instanceMethod yX0_lapsingIn, .selects RX0 yX0_lapsingIn yX0_lapsingIn, .code yX0_lapsingIn cX0_lapsingIn 6 (some .int), .fieldLink RX0 13 "RoleMiner" "remembered" "[I", .fieldLink RX0 9 "RoleMiner" "granted" "[I", .fieldLink RX0 29 "RoleMiner" "period" "I", .methodLink RX0 78 yX0_grantIndex, .static yX0_grantIndex, .code yX0_grantIndex cX0_grantIndex 2 (some .int), .methodLink RX0 74 yX0_has, .static yX0_has, .code yX0_has cX0_has 2 (some .boolean)] ++ wsX00 ++ (vx_atS RX0 71 "java/lang/IndexOutOfBoundsException" ["java/lang/RuntimeException", "java/lang/Exception"]).filter goodWord)
def wsX0_candidates_r1 : List Cond := [Cond.fieldLink RX0 44 "RoleMiner" "candidateCount" "I", Cond.methodLink RX0 121 yX0_findCandidates, Cond.instanceMethod yX0_findCandidates, Cond.selects RX0 yX0_findCandidates yX0_findCandidates, Cond.initialized RX0, Cond.code yX0_findCandidates cX0_findCandidates 4 none, Cond.fieldLink RX0 26 "RoleMiner" "support" "I", Cond.fieldLink RX0 41 "RoleMiner" "candidateSets" "[I", Cond.methodLink RX0 165 yX0_sharedBy, Cond.instanceMethod yX0_sharedBy, Cond.selects RX0 yX0_sharedBy yX0_sharedBy, Cond.code yX0_sharedBy cX0_sharedBy 4 (some .int), Cond.fieldLink RX0 9 "RoleMiner" "granted" "[I", Cond.methodLink RX0 74 yX0_has, Cond.static yX0_has, Cond.code yX0_has cX0_has 2 (some .boolean), Cond.methodLink RX0 149 yX0_holdersOf, Cond.instanceMethod yX0_holdersOf, Cond.selects RX0 yX0_holdersOf yX0_holdersOf, Cond.code yX0_holdersOf cX0_holdersOf 4 (some .int), Cond.methodLink RX0 156 yX0_holds, Cond.instanceMethod yX0_holds, Cond.selects RX0 yX0_holds yX0_holds, Cond.code yX0_holds cX0_holds 3 (some .boolean)]
def wsX0_candidates_r2 : List Cond := [Cond.methodLink RX0 92 yJ6_bitCount_0f7a4, Cond.static yJ6_bitCount_0f7a4, Cond.initialized RJ6, Cond.code yJ6_bitCount_0f7a4 cJ6_bitCount_0f7a4 1 (some .int), Cond.constant RJ6 265 (1431655765), Cond.constant RJ6 266 (858993459), Cond.constant RJ6 267 (252645135), Cond.methodLink RX0 162 yX0_isProper, Cond.instanceMethod yX0_isProper, Cond.selects RX0 yX0_isProper yX0_isProper, Cond.code yX0_isProper cX0_isProper 3 (some .boolean), Cond.fieldLink RX0 16 "RoleMiner" "opposed" "[I", Cond.methodLink RX0 128 yX0_insertInOrder, Cond.static yX0_insertInOrder, Cond.code yX0_insertInOrder cX0_insertInOrder 4 (some .int), Cond.methodLink RX0 168 yX0_findCover, Cond.instanceMethod yX0_findCover, Cond.selects RX0 yX0_findCover yX0_findCover, Cond.code yX0_findCover cX0_findCover 8 none, Cond.fieldLink RX0 47 "RoleMiner" "lowCover" "[J", Cond.fieldLink RX0 51 "RoleMiner" "highCover" "[J", Cond.methodLink RX0 175 yX0_lowPart, Cond.static yX0_lowPart, Cond.code yX0_lowPart cX0_lowPart 2 (some .long)]
def wsX0_candidates_r3 : List Cond := [Cond.methodLink RX0 179 yX0_highPart, Cond.static yX0_highPart, Cond.code yX0_highPart cX0_highPart 2 (some .long), Cond.methodLink RX0 172 yX0_findAllLeft, Cond.instanceMethod yX0_findAllLeft, Cond.selects RX0 yX0_findAllLeft yX0_findAllLeft, Cond.code yX0_findAllLeft cX0_findAllLeft 6 none, Cond.fieldLink RX0 54 "RoleMiner" "lowLeft" "[J", Cond.fieldLink RX0 57 "RoleMiner" "highLeft" "[J"]
def wsX0_candidates : List Cond := .code yX0_candidates cX0_candidates 1 (some .int) :: ((wsX0_candidates_r1 ++ (wsX0_candidates_r2 ++ wsX0_candidates_r3)) ++ wsX00)
def wsX0_candidate_r1 : List Cond := [Cond.classLink RX0 67 "java/lang/IndexOutOfBoundsException", Cond.initialized "java/lang/IndexOutOfBoundsException", Cond.fieldLink RX0 44 "RoleMiner" "candidateCount" "I", Cond.fieldLink RX0 41 "RoleMiner" "candidateSets" "[I", Cond.methodLink RX0 121 yX0_findCandidates, Cond.instanceMethod yX0_findCandidates, Cond.selects RX0 yX0_findCandidates yX0_findCandidates, Cond.initialized RX0, Cond.code yX0_findCandidates cX0_findCandidates 4 none, Cond.fieldLink RX0 26 "RoleMiner" "support" "I", Cond.methodLink RX0 165 yX0_sharedBy, Cond.instanceMethod yX0_sharedBy, Cond.selects RX0 yX0_sharedBy yX0_sharedBy, Cond.code yX0_sharedBy cX0_sharedBy 4 (some .int), Cond.fieldLink RX0 9 "RoleMiner" "granted" "[I", Cond.methodLink RX0 74 yX0_has, Cond.static yX0_has, Cond.code yX0_has cX0_has 2 (some .boolean), Cond.methodLink RX0 149 yX0_holdersOf, Cond.instanceMethod yX0_holdersOf, Cond.selects RX0 yX0_holdersOf yX0_holdersOf, Cond.code yX0_holdersOf cX0_holdersOf 4 (some .int), Cond.methodLink RX0 156 yX0_holds, Cond.instanceMethod yX0_holds]
def wsX0_candidate_r2 : List Cond := [Cond.selects RX0 yX0_holds yX0_holds, Cond.code yX0_holds cX0_holds 3 (some .boolean), Cond.methodLink RX0 92 yJ6_bitCount_0f7a4, Cond.static yJ6_bitCount_0f7a4, Cond.initialized RJ6, Cond.code yJ6_bitCount_0f7a4 cJ6_bitCount_0f7a4 1 (some .int), Cond.constant RJ6 265 (1431655765), Cond.constant RJ6 266 (858993459), Cond.constant RJ6 267 (252645135), Cond.methodLink RX0 162 yX0_isProper, Cond.instanceMethod yX0_isProper, Cond.selects RX0 yX0_isProper yX0_isProper, Cond.code yX0_isProper cX0_isProper 3 (some .boolean), Cond.fieldLink RX0 16 "RoleMiner" "opposed" "[I", Cond.methodLink RX0 128 yX0_insertInOrder, Cond.static yX0_insertInOrder, Cond.code yX0_insertInOrder cX0_insertInOrder 4 (some .int), Cond.methodLink RX0 168 yX0_findCover, Cond.instanceMethod yX0_findCover, Cond.selects RX0 yX0_findCover yX0_findCover, Cond.code yX0_findCover cX0_findCover 8 none, Cond.fieldLink RX0 47 "RoleMiner" "lowCover" "[J", Cond.fieldLink RX0 51 "RoleMiner" "highCover" "[J", Cond.methodLink RX0 175 yX0_lowPart]
def wsX0_candidate_r3 : List Cond := [Cond.static yX0_lowPart, Cond.code yX0_lowPart cX0_lowPart 2 (some .long), Cond.methodLink RX0 179 yX0_highPart, Cond.static yX0_highPart, Cond.code yX0_highPart cX0_highPart 2 (some .long), Cond.methodLink RX0 172 yX0_findAllLeft, Cond.instanceMethod yX0_findAllLeft, Cond.selects RX0 yX0_findAllLeft yX0_findAllLeft, Cond.code yX0_findAllLeft cX0_findAllLeft 6 none, Cond.fieldLink RX0 54 "RoleMiner" "lowLeft" "[J", Cond.fieldLink RX0 57 "RoleMiner" "highLeft" "[J"]
def wsX0_candidate : List Cond := .code yX0_candidate cX0_candidate 2 (some .int) :: ((wsX0_candidate_r1 ++ (wsX0_candidate_r2 ++ wsX0_candidate_r3)) ++ wsX00 ++ (vx_atS RX0 71 "java/lang/IndexOutOfBoundsException" ["java/lang/RuntimeException", "java/lang/Exception"]).filter goodWord)
def wsX0_holders : List Cond := .code yX0_holders cX0_holders 2 (some .int) :: ([.classLink RX0 87 "java/lang/IllegalArgumentException", .initialized "java/lang/IllegalArgumentException", .methodLink RX0 84 yX0_isPermissionSet, .static yX0_isPermissionSet, .initialized RX0, .code yX0_isPermissionSet cX0_isPermissionSet 1 (some .boolean), .methodLink RX0 149 yX0_holdersOf, .instanceMethod yX0_holdersOf, .selects RX0 yX0_holdersOf yX0_holdersOf, .code yX0_holdersOf cX0_holdersOf 4 (some .int), .methodLink RX0 156 yX0_holds, .instanceMethod yX0_holds, .selects RX0 yX0_holds yX0_holds, .code yX0_holds cX0_holds 3 (some .boolean), .fieldLink RX0 9 "RoleMiner" "granted" "[I"] ++ wsX00 ++ (vx_atS RX0 91 "java/lang/IllegalArgumentException" ["java/lang/RuntimeException", "java/lang/Exception"]).filter goodWord)
def wsX0_costOf_r1 : List Cond := [Cond.classLink RX0 111 "java/lang/IllegalStateException", Cond.initialized "java/lang/IllegalStateException", Cond.classLink RX0 87 "java/lang/IllegalArgumentException", Cond.initialized "java/lang/IllegalArgumentException", Cond.fieldLink RX0 44 "RoleMiner" "candidateCount" "I", Cond.methodLink RX0 121 yX0_findCandidates, Cond.instanceMethod yX0_findCandidates, Cond.selects RX0 yX0_findCandidates yX0_findCandidates, Cond.initialized RX0, Cond.code yX0_findCandidates cX0_findCandidates 4 none, Cond.fieldLink RX0 26 "RoleMiner" "support" "I", Cond.fieldLink RX0 41 "RoleMiner" "candidateSets" "[I", Cond.methodLink RX0 165 yX0_sharedBy, Cond.instanceMethod yX0_sharedBy, Cond.selects RX0 yX0_sharedBy yX0_sharedBy, Cond.code yX0_sharedBy cX0_sharedBy 4 (some .int), Cond.fieldLink RX0 9 "RoleMiner" "granted" "[I", Cond.methodLink RX0 74 yX0_has, Cond.static yX0_has, Cond.code yX0_has cX0_has 2 (some .boolean), Cond.methodLink RX0 149 yX0_holdersOf, Cond.instanceMethod yX0_holdersOf, Cond.selects RX0 yX0_holdersOf yX0_holdersOf, Cond.code yX0_holdersOf cX0_holdersOf 4 (some .int)]
def wsX0_costOf_r2 : List Cond := [Cond.methodLink RX0 156 yX0_holds, Cond.instanceMethod yX0_holds, Cond.selects RX0 yX0_holds yX0_holds, Cond.code yX0_holds cX0_holds 3 (some .boolean), Cond.methodLink RX0 92 yJ6_bitCount_0f7a4, Cond.static yJ6_bitCount_0f7a4, Cond.initialized RJ6, Cond.code yJ6_bitCount_0f7a4 cJ6_bitCount_0f7a4 1 (some .int), Cond.constant RJ6 265 (1431655765), Cond.constant RJ6 266 (858993459), Cond.constant RJ6 267 (252645135), Cond.methodLink RX0 162 yX0_isProper, Cond.instanceMethod yX0_isProper, Cond.selects RX0 yX0_isProper yX0_isProper, Cond.code yX0_isProper cX0_isProper 3 (some .boolean), Cond.fieldLink RX0 16 "RoleMiner" "opposed" "[I", Cond.methodLink RX0 128 yX0_insertInOrder, Cond.static yX0_insertInOrder, Cond.code yX0_insertInOrder cX0_insertInOrder 4 (some .int), Cond.methodLink RX0 168 yX0_findCover, Cond.instanceMethod yX0_findCover, Cond.selects RX0 yX0_findCover yX0_findCover, Cond.code yX0_findCover cX0_findCover 8 none, Cond.fieldLink RX0 47 "RoleMiner" "lowCover" "[J"]
def wsX0_costOf_r3 : List Cond := [Cond.fieldLink RX0 51 "RoleMiner" "highCover" "[J", Cond.methodLink RX0 175 yX0_lowPart, Cond.static yX0_lowPart, Cond.code yX0_lowPart cX0_lowPart 2 (some .long), Cond.methodLink RX0 179 yX0_highPart, Cond.static yX0_highPart, Cond.code yX0_highPart cX0_highPart 2 (some .long), Cond.methodLink RX0 172 yX0_findAllLeft, Cond.instanceMethod yX0_findAllLeft, Cond.selects RX0 yX0_findAllLeft yX0_findAllLeft, Cond.code yX0_findAllLeft cX0_findAllLeft 6 none, Cond.fieldLink RX0 54 "RoleMiner" "lowLeft" "[J", Cond.fieldLink RX0 57 "RoleMiner" "highLeft" "[J", Cond.methodLink RX0 144 yX0_costOfChoice, Cond.instanceMethod yX0_costOfChoice, Cond.selects RX0 yX0_costOfChoice yX0_costOfChoice, Cond.code yX0_costOfChoice cX0_costOfChoice 7 (some .int), Cond.constantLong RX0 132 (-1), Cond.methodLink RX0 134 yX0_costWith, Cond.instanceMethod yX0_costWith, Cond.selects RX0 yX0_costWith yX0_costWith, Cond.code yX0_costWith cX0_costWith 6 (some .int), Cond.fieldLink RX0 19 "RoleMiner" "roleCost" "I", Cond.fieldLink RX0 23 "RoleMiner" "exceptionCost" "I"]
def wsX0_costOf_r4 : List Cond := [Cond.methodLink RX0 182 yJ13_bitCount_95d88, Cond.static yJ13_bitCount_95d88, Cond.initialized RJ13, Cond.code yJ13_bitCount_95d88 cJ13_bitCount_95d88 2 (some .int), Cond.constantLong RJ13 314 (6148914691236517205), Cond.constantLong RJ13 316 (3689348814741910323), Cond.constantLong RJ13 318 (1085102592571150095)]
def wsX0_costOf : List Cond := .code yX0_costOf cX0_costOf 2 (some .int) :: ((wsX0_costOf_r1 ++ (wsX0_costOf_r2 ++ (wsX0_costOf_r3 ++ wsX0_costOf_r4))) ++ wsX00 ++ (vx_atS RX0 115 "java/lang/IllegalStateException" ["java/lang/RuntimeException", "java/lang/Exception"]).filter goodWord ++ (vx_atS RX0 91 "java/lang/IllegalArgumentException" ["java/lang/RuntimeException", "java/lang/Exception"]).filter goodWord)
def wsX0_leastCost_r1 : List Cond := [Cond.classLink RX0 111 "java/lang/IllegalStateException", Cond.initialized "java/lang/IllegalStateException", Cond.fieldLink RX0 44 "RoleMiner" "candidateCount" "I", Cond.methodLink RX0 121 yX0_findCandidates, Cond.instanceMethod yX0_findCandidates, Cond.selects RX0 yX0_findCandidates yX0_findCandidates, Cond.initialized RX0, Cond.code yX0_findCandidates cX0_findCandidates 4 none, Cond.fieldLink RX0 26 "RoleMiner" "support" "I", Cond.fieldLink RX0 41 "RoleMiner" "candidateSets" "[I", Cond.methodLink RX0 165 yX0_sharedBy, Cond.instanceMethod yX0_sharedBy, Cond.selects RX0 yX0_sharedBy yX0_sharedBy, Cond.code yX0_sharedBy cX0_sharedBy 4 (some .int), Cond.fieldLink RX0 9 "RoleMiner" "granted" "[I", Cond.methodLink RX0 74 yX0_has, Cond.static yX0_has, Cond.code yX0_has cX0_has 2 (some .boolean), Cond.methodLink RX0 149 yX0_holdersOf, Cond.instanceMethod yX0_holdersOf, Cond.selects RX0 yX0_holdersOf yX0_holdersOf, Cond.code yX0_holdersOf cX0_holdersOf 4 (some .int), Cond.methodLink RX0 156 yX0_holds, Cond.instanceMethod yX0_holds]
def wsX0_leastCost_r2 : List Cond := [Cond.selects RX0 yX0_holds yX0_holds, Cond.code yX0_holds cX0_holds 3 (some .boolean), Cond.methodLink RX0 92 yJ6_bitCount_0f7a4, Cond.static yJ6_bitCount_0f7a4, Cond.initialized RJ6, Cond.code yJ6_bitCount_0f7a4 cJ6_bitCount_0f7a4 1 (some .int), Cond.constant RJ6 265 (1431655765), Cond.constant RJ6 266 (858993459), Cond.constant RJ6 267 (252645135), Cond.methodLink RX0 162 yX0_isProper, Cond.instanceMethod yX0_isProper, Cond.selects RX0 yX0_isProper yX0_isProper, Cond.code yX0_isProper cX0_isProper 3 (some .boolean), Cond.fieldLink RX0 16 "RoleMiner" "opposed" "[I", Cond.methodLink RX0 128 yX0_insertInOrder, Cond.static yX0_insertInOrder, Cond.code yX0_insertInOrder cX0_insertInOrder 4 (some .int), Cond.methodLink RX0 168 yX0_findCover, Cond.instanceMethod yX0_findCover, Cond.selects RX0 yX0_findCover yX0_findCover, Cond.code yX0_findCover cX0_findCover 8 none, Cond.fieldLink RX0 47 "RoleMiner" "lowCover" "[J", Cond.fieldLink RX0 51 "RoleMiner" "highCover" "[J", Cond.methodLink RX0 175 yX0_lowPart]
def wsX0_leastCost_r3 : List Cond := [Cond.static yX0_lowPart, Cond.code yX0_lowPart cX0_lowPart 2 (some .long), Cond.methodLink RX0 179 yX0_highPart, Cond.static yX0_highPart, Cond.code yX0_highPart cX0_highPart 2 (some .long), Cond.methodLink RX0 172 yX0_findAllLeft, Cond.instanceMethod yX0_findAllLeft, Cond.selects RX0 yX0_findAllLeft yX0_findAllLeft, Cond.code yX0_findAllLeft cX0_findAllLeft 6 none, Cond.fieldLink RX0 54 "RoleMiner" "lowLeft" "[J", Cond.fieldLink RX0 57 "RoleMiner" "highLeft" "[J", Cond.methodLink RX0 140 yX0_bestChoice, Cond.instanceMethod yX0_bestChoice, Cond.selects RX0 yX0_bestChoice yX0_bestChoice, Cond.code yX0_bestChoice cX0_bestChoice 8 (some .int), Cond.methodLink RX0 187 Lib.Math.min.name, Cond.static Lib.Math.min.name, Cond.initialized "java/lang/Math", Cond.code Lib.Math.min.name Lib.Math.min.code 2 (some .int), Cond.constantLong RX0 132 (-1), Cond.methodLink RX0 144 yX0_costOfChoice, Cond.instanceMethod yX0_costOfChoice, Cond.selects RX0 yX0_costOfChoice yX0_costOfChoice, Cond.code yX0_costOfChoice cX0_costOfChoice 7 (some .int)]
def wsX0_leastCost_r4 : List Cond := [Cond.methodLink RX0 134 yX0_costWith, Cond.instanceMethod yX0_costWith, Cond.selects RX0 yX0_costWith yX0_costWith, Cond.code yX0_costWith cX0_costWith 6 (some .int), Cond.fieldLink RX0 19 "RoleMiner" "roleCost" "I", Cond.fieldLink RX0 23 "RoleMiner" "exceptionCost" "I", Cond.methodLink RX0 182 yJ13_bitCount_95d88, Cond.static yJ13_bitCount_95d88, Cond.initialized RJ13, Cond.code yJ13_bitCount_95d88 cJ13_bitCount_95d88 2 (some .int), Cond.constantLong RJ13 314 (6148914691236517205), Cond.constantLong RJ13 316 (3689348814741910323), Cond.constantLong RJ13 318 (1085102592571150095), Cond.methodLink RX0 192 yJ6_numberOfTrailingZeros_0f7a4, Cond.static yJ6_numberOfTrailingZeros_0f7a4, Cond.code yJ6_numberOfTrailingZeros_0f7a4 cJ6_numberOfTrailingZeros_0f7a4 2 (some .int), Cond.constant RJ6 264 (65536), Cond.methodLink RX0 195 yX0_comesBefore, Cond.static yX0_comesBefore, Cond.code yX0_comesBefore cX0_comesBefore 4 (some .boolean), Cond.methodLink RX0 198 yJ6_lowestOneBit_0f7a4, Cond.static yJ6_lowestOneBit_0f7a4, Cond.code yJ6_lowestOneBit_0f7a4 cJ6_lowestOneBit_0f7a4 1 (some .int)]
def wsX0_leastCost : List Cond := .code yX0_leastCost cX0_leastCost 1 (some .int) :: ((wsX0_leastCost_r1 ++ (wsX0_leastCost_r2 ++ (wsX0_leastCost_r3 ++ wsX0_leastCost_r4))) ++ wsX00 ++ (vx_atS RX0 115 "java/lang/IllegalStateException" ["java/lang/RuntimeException", "java/lang/Exception"]).filter goodWord)
def wsX0_roles : List Cond := .code yX0_roles cX0_roles 1 (some .int) :: ([.fieldLink RX0 38 "RoleMiner" "roleCount" "I"] ++ wsX00)
def wsX0_role : List Cond := .code yX0_role cX0_role 2 (some .int) :: ([.classLink RX0 67 "java/lang/IndexOutOfBoundsException", .initialized "java/lang/IndexOutOfBoundsException", .fieldLink RX0 38 "RoleMiner" "roleCount" "I", .fieldLink RX0 35 "RoleMiner" "roleSets" "[I"] ++ wsX00 ++ (vx_atS RX0 71 "java/lang/IndexOutOfBoundsException" ["java/lang/RuntimeException", "java/lang/Exception"]).filter goodWord)
def wsX0_rolesOf : List Cond := .code yX0_rolesOf cX0_rolesOf 4 (some .int) :: ([.classLink RX0 67 "java/lang/IndexOutOfBoundsException", .initialized "java/lang/IndexOutOfBoundsException", .fieldLink RX0 38 "RoleMiner" "roleCount" "I", .fieldLink RX0 35 "RoleMiner" "roleSets" "[I", .methodLink RX0 60 yX0_isUser, .static yX0_isUser, .initialized RX0, .code yX0_isUser cX0_isUser 1 (some .boolean), .methodLink RX0 156 yX0_holds, .instanceMethod yX0_holds, .selects RX0 yX0_holds yX0_holds, .code yX0_holds cX0_holds 3 (some .boolean), .fieldLink RX0 9 "RoleMiner" "granted" "[I"] ++ wsX00 ++ (vx_atS RX0 71 "java/lang/IndexOutOfBoundsException" ["java/lang/RuntimeException", "java/lang/Exception"]).filter goodWord)
def wsX0_joinedRoles : List Cond := .code yX0_joinedRoles cX0_joinedRoles 4 (some .int) :: ([.fieldLink RX0 38 "RoleMiner" "roleCount" "I", .fieldLink RX0 35 "RoleMiner" "roleSets" "[I", .methodLink RX0 156 yX0_holds, .instanceMethod yX0_holds, .selects RX0 yX0_holds yX0_holds, .initialized RX0, .code yX0_holds cX0_holds 3 (some .boolean), .fieldLink RX0 9 "RoleMiner" "granted" "[I"] ++ wsX00)
def wsX0_byRoles : List Cond := .code yX0_byRoles cX0_byRoles 2 (some .int) :: ([.classLink RX0 67 "java/lang/IndexOutOfBoundsException", .initialized "java/lang/IndexOutOfBoundsException", .methodLink RX0 60 yX0_isUser, .static yX0_isUser, .initialized RX0, .code yX0_isUser cX0_isUser 1 (some .boolean), .methodLink RX0 159 yX0_joinedRoles, .instanceMethod yX0_joinedRoles, .selects RX0 yX0_joinedRoles yX0_joinedRoles, .code yX0_joinedRoles cX0_joinedRoles 4 (some .int), .fieldLink RX0 38 "RoleMiner" "roleCount" "I", .fieldLink RX0 35 "RoleMiner" "roleSets" "[I", .methodLink RX0 156 yX0_holds, .instanceMethod yX0_holds, .selects RX0 yX0_holds yX0_holds, .code yX0_holds cX0_holds 3 (some .boolean), .fieldLink RX0 9 "RoleMiner" "granted" "[I"] ++ wsX00 ++ (vx_atS RX0 71 "java/lang/IndexOutOfBoundsException" ["java/lang/RuntimeException", "java/lang/Exception"]).filter goodWord)
def wsX0_exceptions : List Cond := .code yX0_exceptions cX0_exceptions 2 (some .int) :: ([.classLink RX0 67 "java/lang/IndexOutOfBoundsException", .initialized "java/lang/IndexOutOfBoundsException", .fieldLink RX0 9 "RoleMiner" "granted" "[I", .methodLink RX0 60 yX0_isUser, .static yX0_isUser, .initialized RX0, .code yX0_isUser cX0_isUser 1 (some .boolean), .methodLink RX0 159 yX0_joinedRoles, .instanceMethod yX0_joinedRoles, .selects RX0 yX0_joinedRoles yX0_joinedRoles, .code yX0_joinedRoles cX0_joinedRoles 4 (some .int), .fieldLink RX0 38 "RoleMiner" "roleCount" "I", .fieldLink RX0 35 "RoleMiner" "roleSets" "[I", .methodLink RX0 156 yX0_holds, .instanceMethod yX0_holds, .selects RX0 yX0_holds yX0_holds, .code yX0_holds cX0_holds 3 (some .boolean)] ++ wsX00 ++ (vx_atS RX0 71 "java/lang/IndexOutOfBoundsException" ["java/lang/RuntimeException", "java/lang/Exception"]).filter goodWord)
def wsX0_cost : List Cond := .code yX0_cost cX0_cost 3 (some .int) :: ([.fieldLink RX0 9 "RoleMiner" "granted" "[I", .fieldLink RX0 19 "RoleMiner" "roleCost" "I", .fieldLink RX0 38 "RoleMiner" "roleCount" "I", .fieldLink RX0 23 "RoleMiner" "exceptionCost" "I", .methodLink RX0 159 yX0_joinedRoles, .instanceMethod yX0_joinedRoles, .selects RX0 yX0_joinedRoles yX0_joinedRoles, .initialized RX0, .code yX0_joinedRoles cX0_joinedRoles 4 (some .int), .fieldLink RX0 35 "RoleMiner" "roleSets" "[I", .methodLink RX0 156 yX0_holds, .instanceMethod yX0_holds, .selects RX0 yX0_holds yX0_holds, .code yX0_holds cX0_holds 3 (some .boolean), .methodLink RX0 92 yJ6_bitCount_0f7a4, .static yJ6_bitCount_0f7a4, .initialized RJ6, .code yJ6_bitCount_0f7a4 cJ6_bitCount_0f7a4 1 (some .int), .constant RJ6 265 (1431655765), .constant RJ6 266 (858993459), .constant RJ6 267 (252645135)] ++ wsX00)
def wsX0_isRisky : List Cond := .code yX0_isRisky cX0_isRisky 4 (some .boolean) :: ([.classLink RX0 67 "java/lang/IndexOutOfBoundsException", .initialized "java/lang/IndexOutOfBoundsException", .fieldLink RX0 38 "RoleMiner" "roleCount" "I", .fieldLink RX0 35 "RoleMiner" "roleSets" "[I", .methodLink RX0 162 yX0_isProper, .instanceMethod yX0_isProper, .selects RX0 yX0_isProper yX0_isProper, .initialized RX0, .code yX0_isProper cX0_isProper 3 (some .boolean), .fieldLink RX0 16 "RoleMiner" "opposed" "[I", .methodLink RX0 74 yX0_has, .static yX0_has, .code yX0_has cX0_has 2 (some .boolean), .methodLink RX0 149 yX0_holdersOf, .instanceMethod yX0_holdersOf, .selects RX0 yX0_holdersOf yX0_holdersOf, .code yX0_holdersOf cX0_holdersOf 4 (some .int), .methodLink RX0 156 yX0_holds, .instanceMethod yX0_holds, .selects RX0 yX0_holds yX0_holds, .code yX0_holds cX0_holds 3 (some .boolean), .fieldLink RX0 9 "RoleMiner" "granted" "[I"] ++ wsX00 ++ (vx_atS RX0 71 "java/lang/IndexOutOfBoundsException" ["java/lang/RuntimeException", "java/lang/Exception"]).filter goodWord)
def wsX1_init : List Cond := .code yX1_init cX1_init 1 none :: ([.methodLink RX1 1 objectInit, .instanceMethod objectInit, .code objectInit ⟨#[0xb1]⟩ 1 none, .arrayClass .int, .fieldLink RX1 7 "RoleMinerModel" "has" "[I", .fieldLink RX1 13 "RoleMinerModel" "since" "[I", .fieldLink RX1 16 "RoleMinerModel" "against" "[I", .fieldLink RX1 19 "RoleMinerModel" "laid" "[I", .fieldLink RX1 22 "RoleMinerModel" "found" "[I", .fieldLink RX1 25 "RoleMinerModel" "common" "[I", .fieldLink RX1 28 "RoleMinerModel" "cover" "[I", .fieldLink RX1 31 "RoleMinerModel" "taken" "[I", .fieldLink RX1 34 "RoleMinerModel" "roleCost" "I", .fieldLink RX1 38 "RoleMinerModel" "exceptionCost" "I", .fieldLink RX1 41 "RoleMinerModel" "support" "I", .fieldLink RX1 44 "RoleMinerModel" "period" "I"] ++ wsX10)
def wsX1_thrown : List Cond := .code yX1_thrown cX1_thrown 1 (some .int) :: ([.fieldLink RX1 47 "RoleMinerModel" "thrown" "I"] ++ wsX10)
def wsX1_holds : List Cond := .code yX1_holds cX1_holds 2 (some .boolean) :: ([.fieldLink RX1 47 "RoleMinerModel" "thrown" "I"] ++ wsX10)
def wsX1_plain : List Cond := .code yX1_plain cX1_plain 2 (some .int) :: ([.fieldLink RX1 47 "RoleMinerModel" "thrown" "I"] ++ wsX10)
def wsX1_between : List Cond := .code yX1_between cX1_between 4 (some .boolean) :: ([])
def wsX1_isUser : List Cond := .code yX1_isUser cX1_isUser 2 (some .boolean) :: ([.methodLink RX1 50 yX1_between, .instanceMethod yX1_between, .selects RX1 yX1_between yX1_between, .initialized RX1, .code yX1_between cX1_between 4 (some .boolean)])
def wsX1_isPermission : List Cond := .code yX1_isPermission cX1_isPermission 2 (some .boolean) :: ([.methodLink RX1 50 yX1_between, .instanceMethod yX1_between, .selects RX1 yX1_between yX1_between, .initialized RX1, .code yX1_between cX1_between 4 (some .boolean)])
def wsX1_size : List Cond := .code yX1_size cX1_size 4 (some .int) :: ([])
def wsX1_isIn : List Cond := .code yX1_isIn cX1_isIn 3 (some .boolean) :: ([])
def wsX1_isWithin : List Cond := .code yX1_isWithin cX1_isWithin 3 (some .boolean) :: ([.fieldLink RX1 7 "RoleMinerModel" "has" "[I"] ++ wsX10)
def wsX1_isProper : List Cond := .code yX1_isProper cX1_isProper 3 (some .boolean) :: ([.fieldLink RX1 16 "RoleMinerModel" "against" "[I", .methodLink RX1 54 yX1_isIn, .instanceMethod yX1_isIn, .selects RX1 yX1_isIn yX1_isIn, .initialized RX1, .code yX1_isIn cX1_isIn 3 (some .boolean)] ++ wsX10)
def wsX1_whoHas : List Cond := .code yX1_whoHas cX1_whoHas 4 (some .int) :: ([.methodLink RX1 58 yX1_isWithin, .instanceMethod yX1_isWithin, .selects RX1 yX1_isWithin yX1_isWithin, .initialized RX1, .code yX1_isWithin cX1_isWithin 3 (some .boolean), .fieldLink RX1 7 "RoleMinerModel" "has" "[I"] ++ wsX10)
def wsX1_give : List Cond := .code yX1_give cX1_give 3 none :: ([.fieldLink RX1 7 "RoleMinerModel" "has" "[I", .fieldLink RX1 13 "RoleMinerModel" "since" "[I", .fieldLink RX1 61 "RoleMinerModel" "time" "I"] ++ wsX10)
def wsX1_grant_r1 : List Cond := [Cond.fieldLink RX1 7 "RoleMinerModel" "has" "[I", Cond.methodLink RX1 64 yX1_isUser, Cond.instanceMethod yX1_isUser, Cond.selects RX1 yX1_isUser yX1_isUser, Cond.initialized RX1, Cond.code yX1_isUser cX1_isUser 2 (some .boolean), Cond.methodLink RX1 50 yX1_between, Cond.instanceMethod yX1_between, Cond.selects RX1 yX1_between yX1_between, Cond.code yX1_between cX1_between 4 (some .boolean), Cond.methodLink RX1 68 yX1_isPermission, Cond.instanceMethod yX1_isPermission, Cond.selects RX1 yX1_isPermission yX1_isPermission, Cond.code yX1_isPermission cX1_isPermission 2 (some .boolean), Cond.methodLink RX1 71 yX1_holds, Cond.instanceMethod yX1_holds, Cond.selects RX1 yX1_holds yX1_holds, Cond.code yX1_holds cX1_holds 2 (some .boolean), Cond.fieldLink RX1 47 "RoleMinerModel" "thrown" "I", Cond.methodLink RX1 54 yX1_isIn, Cond.instanceMethod yX1_isIn, Cond.selects RX1 yX1_isIn yX1_isIn, Cond.code yX1_isIn cX1_isIn 3 (some .boolean), Cond.methodLink RX1 74 yX1_give]
def wsX1_grant_r2 : List Cond := [Cond.instanceMethod yX1_give, Cond.selects RX1 yX1_give yX1_give, Cond.code yX1_give cX1_give 3 none, Cond.fieldLink RX1 13 "RoleMinerModel" "since" "[I", Cond.fieldLink RX1 61 "RoleMinerModel" "time" "I"]
def wsX1_grant : List Cond := .code yX1_grant cX1_grant 3 (some .boolean) :: ((wsX1_grant_r1 ++ wsX1_grant_r2) ++ wsX10)
def wsX1_revoke : List Cond := .code yX1_revoke cX1_revoke 4 (some .boolean) :: ([.fieldLink RX1 7 "RoleMinerModel" "has" "[I", .methodLink RX1 64 yX1_isUser, .instanceMethod yX1_isUser, .selects RX1 yX1_isUser yX1_isUser, .initialized RX1, .code yX1_isUser cX1_isUser 2 (some .boolean), .methodLink RX1 50 yX1_between, .instanceMethod yX1_between, .selects RX1 yX1_between yX1_between, .code yX1_between cX1_between 4 (some .boolean), .methodLink RX1 68 yX1_isPermission, .instanceMethod yX1_isPermission, .selects RX1 yX1_isPermission yX1_isPermission, .code yX1_isPermission cX1_isPermission 2 (some .boolean), .methodLink RX1 71 yX1_holds, .instanceMethod yX1_holds, .selects RX1 yX1_holds yX1_holds, .code yX1_holds cX1_holds 2 (some .boolean), .fieldLink RX1 47 "RoleMinerModel" "thrown" "I", .methodLink RX1 54 yX1_isIn, .instanceMethod yX1_isIn, .selects RX1 yX1_isIn yX1_isIn, .code yX1_isIn cX1_isIn 3 (some .boolean)] ++ wsX10)
def wsX1_setGrants_r1 : List Cond := [Cond.fieldLink RX1 7 "RoleMinerModel" "has" "[I", Cond.methodLink RX1 64 yX1_isUser, Cond.instanceMethod yX1_isUser, Cond.selects RX1 yX1_isUser yX1_isUser, Cond.initialized RX1, Cond.code yX1_isUser cX1_isUser 2 (some .boolean), Cond.methodLink RX1 50 yX1_between, Cond.instanceMethod yX1_between, Cond.selects RX1 yX1_between yX1_between, Cond.code yX1_between cX1_between 4 (some .boolean), Cond.methodLink RX1 71 yX1_holds, Cond.instanceMethod yX1_holds, Cond.selects RX1 yX1_holds yX1_holds, Cond.code yX1_holds cX1_holds 2 (some .boolean), Cond.fieldLink RX1 47 "RoleMinerModel" "thrown" "I", Cond.methodLink RX1 78 yX1_size, Cond.instanceMethod yX1_size, Cond.selects RX1 yX1_size yX1_size, Cond.code yX1_size cX1_size 4 (some .int), Cond.methodLink RX1 54 yX1_isIn, Cond.instanceMethod yX1_isIn, Cond.selects RX1 yX1_isIn yX1_isIn, Cond.code yX1_isIn cX1_isIn 3 (some .boolean), Cond.methodLink RX1 74 yX1_give]
def wsX1_setGrants_r2 : List Cond := [Cond.instanceMethod yX1_give, Cond.selects RX1 yX1_give yX1_give, Cond.code yX1_give cX1_give 3 none, Cond.fieldLink RX1 13 "RoleMinerModel" "since" "[I", Cond.fieldLink RX1 61 "RoleMinerModel" "time" "I"]
def wsX1_setGrants : List Cond := .code yX1_setGrants cX1_setGrants 5 (some .int) :: ((wsX1_setGrants_r1 ++ wsX1_setGrants_r2) ++ wsX10)
def wsX1_setConflict : List Cond := .code yX1_setConflict cX1_setConflict 5 (some .boolean) :: ([.fieldLink RX1 16 "RoleMinerModel" "against" "[I", .methodLink RX1 68 yX1_isPermission, .instanceMethod yX1_isPermission, .selects RX1 yX1_isPermission yX1_isPermission, .initialized RX1, .code yX1_isPermission cX1_isPermission 2 (some .boolean), .methodLink RX1 50 yX1_between, .instanceMethod yX1_between, .selects RX1 yX1_between yX1_between, .code yX1_between cX1_between 4 (some .boolean), .methodLink RX1 71 yX1_holds, .instanceMethod yX1_holds, .selects RX1 yX1_holds yX1_holds, .code yX1_holds cX1_holds 2 (some .boolean), .fieldLink RX1 47 "RoleMinerModel" "thrown" "I", .methodLink RX1 54 yX1_isIn, .instanceMethod yX1_isIn, .selects RX1 yX1_isIn yX1_isIn, .code yX1_isIn cX1_isIn 3 (some .boolean)] ++ wsX10)
def wsX1_setCosts : List Cond := .code yX1_setCosts cX1_setCosts 3 none :: ([.fieldLink RX1 34 "RoleMinerModel" "roleCost" "I", .fieldLink RX1 38 "RoleMinerModel" "exceptionCost" "I", .methodLink RX1 50 yX1_between, .instanceMethod yX1_between, .selects RX1 yX1_between yX1_between, .initialized RX1, .code yX1_between cX1_between 4 (some .boolean), .methodLink RX1 71 yX1_holds, .instanceMethod yX1_holds, .selects RX1 yX1_holds yX1_holds, .code yX1_holds cX1_holds 2 (some .boolean), .fieldLink RX1 47 "RoleMinerModel" "thrown" "I"] ++ wsX10)
def wsX1_setSupport : List Cond := .code yX1_setSupport cX1_setSupport 3 (some .int) :: ([.fieldLink RX1 41 "RoleMinerModel" "support" "I", .methodLink RX1 50 yX1_between, .instanceMethod yX1_between, .selects RX1 yX1_between yX1_between, .initialized RX1, .code yX1_between cX1_between 4 (some .boolean), .methodLink RX1 71 yX1_holds, .instanceMethod yX1_holds, .selects RX1 yX1_holds yX1_holds, .code yX1_holds cX1_holds 2 (some .boolean), .fieldLink RX1 47 "RoleMinerModel" "thrown" "I"] ++ wsX10)
def wsX1_setPeriod : List Cond := .code yX1_setPeriod cX1_setPeriod 3 (some .int) :: ([.fieldLink RX1 44 "RoleMinerModel" "period" "I", .methodLink RX1 50 yX1_between, .instanceMethod yX1_between, .selects RX1 yX1_between yX1_between, .initialized RX1, .code yX1_between cX1_between 4 (some .boolean), .methodLink RX1 71 yX1_holds, .instanceMethod yX1_holds, .selects RX1 yX1_holds yX1_holds, .code yX1_holds cX1_holds 2 (some .boolean), .fieldLink RX1 47 "RoleMinerModel" "thrown" "I"] ++ wsX10)
def wsX1_review_r1 : List Cond := [Cond.fieldLink RX1 7 "RoleMinerModel" "has" "[I", Cond.fieldLink RX1 61 "RoleMinerModel" "time" "I", Cond.fieldLink RX1 13 "RoleMinerModel" "since" "[I", Cond.methodLink RX1 64 yX1_isUser, Cond.instanceMethod yX1_isUser, Cond.selects RX1 yX1_isUser yX1_isUser, Cond.initialized RX1, Cond.code yX1_isUser cX1_isUser 2 (some .boolean), Cond.methodLink RX1 50 yX1_between, Cond.instanceMethod yX1_between, Cond.selects RX1 yX1_between yX1_between, Cond.code yX1_between cX1_between 4 (some .boolean), Cond.methodLink RX1 68 yX1_isPermission, Cond.instanceMethod yX1_isPermission, Cond.selects RX1 yX1_isPermission yX1_isPermission, Cond.code yX1_isPermission cX1_isPermission 2 (some .boolean), Cond.methodLink RX1 54 yX1_isIn, Cond.instanceMethod yX1_isIn, Cond.selects RX1 yX1_isIn yX1_isIn, Cond.code yX1_isIn cX1_isIn 3 (some .boolean), Cond.methodLink RX1 71 yX1_holds, Cond.instanceMethod yX1_holds, Cond.selects RX1 yX1_holds yX1_holds, Cond.code yX1_holds cX1_holds 2 (some .boolean)]
def wsX1_review_r2 : List Cond := [Cond.fieldLink RX1 47 "RoleMinerModel" "thrown" "I"]
def wsX1_review : List Cond := .code yX1_review cX1_review 4 (some .int) :: ((wsX1_review_r1 ++ wsX1_review_r2) ++ wsX10)
def wsX1_old : List Cond := .code yX1_old cX1_old 5 (some .int) :: ([.fieldLink RX1 7 "RoleMinerModel" "has" "[I", .fieldLink RX1 13 "RoleMinerModel" "since" "[I", .fieldLink RX1 44 "RoleMinerModel" "period" "I", .methodLink RX1 54 yX1_isIn, .instanceMethod yX1_isIn, .selects RX1 yX1_isIn yX1_isIn, .initialized RX1, .code yX1_isIn cX1_isIn 3 (some .boolean)] ++ wsX10)
def wsX1_nextQuarter : List Cond := .code yX1_nextQuarter cX1_nextQuarter 4 (some .int) :: ([.fieldLink RX1 61 "RoleMinerModel" "time" "I", .fieldLink RX1 7 "RoleMinerModel" "has" "[I", .methodLink RX1 71 yX1_holds, .instanceMethod yX1_holds, .selects RX1 yX1_holds yX1_holds, .initialized RX1, .code yX1_holds cX1_holds 2 (some .boolean), .fieldLink RX1 47 "RoleMinerModel" "thrown" "I", .methodLink RX1 82 yX1_old, .instanceMethod yX1_old, .selects RX1 yX1_old yX1_old, .code yX1_old cX1_old 5 (some .int), .fieldLink RX1 13 "RoleMinerModel" "since" "[I", .fieldLink RX1 44 "RoleMinerModel" "period" "I", .methodLink RX1 54 yX1_isIn, .instanceMethod yX1_isIn, .selects RX1 yX1_isIn yX1_isIn, .code yX1_isIn cX1_isIn 3 (some .boolean), .methodLink RX1 78 yX1_size, .instanceMethod yX1_size, .selects RX1 yX1_size yX1_size, .code yX1_size cX1_size 4 (some .int)] ++ wsX10)
def wsX1_find_r1 : List Cond := [Cond.fieldLink RX1 25 "RoleMinerModel" "common" "[I", Cond.fieldLink RX1 7 "RoleMinerModel" "has" "[I", Cond.fieldLink RX1 86 "RoleMinerModel" "number" "I", Cond.fieldLink RX1 41 "RoleMinerModel" "support" "I", Cond.fieldLink RX1 22 "RoleMinerModel" "found" "[I", Cond.methodLink RX1 54 yX1_isIn, Cond.instanceMethod yX1_isIn, Cond.selects RX1 yX1_isIn yX1_isIn, Cond.initialized RX1, Cond.code yX1_isIn cX1_isIn 3 (some .boolean), Cond.methodLink RX1 89 yX1_isProper, Cond.instanceMethod yX1_isProper, Cond.selects RX1 yX1_isProper yX1_isProper, Cond.code yX1_isProper cX1_isProper 3 (some .boolean), Cond.fieldLink RX1 16 "RoleMinerModel" "against" "[I", Cond.methodLink RX1 92 yX1_whoHas, Cond.instanceMethod yX1_whoHas, Cond.selects RX1 yX1_whoHas yX1_whoHas, Cond.code yX1_whoHas cX1_whoHas 4 (some .int), Cond.methodLink RX1 58 yX1_isWithin, Cond.instanceMethod yX1_isWithin, Cond.selects RX1 yX1_isWithin yX1_isWithin, Cond.code yX1_isWithin cX1_isWithin 3 (some .boolean), Cond.methodLink RX1 78 yX1_size]
def wsX1_find_r2 : List Cond := [Cond.instanceMethod yX1_size, Cond.selects RX1 yX1_size yX1_size, Cond.code yX1_size cX1_size 4 (some .int)]
def wsX1_find : List Cond := .code yX1_find cX1_find 4 none :: ((wsX1_find_r1 ++ wsX1_find_r2) ++ wsX10)
def wsX1_uncover : List Cond := .code yX1_uncover cX1_uncover 2 none :: ([.fieldLink RX1 28 "RoleMinerModel" "cover" "[I"] ++ wsX10)
def wsX1_add : List Cond := .code yX1_add cX1_add 3 none :: ([.fieldLink RX1 28 "RoleMinerModel" "cover" "[I", .methodLink RX1 58 yX1_isWithin, .instanceMethod yX1_isWithin, .selects RX1 yX1_isWithin yX1_isWithin, .initialized RX1, .code yX1_isWithin cX1_isWithin 3 (some .boolean), .fieldLink RX1 7 "RoleMinerModel" "has" "[I"] ++ wsX10)
def wsX1_uncovered : List Cond := .code yX1_uncovered cX1_uncovered 3 (some .int) :: ([.fieldLink RX1 7 "RoleMinerModel" "has" "[I", .fieldLink RX1 28 "RoleMinerModel" "cover" "[I", .methodLink RX1 78 yX1_size, .instanceMethod yX1_size, .selects RX1 yX1_size yX1_size, .initialized RX1, .code yX1_size cX1_size 4 (some .int)] ++ wsX10)
def wsX1_gain : List Cond := .code yX1_gain cX1_gain 4 (some .int) :: ([.fieldLink RX1 28 "RoleMinerModel" "cover" "[I", .methodLink RX1 58 yX1_isWithin, .instanceMethod yX1_isWithin, .selects RX1 yX1_isWithin yX1_isWithin, .initialized RX1, .code yX1_isWithin cX1_isWithin 3 (some .boolean), .fieldLink RX1 7 "RoleMinerModel" "has" "[I", .methodLink RX1 78 yX1_size, .instanceMethod yX1_size, .selects RX1 yX1_size yX1_size, .code yX1_size cX1_size 4 (some .int)] ++ wsX10)
def wsX1_price_r1 : List Cond := [Cond.fieldLink RX1 86 "RoleMinerModel" "number" "I", Cond.fieldLink RX1 22 "RoleMinerModel" "found" "[I", Cond.fieldLink RX1 34 "RoleMinerModel" "roleCost" "I", Cond.fieldLink RX1 38 "RoleMinerModel" "exceptionCost" "I", Cond.methodLink RX1 95 yX1_uncover, Cond.instanceMethod yX1_uncover, Cond.selects RX1 yX1_uncover yX1_uncover, Cond.initialized RX1, Cond.code yX1_uncover cX1_uncover 2 none, Cond.fieldLink RX1 28 "RoleMinerModel" "cover" "[I", Cond.methodLink RX1 54 yX1_isIn, Cond.instanceMethod yX1_isIn, Cond.selects RX1 yX1_isIn yX1_isIn, Cond.code yX1_isIn cX1_isIn 3 (some .boolean), Cond.methodLink RX1 98 yX1_add, Cond.instanceMethod yX1_add, Cond.selects RX1 yX1_add yX1_add, Cond.code yX1_add cX1_add 3 none, Cond.methodLink RX1 58 yX1_isWithin, Cond.instanceMethod yX1_isWithin, Cond.selects RX1 yX1_isWithin yX1_isWithin, Cond.code yX1_isWithin cX1_isWithin 3 (some .boolean), Cond.fieldLink RX1 7 "RoleMinerModel" "has" "[I", Cond.methodLink RX1 78 yX1_size]
def wsX1_price_r2 : List Cond := [Cond.instanceMethod yX1_size, Cond.selects RX1 yX1_size yX1_size, Cond.code yX1_size cX1_size 4 (some .int), Cond.methodLink RX1 102 yX1_uncovered, Cond.instanceMethod yX1_uncovered, Cond.selects RX1 yX1_uncovered yX1_uncovered, Cond.code yX1_uncovered cX1_uncovered 3 (some .int)]
def wsX1_price : List Cond := .code yX1_price cX1_price 3 (some .int) :: ((wsX1_price_r1 ++ wsX1_price_r2) ++ wsX10)
def wsX1_mineGreedily_r1 : List Cond := [Cond.fieldLink RX1 47 "RoleMinerModel" "thrown" "I", Cond.fieldLink RX1 86 "RoleMinerModel" "number" "I", Cond.fieldLink RX1 31 "RoleMinerModel" "taken" "[I", Cond.fieldLink RX1 38 "RoleMinerModel" "exceptionCost" "I", Cond.fieldLink RX1 22 "RoleMinerModel" "found" "[I", Cond.fieldLink RX1 34 "RoleMinerModel" "roleCost" "I", Cond.fieldLink RX1 112 "RoleMinerModel" "many" "I", Cond.fieldLink RX1 19 "RoleMinerModel" "laid" "[I", Cond.methodLink RX1 106 yX1_find, Cond.instanceMethod yX1_find, Cond.selects RX1 yX1_find yX1_find, Cond.initialized RX1, Cond.code yX1_find cX1_find 4 none, Cond.fieldLink RX1 25 "RoleMinerModel" "common" "[I", Cond.fieldLink RX1 7 "RoleMinerModel" "has" "[I", Cond.fieldLink RX1 41 "RoleMinerModel" "support" "I", Cond.methodLink RX1 54 yX1_isIn, Cond.instanceMethod yX1_isIn, Cond.selects RX1 yX1_isIn yX1_isIn, Cond.code yX1_isIn cX1_isIn 3 (some .boolean), Cond.methodLink RX1 89 yX1_isProper, Cond.instanceMethod yX1_isProper, Cond.selects RX1 yX1_isProper yX1_isProper, Cond.code yX1_isProper cX1_isProper 3 (some .boolean)]
def wsX1_mineGreedily_r2 : List Cond := [Cond.fieldLink RX1 16 "RoleMinerModel" "against" "[I", Cond.methodLink RX1 92 yX1_whoHas, Cond.instanceMethod yX1_whoHas, Cond.selects RX1 yX1_whoHas yX1_whoHas, Cond.code yX1_whoHas cX1_whoHas 4 (some .int), Cond.methodLink RX1 58 yX1_isWithin, Cond.instanceMethod yX1_isWithin, Cond.selects RX1 yX1_isWithin yX1_isWithin, Cond.code yX1_isWithin cX1_isWithin 3 (some .boolean), Cond.methodLink RX1 78 yX1_size, Cond.instanceMethod yX1_size, Cond.selects RX1 yX1_size yX1_size, Cond.code yX1_size cX1_size 4 (some .int), Cond.methodLink RX1 95 yX1_uncover, Cond.instanceMethod yX1_uncover, Cond.selects RX1 yX1_uncover yX1_uncover, Cond.code yX1_uncover cX1_uncover 2 none, Cond.fieldLink RX1 28 "RoleMinerModel" "cover" "[I", Cond.methodLink RX1 109 yX1_gain, Cond.instanceMethod yX1_gain, Cond.selects RX1 yX1_gain yX1_gain, Cond.code yX1_gain cX1_gain 4 (some .int), Cond.methodLink RX1 98 yX1_add, Cond.instanceMethod yX1_add]
def wsX1_mineGreedily_r3 : List Cond := [Cond.selects RX1 yX1_add yX1_add, Cond.code yX1_add cX1_add 3 none, Cond.methodLink RX1 102 yX1_uncovered, Cond.instanceMethod yX1_uncovered, Cond.selects RX1 yX1_uncovered yX1_uncovered, Cond.code yX1_uncovered cX1_uncovered 3 (some .int)]
def wsX1_mineGreedily : List Cond := .code yX1_mineGreedily cX1_mineGreedily 6 (some .int) :: ((wsX1_mineGreedily_r1 ++ (wsX1_mineGreedily_r2 ++ wsX1_mineGreedily_r3)) ++ wsX10)
def wsX1_precedes : List Cond := .code yX1_precedes cX1_precedes 6 (some .boolean) :: ([.methodLink RX1 78 yX1_size, .instanceMethod yX1_size, .selects RX1 yX1_size yX1_size, .initialized RX1, .code yX1_size cX1_size 4 (some .int)])
def wsX1_best_r1 : List Cond := [Cond.fieldLink RX1 86 "RoleMinerModel" "number" "I", Cond.methodLink RX1 115 yX1_price, Cond.instanceMethod yX1_price, Cond.selects RX1 yX1_price yX1_price, Cond.initialized RX1, Cond.code yX1_price cX1_price 3 (some .int), Cond.fieldLink RX1 22 "RoleMinerModel" "found" "[I", Cond.fieldLink RX1 34 "RoleMinerModel" "roleCost" "I", Cond.fieldLink RX1 38 "RoleMinerModel" "exceptionCost" "I", Cond.methodLink RX1 95 yX1_uncover, Cond.instanceMethod yX1_uncover, Cond.selects RX1 yX1_uncover yX1_uncover, Cond.code yX1_uncover cX1_uncover 2 none, Cond.fieldLink RX1 28 "RoleMinerModel" "cover" "[I", Cond.methodLink RX1 54 yX1_isIn, Cond.instanceMethod yX1_isIn, Cond.selects RX1 yX1_isIn yX1_isIn, Cond.code yX1_isIn cX1_isIn 3 (some .boolean), Cond.methodLink RX1 98 yX1_add, Cond.instanceMethod yX1_add, Cond.selects RX1 yX1_add yX1_add, Cond.code yX1_add cX1_add 3 none, Cond.methodLink RX1 58 yX1_isWithin, Cond.instanceMethod yX1_isWithin]
def wsX1_best_r2 : List Cond := [Cond.selects RX1 yX1_isWithin yX1_isWithin, Cond.code yX1_isWithin cX1_isWithin 3 (some .boolean), Cond.fieldLink RX1 7 "RoleMinerModel" "has" "[I", Cond.methodLink RX1 78 yX1_size, Cond.instanceMethod yX1_size, Cond.selects RX1 yX1_size yX1_size, Cond.code yX1_size cX1_size 4 (some .int), Cond.methodLink RX1 102 yX1_uncovered, Cond.instanceMethod yX1_uncovered, Cond.selects RX1 yX1_uncovered yX1_uncovered, Cond.code yX1_uncovered cX1_uncovered 3 (some .int), Cond.methodLink RX1 118 yX1_precedes, Cond.instanceMethod yX1_precedes, Cond.selects RX1 yX1_precedes yX1_precedes, Cond.code yX1_precedes cX1_precedes 6 (some .boolean)]
def wsX1_best : List Cond := .code yX1_best cX1_best 5 (some .int) :: ((wsX1_best_r1 ++ wsX1_best_r2) ++ wsX10)
def wsX1_isTooMuch_r1 : List Cond := [Cond.fieldLink RX1 86 "RoleMinerModel" "number" "I", Cond.methodLink RX1 106 yX1_find, Cond.instanceMethod yX1_find, Cond.selects RX1 yX1_find yX1_find, Cond.initialized RX1, Cond.code yX1_find cX1_find 4 none, Cond.fieldLink RX1 25 "RoleMinerModel" "common" "[I", Cond.fieldLink RX1 7 "RoleMinerModel" "has" "[I", Cond.fieldLink RX1 41 "RoleMinerModel" "support" "I", Cond.fieldLink RX1 22 "RoleMinerModel" "found" "[I", Cond.methodLink RX1 54 yX1_isIn, Cond.instanceMethod yX1_isIn, Cond.selects RX1 yX1_isIn yX1_isIn, Cond.code yX1_isIn cX1_isIn 3 (some .boolean), Cond.methodLink RX1 89 yX1_isProper, Cond.instanceMethod yX1_isProper, Cond.selects RX1 yX1_isProper yX1_isProper, Cond.code yX1_isProper cX1_isProper 3 (some .boolean), Cond.fieldLink RX1 16 "RoleMinerModel" "against" "[I", Cond.methodLink RX1 92 yX1_whoHas, Cond.instanceMethod yX1_whoHas, Cond.selects RX1 yX1_whoHas yX1_whoHas, Cond.code yX1_whoHas cX1_whoHas 4 (some .int), Cond.methodLink RX1 58 yX1_isWithin]
def wsX1_isTooMuch_r2 : List Cond := [Cond.instanceMethod yX1_isWithin, Cond.selects RX1 yX1_isWithin yX1_isWithin, Cond.code yX1_isWithin cX1_isWithin 3 (some .boolean), Cond.methodLink RX1 78 yX1_size, Cond.instanceMethod yX1_size, Cond.selects RX1 yX1_size yX1_size, Cond.code yX1_size cX1_size 4 (some .int)]
def wsX1_isTooMuch : List Cond := .code yX1_isTooMuch cX1_isTooMuch 1 (some .boolean) :: ((wsX1_isTooMuch_r1 ++ wsX1_isTooMuch_r2) ++ wsX10)
def wsX1_mineBest_r1 : List Cond := [Cond.fieldLink RX1 112 "RoleMinerModel" "many" "I", Cond.fieldLink RX1 86 "RoleMinerModel" "number" "I", Cond.fieldLink RX1 19 "RoleMinerModel" "laid" "[I", Cond.fieldLink RX1 22 "RoleMinerModel" "found" "[I", Cond.methodLink RX1 121 yX1_isTooMuch, Cond.instanceMethod yX1_isTooMuch, Cond.selects RX1 yX1_isTooMuch yX1_isTooMuch, Cond.initialized RX1, Cond.code yX1_isTooMuch cX1_isTooMuch 1 (some .boolean), Cond.methodLink RX1 106 yX1_find, Cond.instanceMethod yX1_find, Cond.selects RX1 yX1_find yX1_find, Cond.code yX1_find cX1_find 4 none, Cond.fieldLink RX1 25 "RoleMinerModel" "common" "[I", Cond.fieldLink RX1 7 "RoleMinerModel" "has" "[I", Cond.fieldLink RX1 41 "RoleMinerModel" "support" "I", Cond.methodLink RX1 54 yX1_isIn, Cond.instanceMethod yX1_isIn, Cond.selects RX1 yX1_isIn yX1_isIn, Cond.code yX1_isIn cX1_isIn 3 (some .boolean), Cond.methodLink RX1 89 yX1_isProper, Cond.instanceMethod yX1_isProper, Cond.selects RX1 yX1_isProper yX1_isProper, Cond.code yX1_isProper cX1_isProper 3 (some .boolean)]
def wsX1_mineBest_r2 : List Cond := [Cond.fieldLink RX1 16 "RoleMinerModel" "against" "[I", Cond.methodLink RX1 92 yX1_whoHas, Cond.instanceMethod yX1_whoHas, Cond.selects RX1 yX1_whoHas yX1_whoHas, Cond.code yX1_whoHas cX1_whoHas 4 (some .int), Cond.methodLink RX1 58 yX1_isWithin, Cond.instanceMethod yX1_isWithin, Cond.selects RX1 yX1_isWithin yX1_isWithin, Cond.code yX1_isWithin cX1_isWithin 3 (some .boolean), Cond.methodLink RX1 78 yX1_size, Cond.instanceMethod yX1_size, Cond.selects RX1 yX1_size yX1_size, Cond.code yX1_size cX1_size 4 (some .int), Cond.methodLink RX1 71 yX1_holds, Cond.instanceMethod yX1_holds, Cond.selects RX1 yX1_holds yX1_holds, Cond.code yX1_holds cX1_holds 2 (some .boolean), Cond.fieldLink RX1 47 "RoleMinerModel" "thrown" "I", Cond.methodLink RX1 125 yX1_best, Cond.instanceMethod yX1_best, Cond.selects RX1 yX1_best yX1_best, Cond.code yX1_best cX1_best 5 (some .int), Cond.methodLink RX1 115 yX1_price, Cond.instanceMethod yX1_price]
def wsX1_mineBest_r3 : List Cond := [Cond.selects RX1 yX1_price yX1_price, Cond.code yX1_price cX1_price 3 (some .int), Cond.fieldLink RX1 34 "RoleMinerModel" "roleCost" "I", Cond.fieldLink RX1 38 "RoleMinerModel" "exceptionCost" "I", Cond.methodLink RX1 95 yX1_uncover, Cond.instanceMethod yX1_uncover, Cond.selects RX1 yX1_uncover yX1_uncover, Cond.code yX1_uncover cX1_uncover 2 none, Cond.fieldLink RX1 28 "RoleMinerModel" "cover" "[I", Cond.methodLink RX1 98 yX1_add, Cond.instanceMethod yX1_add, Cond.selects RX1 yX1_add yX1_add, Cond.code yX1_add cX1_add 3 none, Cond.methodLink RX1 102 yX1_uncovered, Cond.instanceMethod yX1_uncovered, Cond.selects RX1 yX1_uncovered yX1_uncovered, Cond.code yX1_uncovered cX1_uncovered 3 (some .int), Cond.methodLink RX1 118 yX1_precedes, Cond.instanceMethod yX1_precedes, Cond.selects RX1 yX1_precedes yX1_precedes, Cond.code yX1_precedes cX1_precedes 6 (some .boolean)]
def wsX1_mineBest : List Cond := .code yX1_mineBest cX1_mineBest 3 (some .int) :: ((wsX1_mineBest_r1 ++ (wsX1_mineBest_r2 ++ wsX1_mineBest_r3)) ++ wsX10)
def wsX1_dropRoles : List Cond := .code yX1_dropRoles cX1_dropRoles 2 (some .int) :: ([.fieldLink RX1 112 "RoleMinerModel" "many" "I", .methodLink RX1 128 yX1_plain, .instanceMethod yX1_plain, .selects RX1 yX1_plain yX1_plain, .initialized RX1, .code yX1_plain cX1_plain 2 (some .int), .fieldLink RX1 47 "RoleMinerModel" "thrown" "I"] ++ wsX10)
def wsX1_permissions : List Cond := .code yX1_permissions cX1_permissions 2 (some .int) :: ([.fieldLink RX1 7 "RoleMinerModel" "has" "[I", .methodLink RX1 64 yX1_isUser, .instanceMethod yX1_isUser, .selects RX1 yX1_isUser yX1_isUser, .initialized RX1, .code yX1_isUser cX1_isUser 2 (some .boolean), .methodLink RX1 50 yX1_between, .instanceMethod yX1_between, .selects RX1 yX1_between yX1_between, .code yX1_between cX1_between 4 (some .boolean), .methodLink RX1 71 yX1_holds, .instanceMethod yX1_holds, .selects RX1 yX1_holds yX1_holds, .code yX1_holds cX1_holds 2 (some .boolean), .fieldLink RX1 47 "RoleMinerModel" "thrown" "I"] ++ wsX10)
def wsX1_grants : List Cond := .code yX1_grants cX1_grants 1 (some .int) :: ([.fieldLink RX1 47 "RoleMinerModel" "thrown" "I", .methodLink RX1 95 yX1_uncover, .instanceMethod yX1_uncover, .selects RX1 yX1_uncover yX1_uncover, .initialized RX1, .code yX1_uncover cX1_uncover 2 none, .fieldLink RX1 28 "RoleMinerModel" "cover" "[I", .methodLink RX1 102 yX1_uncovered, .instanceMethod yX1_uncovered, .selects RX1 yX1_uncovered yX1_uncovered, .code yX1_uncovered cX1_uncovered 3 (some .int), .fieldLink RX1 7 "RoleMinerModel" "has" "[I", .methodLink RX1 78 yX1_size, .instanceMethod yX1_size, .selects RX1 yX1_size yX1_size, .code yX1_size cX1_size 4 (some .int)] ++ wsX10)
def wsX1_violations : List Cond := .code yX1_violations cX1_violations 4 (some .int) :: ([.fieldLink RX1 7 "RoleMinerModel" "has" "[I", .fieldLink RX1 16 "RoleMinerModel" "against" "[I", .methodLink RX1 64 yX1_isUser, .instanceMethod yX1_isUser, .selects RX1 yX1_isUser yX1_isUser, .initialized RX1, .code yX1_isUser cX1_isUser 2 (some .boolean), .methodLink RX1 50 yX1_between, .instanceMethod yX1_between, .selects RX1 yX1_between yX1_between, .code yX1_between cX1_between 4 (some .boolean), .methodLink RX1 71 yX1_holds, .instanceMethod yX1_holds, .selects RX1 yX1_holds yX1_holds, .code yX1_holds cX1_holds 2 (some .boolean), .fieldLink RX1 47 "RoleMinerModel" "thrown" "I", .methodLink RX1 54 yX1_isIn, .instanceMethod yX1_isIn, .selects RX1 yX1_isIn yX1_isIn, .code yX1_isIn cX1_isIn 3 (some .boolean), .methodLink RX1 78 yX1_size, .instanceMethod yX1_size, .selects RX1 yX1_size yX1_size, .code yX1_size cX1_size 4 (some .int)] ++ wsX10)
def wsX1_quarter : List Cond := .code yX1_quarter cX1_quarter 1 (some .int) :: ([.fieldLink RX1 61 "RoleMinerModel" "time" "I", .methodLink RX1 128 yX1_plain, .instanceMethod yX1_plain, .selects RX1 yX1_plain yX1_plain, .initialized RX1, .code yX1_plain cX1_plain 2 (some .int), .fieldLink RX1 47 "RoleMinerModel" "thrown" "I"] ++ wsX10)
def wsX1_due_r1 : List Cond := [Cond.fieldLink RX1 61 "RoleMinerModel" "time" "I", Cond.methodLink RX1 64 yX1_isUser, Cond.instanceMethod yX1_isUser, Cond.selects RX1 yX1_isUser yX1_isUser, Cond.initialized RX1, Cond.code yX1_isUser cX1_isUser 2 (some .boolean), Cond.methodLink RX1 50 yX1_between, Cond.instanceMethod yX1_between, Cond.selects RX1 yX1_between yX1_between, Cond.code yX1_between cX1_between 4 (some .boolean), Cond.methodLink RX1 71 yX1_holds, Cond.instanceMethod yX1_holds, Cond.selects RX1 yX1_holds yX1_holds, Cond.code yX1_holds cX1_holds 2 (some .boolean), Cond.fieldLink RX1 47 "RoleMinerModel" "thrown" "I", Cond.methodLink RX1 82 yX1_old, Cond.instanceMethod yX1_old, Cond.selects RX1 yX1_old yX1_old, Cond.code yX1_old cX1_old 5 (some .int), Cond.fieldLink RX1 7 "RoleMinerModel" "has" "[I", Cond.fieldLink RX1 13 "RoleMinerModel" "since" "[I", Cond.fieldLink RX1 44 "RoleMinerModel" "period" "I", Cond.methodLink RX1 54 yX1_isIn, Cond.instanceMethod yX1_isIn]
def wsX1_due_r2 : List Cond := [Cond.selects RX1 yX1_isIn yX1_isIn, Cond.code yX1_isIn cX1_isIn 3 (some .boolean)]
def wsX1_due : List Cond := .code yX1_due cX1_due 2 (some .int) :: ((wsX1_due_r1 ++ wsX1_due_r2) ++ wsX10)
def wsX1_candidates_r1 : List Cond := [Cond.fieldLink RX1 86 "RoleMinerModel" "number" "I", Cond.methodLink RX1 106 yX1_find, Cond.instanceMethod yX1_find, Cond.selects RX1 yX1_find yX1_find, Cond.initialized RX1, Cond.code yX1_find cX1_find 4 none, Cond.fieldLink RX1 25 "RoleMinerModel" "common" "[I", Cond.fieldLink RX1 7 "RoleMinerModel" "has" "[I", Cond.fieldLink RX1 41 "RoleMinerModel" "support" "I", Cond.fieldLink RX1 22 "RoleMinerModel" "found" "[I", Cond.methodLink RX1 54 yX1_isIn, Cond.instanceMethod yX1_isIn, Cond.selects RX1 yX1_isIn yX1_isIn, Cond.code yX1_isIn cX1_isIn 3 (some .boolean), Cond.methodLink RX1 89 yX1_isProper, Cond.instanceMethod yX1_isProper, Cond.selects RX1 yX1_isProper yX1_isProper, Cond.code yX1_isProper cX1_isProper 3 (some .boolean), Cond.fieldLink RX1 16 "RoleMinerModel" "against" "[I", Cond.methodLink RX1 92 yX1_whoHas, Cond.instanceMethod yX1_whoHas, Cond.selects RX1 yX1_whoHas yX1_whoHas, Cond.code yX1_whoHas cX1_whoHas 4 (some .int), Cond.methodLink RX1 58 yX1_isWithin]
def wsX1_candidates_r2 : List Cond := [Cond.instanceMethod yX1_isWithin, Cond.selects RX1 yX1_isWithin yX1_isWithin, Cond.code yX1_isWithin cX1_isWithin 3 (some .boolean), Cond.methodLink RX1 78 yX1_size, Cond.instanceMethod yX1_size, Cond.selects RX1 yX1_size yX1_size, Cond.code yX1_size cX1_size 4 (some .int), Cond.methodLink RX1 128 yX1_plain, Cond.instanceMethod yX1_plain, Cond.selects RX1 yX1_plain yX1_plain, Cond.code yX1_plain cX1_plain 2 (some .int), Cond.fieldLink RX1 47 "RoleMinerModel" "thrown" "I"]
def wsX1_candidates : List Cond := .code yX1_candidates cX1_candidates 1 (some .int) :: ((wsX1_candidates_r1 ++ wsX1_candidates_r2) ++ wsX10)
def wsX1_candidate_r1 : List Cond := [Cond.fieldLink RX1 86 "RoleMinerModel" "number" "I", Cond.fieldLink RX1 22 "RoleMinerModel" "found" "[I", Cond.methodLink RX1 106 yX1_find, Cond.instanceMethod yX1_find, Cond.selects RX1 yX1_find yX1_find, Cond.initialized RX1, Cond.code yX1_find cX1_find 4 none, Cond.fieldLink RX1 25 "RoleMinerModel" "common" "[I", Cond.fieldLink RX1 7 "RoleMinerModel" "has" "[I", Cond.fieldLink RX1 41 "RoleMinerModel" "support" "I", Cond.methodLink RX1 54 yX1_isIn, Cond.instanceMethod yX1_isIn, Cond.selects RX1 yX1_isIn yX1_isIn, Cond.code yX1_isIn cX1_isIn 3 (some .boolean), Cond.methodLink RX1 89 yX1_isProper, Cond.instanceMethod yX1_isProper, Cond.selects RX1 yX1_isProper yX1_isProper, Cond.code yX1_isProper cX1_isProper 3 (some .boolean), Cond.fieldLink RX1 16 "RoleMinerModel" "against" "[I", Cond.methodLink RX1 92 yX1_whoHas, Cond.instanceMethod yX1_whoHas, Cond.selects RX1 yX1_whoHas yX1_whoHas, Cond.code yX1_whoHas cX1_whoHas 4 (some .int), Cond.methodLink RX1 58 yX1_isWithin]
def wsX1_candidate_r2 : List Cond := [Cond.instanceMethod yX1_isWithin, Cond.selects RX1 yX1_isWithin yX1_isWithin, Cond.code yX1_isWithin cX1_isWithin 3 (some .boolean), Cond.methodLink RX1 78 yX1_size, Cond.instanceMethod yX1_size, Cond.selects RX1 yX1_size yX1_size, Cond.code yX1_size cX1_size 4 (some .int), Cond.methodLink RX1 50 yX1_between, Cond.instanceMethod yX1_between, Cond.selects RX1 yX1_between yX1_between, Cond.code yX1_between cX1_between 4 (some .boolean), Cond.methodLink RX1 71 yX1_holds, Cond.instanceMethod yX1_holds, Cond.selects RX1 yX1_holds yX1_holds, Cond.code yX1_holds cX1_holds 2 (some .boolean), Cond.fieldLink RX1 47 "RoleMinerModel" "thrown" "I"]
def wsX1_candidate : List Cond := .code yX1_candidate cX1_candidate 2 (some .int) :: ((wsX1_candidate_r1 ++ wsX1_candidate_r2) ++ wsX10)
def wsX1_holders : List Cond := .code yX1_holders cX1_holders 2 (some .int) :: ([.methodLink RX1 50 yX1_between, .instanceMethod yX1_between, .selects RX1 yX1_between yX1_between, .initialized RX1, .code yX1_between cX1_between 4 (some .boolean), .methodLink RX1 71 yX1_holds, .instanceMethod yX1_holds, .selects RX1 yX1_holds yX1_holds, .code yX1_holds cX1_holds 2 (some .boolean), .fieldLink RX1 47 "RoleMinerModel" "thrown" "I", .methodLink RX1 92 yX1_whoHas, .instanceMethod yX1_whoHas, .selects RX1 yX1_whoHas yX1_whoHas, .code yX1_whoHas cX1_whoHas 4 (some .int), .methodLink RX1 58 yX1_isWithin, .instanceMethod yX1_isWithin, .selects RX1 yX1_isWithin yX1_isWithin, .code yX1_isWithin cX1_isWithin 3 (some .boolean), .fieldLink RX1 7 "RoleMinerModel" "has" "[I"] ++ wsX10)
def wsX1_costOf_r1 : List Cond := [Cond.fieldLink RX1 86 "RoleMinerModel" "number" "I", Cond.methodLink RX1 121 yX1_isTooMuch, Cond.instanceMethod yX1_isTooMuch, Cond.selects RX1 yX1_isTooMuch yX1_isTooMuch, Cond.initialized RX1, Cond.code yX1_isTooMuch cX1_isTooMuch 1 (some .boolean), Cond.methodLink RX1 106 yX1_find, Cond.instanceMethod yX1_find, Cond.selects RX1 yX1_find yX1_find, Cond.code yX1_find cX1_find 4 none, Cond.fieldLink RX1 25 "RoleMinerModel" "common" "[I", Cond.fieldLink RX1 7 "RoleMinerModel" "has" "[I", Cond.fieldLink RX1 41 "RoleMinerModel" "support" "I", Cond.fieldLink RX1 22 "RoleMinerModel" "found" "[I", Cond.methodLink RX1 54 yX1_isIn, Cond.instanceMethod yX1_isIn, Cond.selects RX1 yX1_isIn yX1_isIn, Cond.code yX1_isIn cX1_isIn 3 (some .boolean), Cond.methodLink RX1 89 yX1_isProper, Cond.instanceMethod yX1_isProper, Cond.selects RX1 yX1_isProper yX1_isProper, Cond.code yX1_isProper cX1_isProper 3 (some .boolean), Cond.fieldLink RX1 16 "RoleMinerModel" "against" "[I", Cond.methodLink RX1 92 yX1_whoHas]
def wsX1_costOf_r2 : List Cond := [Cond.instanceMethod yX1_whoHas, Cond.selects RX1 yX1_whoHas yX1_whoHas, Cond.code yX1_whoHas cX1_whoHas 4 (some .int), Cond.methodLink RX1 58 yX1_isWithin, Cond.instanceMethod yX1_isWithin, Cond.selects RX1 yX1_isWithin yX1_isWithin, Cond.code yX1_isWithin cX1_isWithin 3 (some .boolean), Cond.methodLink RX1 78 yX1_size, Cond.instanceMethod yX1_size, Cond.selects RX1 yX1_size yX1_size, Cond.code yX1_size cX1_size 4 (some .int), Cond.methodLink RX1 71 yX1_holds, Cond.instanceMethod yX1_holds, Cond.selects RX1 yX1_holds yX1_holds, Cond.code yX1_holds cX1_holds 2 (some .boolean), Cond.fieldLink RX1 47 "RoleMinerModel" "thrown" "I", Cond.methodLink RX1 115 yX1_price, Cond.instanceMethod yX1_price, Cond.selects RX1 yX1_price yX1_price, Cond.code yX1_price cX1_price 3 (some .int), Cond.fieldLink RX1 34 "RoleMinerModel" "roleCost" "I", Cond.fieldLink RX1 38 "RoleMinerModel" "exceptionCost" "I", Cond.methodLink RX1 95 yX1_uncover, Cond.instanceMethod yX1_uncover]
def wsX1_costOf_r3 : List Cond := [Cond.selects RX1 yX1_uncover yX1_uncover, Cond.code yX1_uncover cX1_uncover 2 none, Cond.fieldLink RX1 28 "RoleMinerModel" "cover" "[I", Cond.methodLink RX1 98 yX1_add, Cond.instanceMethod yX1_add, Cond.selects RX1 yX1_add yX1_add, Cond.code yX1_add cX1_add 3 none, Cond.methodLink RX1 102 yX1_uncovered, Cond.instanceMethod yX1_uncovered, Cond.selects RX1 yX1_uncovered yX1_uncovered, Cond.code yX1_uncovered cX1_uncovered 3 (some .int)]
def wsX1_costOf : List Cond := .code yX1_costOf cX1_costOf 2 (some .int) :: ((wsX1_costOf_r1 ++ (wsX1_costOf_r2 ++ wsX1_costOf_r3)) ++ wsX10)
def wsX1_leastCost_r1 : List Cond := [Cond.fieldLink RX1 86 "RoleMinerModel" "number" "I", Cond.methodLink RX1 121 yX1_isTooMuch, Cond.instanceMethod yX1_isTooMuch, Cond.selects RX1 yX1_isTooMuch yX1_isTooMuch, Cond.initialized RX1, Cond.code yX1_isTooMuch cX1_isTooMuch 1 (some .boolean), Cond.methodLink RX1 106 yX1_find, Cond.instanceMethod yX1_find, Cond.selects RX1 yX1_find yX1_find, Cond.code yX1_find cX1_find 4 none, Cond.fieldLink RX1 25 "RoleMinerModel" "common" "[I", Cond.fieldLink RX1 7 "RoleMinerModel" "has" "[I", Cond.fieldLink RX1 41 "RoleMinerModel" "support" "I", Cond.fieldLink RX1 22 "RoleMinerModel" "found" "[I", Cond.methodLink RX1 54 yX1_isIn, Cond.instanceMethod yX1_isIn, Cond.selects RX1 yX1_isIn yX1_isIn, Cond.code yX1_isIn cX1_isIn 3 (some .boolean), Cond.methodLink RX1 89 yX1_isProper, Cond.instanceMethod yX1_isProper, Cond.selects RX1 yX1_isProper yX1_isProper, Cond.code yX1_isProper cX1_isProper 3 (some .boolean), Cond.fieldLink RX1 16 "RoleMinerModel" "against" "[I", Cond.methodLink RX1 92 yX1_whoHas]
def wsX1_leastCost_r2 : List Cond := [Cond.instanceMethod yX1_whoHas, Cond.selects RX1 yX1_whoHas yX1_whoHas, Cond.code yX1_whoHas cX1_whoHas 4 (some .int), Cond.methodLink RX1 58 yX1_isWithin, Cond.instanceMethod yX1_isWithin, Cond.selects RX1 yX1_isWithin yX1_isWithin, Cond.code yX1_isWithin cX1_isWithin 3 (some .boolean), Cond.methodLink RX1 78 yX1_size, Cond.instanceMethod yX1_size, Cond.selects RX1 yX1_size yX1_size, Cond.code yX1_size cX1_size 4 (some .int), Cond.methodLink RX1 71 yX1_holds, Cond.instanceMethod yX1_holds, Cond.selects RX1 yX1_holds yX1_holds, Cond.code yX1_holds cX1_holds 2 (some .boolean), Cond.fieldLink RX1 47 "RoleMinerModel" "thrown" "I", Cond.methodLink RX1 115 yX1_price, Cond.instanceMethod yX1_price, Cond.selects RX1 yX1_price yX1_price, Cond.code yX1_price cX1_price 3 (some .int), Cond.fieldLink RX1 34 "RoleMinerModel" "roleCost" "I", Cond.fieldLink RX1 38 "RoleMinerModel" "exceptionCost" "I", Cond.methodLink RX1 95 yX1_uncover, Cond.instanceMethod yX1_uncover]
def wsX1_leastCost_r3 : List Cond := [Cond.selects RX1 yX1_uncover yX1_uncover, Cond.code yX1_uncover cX1_uncover 2 none, Cond.fieldLink RX1 28 "RoleMinerModel" "cover" "[I", Cond.methodLink RX1 98 yX1_add, Cond.instanceMethod yX1_add, Cond.selects RX1 yX1_add yX1_add, Cond.code yX1_add cX1_add 3 none, Cond.methodLink RX1 102 yX1_uncovered, Cond.instanceMethod yX1_uncovered, Cond.selects RX1 yX1_uncovered yX1_uncovered, Cond.code yX1_uncovered cX1_uncovered 3 (some .int)]
def wsX1_leastCost : List Cond := .code yX1_leastCost cX1_leastCost 4 (some .int) :: ((wsX1_leastCost_r1 ++ (wsX1_leastCost_r2 ++ wsX1_leastCost_r3)) ++ wsX10)
def wsX1_isRole : List Cond := .code yX1_isRole cX1_isRole 2 (some .boolean) :: ([.fieldLink RX1 112 "RoleMinerModel" "many" "I", .methodLink RX1 50 yX1_between, .instanceMethod yX1_between, .selects RX1 yX1_between yX1_between, .initialized RX1, .code yX1_between cX1_between 4 (some .boolean)] ++ wsX10)
def wsX1_roles : List Cond := .code yX1_roles cX1_roles 1 (some .int) :: ([.fieldLink RX1 112 "RoleMinerModel" "many" "I", .methodLink RX1 128 yX1_plain, .instanceMethod yX1_plain, .selects RX1 yX1_plain yX1_plain, .initialized RX1, .code yX1_plain cX1_plain 2 (some .int), .fieldLink RX1 47 "RoleMinerModel" "thrown" "I"] ++ wsX10)
def wsX1_role : List Cond := .code yX1_role cX1_role 2 (some .int) :: ([.fieldLink RX1 19 "RoleMinerModel" "laid" "[I", .methodLink RX1 131 yX1_isRole, .instanceMethod yX1_isRole, .selects RX1 yX1_isRole yX1_isRole, .initialized RX1, .code yX1_isRole cX1_isRole 2 (some .boolean), .fieldLink RX1 112 "RoleMinerModel" "many" "I", .methodLink RX1 50 yX1_between, .instanceMethod yX1_between, .selects RX1 yX1_between yX1_between, .code yX1_between cX1_between 4 (some .boolean), .methodLink RX1 71 yX1_holds, .instanceMethod yX1_holds, .selects RX1 yX1_holds yX1_holds, .code yX1_holds cX1_holds 2 (some .boolean), .fieldLink RX1 47 "RoleMinerModel" "thrown" "I"] ++ wsX10)
def wsX1_rolesOf : List Cond := .code yX1_rolesOf cX1_rolesOf 4 (some .int) :: ([.fieldLink RX1 112 "RoleMinerModel" "many" "I", .fieldLink RX1 19 "RoleMinerModel" "laid" "[I", .methodLink RX1 64 yX1_isUser, .instanceMethod yX1_isUser, .selects RX1 yX1_isUser yX1_isUser, .initialized RX1, .code yX1_isUser cX1_isUser 2 (some .boolean), .methodLink RX1 50 yX1_between, .instanceMethod yX1_between, .selects RX1 yX1_between yX1_between, .code yX1_between cX1_between 4 (some .boolean), .methodLink RX1 71 yX1_holds, .instanceMethod yX1_holds, .selects RX1 yX1_holds yX1_holds, .code yX1_holds cX1_holds 2 (some .boolean), .fieldLink RX1 47 "RoleMinerModel" "thrown" "I", .methodLink RX1 58 yX1_isWithin, .instanceMethod yX1_isWithin, .selects RX1 yX1_isWithin yX1_isWithin, .code yX1_isWithin cX1_isWithin 3 (some .boolean), .fieldLink RX1 7 "RoleMinerModel" "has" "[I"] ++ wsX10)
def wsX1_gotten : List Cond := .code yX1_gotten cX1_gotten 4 (some .int) :: ([.fieldLink RX1 112 "RoleMinerModel" "many" "I", .fieldLink RX1 19 "RoleMinerModel" "laid" "[I", .methodLink RX1 58 yX1_isWithin, .instanceMethod yX1_isWithin, .selects RX1 yX1_isWithin yX1_isWithin, .initialized RX1, .code yX1_isWithin cX1_isWithin 3 (some .boolean), .fieldLink RX1 7 "RoleMinerModel" "has" "[I"] ++ wsX10)
def wsX1_byRoles_r1 : List Cond := [Cond.methodLink RX1 64 yX1_isUser, Cond.instanceMethod yX1_isUser, Cond.selects RX1 yX1_isUser yX1_isUser, Cond.initialized RX1, Cond.code yX1_isUser cX1_isUser 2 (some .boolean), Cond.methodLink RX1 50 yX1_between, Cond.instanceMethod yX1_between, Cond.selects RX1 yX1_between yX1_between, Cond.code yX1_between cX1_between 4 (some .boolean), Cond.methodLink RX1 71 yX1_holds, Cond.instanceMethod yX1_holds, Cond.selects RX1 yX1_holds yX1_holds, Cond.code yX1_holds cX1_holds 2 (some .boolean), Cond.fieldLink RX1 47 "RoleMinerModel" "thrown" "I", Cond.methodLink RX1 134 yX1_gotten, Cond.instanceMethod yX1_gotten, Cond.selects RX1 yX1_gotten yX1_gotten, Cond.code yX1_gotten cX1_gotten 4 (some .int), Cond.fieldLink RX1 112 "RoleMinerModel" "many" "I", Cond.fieldLink RX1 19 "RoleMinerModel" "laid" "[I", Cond.methodLink RX1 58 yX1_isWithin, Cond.instanceMethod yX1_isWithin, Cond.selects RX1 yX1_isWithin yX1_isWithin, Cond.code yX1_isWithin cX1_isWithin 3 (some .boolean)]
def wsX1_byRoles_r2 : List Cond := [Cond.fieldLink RX1 7 "RoleMinerModel" "has" "[I"]
def wsX1_byRoles : List Cond := .code yX1_byRoles cX1_byRoles 2 (some .int) :: ((wsX1_byRoles_r1 ++ wsX1_byRoles_r2) ++ wsX10)
def wsX1_exceptions_r1 : List Cond := [Cond.fieldLink RX1 7 "RoleMinerModel" "has" "[I", Cond.methodLink RX1 64 yX1_isUser, Cond.instanceMethod yX1_isUser, Cond.selects RX1 yX1_isUser yX1_isUser, Cond.initialized RX1, Cond.code yX1_isUser cX1_isUser 2 (some .boolean), Cond.methodLink RX1 50 yX1_between, Cond.instanceMethod yX1_between, Cond.selects RX1 yX1_between yX1_between, Cond.code yX1_between cX1_between 4 (some .boolean), Cond.methodLink RX1 71 yX1_holds, Cond.instanceMethod yX1_holds, Cond.selects RX1 yX1_holds yX1_holds, Cond.code yX1_holds cX1_holds 2 (some .boolean), Cond.fieldLink RX1 47 "RoleMinerModel" "thrown" "I", Cond.methodLink RX1 134 yX1_gotten, Cond.instanceMethod yX1_gotten, Cond.selects RX1 yX1_gotten yX1_gotten, Cond.code yX1_gotten cX1_gotten 4 (some .int), Cond.fieldLink RX1 112 "RoleMinerModel" "many" "I", Cond.fieldLink RX1 19 "RoleMinerModel" "laid" "[I", Cond.methodLink RX1 58 yX1_isWithin, Cond.instanceMethod yX1_isWithin, Cond.selects RX1 yX1_isWithin yX1_isWithin]
def wsX1_exceptions_r2 : List Cond := [Cond.code yX1_isWithin cX1_isWithin 3 (some .boolean)]
def wsX1_exceptions : List Cond := .code yX1_exceptions cX1_exceptions 2 (some .int) :: ((wsX1_exceptions_r1 ++ wsX1_exceptions_r2) ++ wsX10)
def wsX1_cost : List Cond := .code yX1_cost cX1_cost 3 (some .int) :: ([.fieldLink RX1 47 "RoleMinerModel" "thrown" "I", .fieldLink RX1 34 "RoleMinerModel" "roleCost" "I", .fieldLink RX1 112 "RoleMinerModel" "many" "I", .fieldLink RX1 38 "RoleMinerModel" "exceptionCost" "I", .fieldLink RX1 7 "RoleMinerModel" "has" "[I", .methodLink RX1 134 yX1_gotten, .instanceMethod yX1_gotten, .selects RX1 yX1_gotten yX1_gotten, .initialized RX1, .code yX1_gotten cX1_gotten 4 (some .int), .fieldLink RX1 19 "RoleMinerModel" "laid" "[I", .methodLink RX1 58 yX1_isWithin, .instanceMethod yX1_isWithin, .selects RX1 yX1_isWithin yX1_isWithin, .code yX1_isWithin cX1_isWithin 3 (some .boolean), .methodLink RX1 78 yX1_size, .instanceMethod yX1_size, .selects RX1 yX1_size yX1_size, .code yX1_size cX1_size 4 (some .int)] ++ wsX10)
def wsX1_isRisky_r1 : List Cond := [Cond.fieldLink RX1 112 "RoleMinerModel" "many" "I", Cond.fieldLink RX1 19 "RoleMinerModel" "laid" "[I", Cond.methodLink RX1 131 yX1_isRole, Cond.instanceMethod yX1_isRole, Cond.selects RX1 yX1_isRole yX1_isRole, Cond.initialized RX1, Cond.code yX1_isRole cX1_isRole 2 (some .boolean), Cond.methodLink RX1 50 yX1_between, Cond.instanceMethod yX1_between, Cond.selects RX1 yX1_between yX1_between, Cond.code yX1_between cX1_between 4 (some .boolean), Cond.methodLink RX1 71 yX1_holds, Cond.instanceMethod yX1_holds, Cond.selects RX1 yX1_holds yX1_holds, Cond.code yX1_holds cX1_holds 2 (some .boolean), Cond.fieldLink RX1 47 "RoleMinerModel" "thrown" "I", Cond.methodLink RX1 58 yX1_isWithin, Cond.instanceMethod yX1_isWithin, Cond.selects RX1 yX1_isWithin yX1_isWithin, Cond.code yX1_isWithin cX1_isWithin 3 (some .boolean), Cond.fieldLink RX1 7 "RoleMinerModel" "has" "[I", Cond.methodLink RX1 89 yX1_isProper, Cond.instanceMethod yX1_isProper, Cond.selects RX1 yX1_isProper yX1_isProper]
def wsX1_isRisky_r2 : List Cond := [Cond.code yX1_isProper cX1_isProper 3 (some .boolean), Cond.fieldLink RX1 16 "RoleMinerModel" "against" "[I", Cond.methodLink RX1 54 yX1_isIn, Cond.instanceMethod yX1_isIn, Cond.selects RX1 yX1_isIn yX1_isIn, Cond.code yX1_isIn cX1_isIn 3 (some .boolean)]
def wsX1_isRisky : List Cond := .code yX1_isRisky cX1_isRisky 4 (some .boolean) :: ((wsX1_isRisky_r1 ++ wsX1_isRisky_r2) ++ wsX10)
def wsJ9_min_7cf53 : List Cond := .code yJ9_min_7cf53 cJ9_min_7cf53 2 (some .int) :: ([])
def wsL_grant : List Cond := .codeWith yL_grant cL_grant 5 (some .int) [(0, 17, 20, 13)] :: ([.classLink RL 13 "java/lang/IndexOutOfBoundsException", .methodLink RL 7 yX0_grant, .instanceMethod yX0_grant, .selects RX0 yX0_grant yX0_grant, .initialized RX0, .code yX0_grant cX0_grant 3 (some .boolean), .classLink RX0 67 "java/lang/IndexOutOfBoundsException", .initialized "java/lang/IndexOutOfBoundsException", .fieldLink RX0 9 "RoleMiner" "granted" "[I", .fieldLink RX0 13 "RoleMiner" "remembered" "[I", .fieldLink RX0 32 "RoleMiner" "quarter" "I", .methodLink RX0 60 yX0_isUser, .static yX0_isUser, .code yX0_isUser cX0_isUser 1 (some .boolean), .methodLink RX0 64 yX0_isPermission, .static yX0_isPermission, .code yX0_isPermission cX0_isPermission 1 (some .boolean), .methodLink RX0 74 yX0_has, .static yX0_has, .code yX0_has cX0_has 2 (some .boolean), .methodLink RX0 78 yX0_grantIndex, .static yX0_grantIndex, .code yX0_grantIndex cX0_grantIndex 2 (some .int)] ++ wsX00 ++ (vx_atS RX0 71 "java/lang/IndexOutOfBoundsException" ["java/lang/RuntimeException", "java/lang/Exception"]).filter goodWord)
def wsL_revoke : List Cond := .codeWith yL_revoke cL_revoke 5 (some .int) [(0, 17, 20, 13)] :: ([.classLink RL 13 "java/lang/IndexOutOfBoundsException", .methodLink RL 15 yX0_revoke, .instanceMethod yX0_revoke, .selects RX0 yX0_revoke yX0_revoke, .initialized RX0, .code yX0_revoke cX0_revoke 4 (some .boolean), .classLink RX0 67 "java/lang/IndexOutOfBoundsException", .initialized "java/lang/IndexOutOfBoundsException", .fieldLink RX0 9 "RoleMiner" "granted" "[I", .methodLink RX0 60 yX0_isUser, .static yX0_isUser, .code yX0_isUser cX0_isUser 1 (some .boolean), .methodLink RX0 64 yX0_isPermission, .static yX0_isPermission, .code yX0_isPermission cX0_isPermission 1 (some .boolean), .methodLink RX0 74 yX0_has, .static yX0_has, .code yX0_has cX0_has 2 (some .boolean)] ++ wsX00 ++ (vx_atS RX0 71 "java/lang/IndexOutOfBoundsException" ["java/lang/RuntimeException", "java/lang/Exception"]).filter goodWord)
def wsL_setGrants_r1 : List Cond := [Cond.classLink RL 13 "java/lang/IndexOutOfBoundsException", Cond.classLink RL 22 "java/lang/IllegalArgumentException", Cond.methodLink RL 18 yX0_setGrants, Cond.instanceMethod yX0_setGrants, Cond.selects RX0 yX0_setGrants yX0_setGrants, Cond.initialized RX0, Cond.code yX0_setGrants cX0_setGrants 5 (some .int), Cond.classLink RX0 67 "java/lang/IndexOutOfBoundsException", Cond.initialized "java/lang/IndexOutOfBoundsException", Cond.classLink RX0 87 "java/lang/IllegalArgumentException", Cond.initialized "java/lang/IllegalArgumentException", Cond.fieldLink RX0 9 "RoleMiner" "granted" "[I", Cond.fieldLink RX0 13 "RoleMiner" "remembered" "[I", Cond.fieldLink RX0 32 "RoleMiner" "quarter" "I", Cond.methodLink RX0 60 yX0_isUser, Cond.static yX0_isUser, Cond.code yX0_isUser cX0_isUser 1 (some .boolean), Cond.methodLink RX0 84 yX0_isPermissionSet, Cond.static yX0_isPermissionSet, Cond.code yX0_isPermissionSet cX0_isPermissionSet 1 (some .boolean), Cond.methodLink RX0 74 yX0_has, Cond.static yX0_has, Cond.code yX0_has cX0_has 2 (some .boolean), Cond.methodLink RX0 78 yX0_grantIndex]
def wsL_setGrants_r2 : List Cond := [Cond.static yX0_grantIndex, Cond.code yX0_grantIndex cX0_grantIndex 2 (some .int), Cond.methodLink RX0 92 yJ6_bitCount_0f7a4, Cond.static yJ6_bitCount_0f7a4, Cond.initialized RJ6, Cond.code yJ6_bitCount_0f7a4 cJ6_bitCount_0f7a4 1 (some .int), Cond.constant RJ6 265 (1431655765), Cond.constant RJ6 266 (858993459), Cond.constant RJ6 267 (252645135)]
def wsL_setGrants : List Cond := .codeWith yL_setGrants cL_setGrants 5 (some .int) [(0, 10, 13, 13), (0, 10, 17, 22)] :: ((wsL_setGrants_r1 ++ wsL_setGrants_r2) ++ wsX00 ++ (vx_atS RX0 71 "java/lang/IndexOutOfBoundsException" ["java/lang/RuntimeException", "java/lang/Exception"]).filter goodWord ++ (vx_atS RX0 91 "java/lang/IllegalArgumentException" ["java/lang/RuntimeException", "java/lang/Exception"]).filter goodWord)
def wsL_setConflict : List Cond := .codeWith yL_setConflict cL_setConflict 6 (some .int) [(0, 19, 22, 13), (0, 19, 26, 22)] :: ([.classLink RL 13 "java/lang/IndexOutOfBoundsException", .classLink RL 22 "java/lang/IllegalArgumentException", .methodLink RL 24 yX0_setConflict, .instanceMethod yX0_setConflict, .selects RX0 yX0_setConflict yX0_setConflict, .initialized RX0, .code yX0_setConflict cX0_setConflict 5 (some .boolean), .classLink RX0 67 "java/lang/IndexOutOfBoundsException", .initialized "java/lang/IndexOutOfBoundsException", .classLink RX0 87 "java/lang/IllegalArgumentException", .initialized "java/lang/IllegalArgumentException", .fieldLink RX0 16 "RoleMiner" "opposed" "[I", .methodLink RX0 64 yX0_isPermission, .static yX0_isPermission, .code yX0_isPermission cX0_isPermission 1 (some .boolean), .methodLink RX0 74 yX0_has, .static yX0_has, .code yX0_has cX0_has 2 (some .boolean)] ++ wsX00 ++ (vx_atS RX0 71 "java/lang/IndexOutOfBoundsException" ["java/lang/RuntimeException", "java/lang/Exception"]).filter goodWord ++ (vx_atS RX0 91 "java/lang/IllegalArgumentException" ["java/lang/RuntimeException", "java/lang/Exception"]).filter goodWord)
def wsL_setCosts : List Cond := .codeWith yL_setCosts cL_setCosts 4 (some .int) [(0, 6, 9, 22)] :: ([.classLink RL 22 "java/lang/IllegalArgumentException", .methodLink RL 28 yX0_setCosts, .instanceMethod yX0_setCosts, .selects RX0 yX0_setCosts yX0_setCosts, .initialized RX0, .code yX0_setCosts cX0_setCosts 3 none, .classLink RX0 87 "java/lang/IllegalArgumentException", .initialized "java/lang/IllegalArgumentException", .fieldLink RX0 19 "RoleMiner" "roleCost" "I", .fieldLink RX0 23 "RoleMiner" "exceptionCost" "I", .methodLink RX0 102 yX0_isCost, .static yX0_isCost, .code yX0_isCost cX0_isCost 1 (some .boolean)] ++ wsX00 ++ (vx_atS RX0 91 "java/lang/IllegalArgumentException" ["java/lang/RuntimeException", "java/lang/Exception"]).filter goodWord)
def wsL_setSupport : List Cond := .codeWith yL_setSupport cL_setSupport 4 (some .int) [(0, 9, 12, 22)] :: ([.classLink RL 22 "java/lang/IllegalArgumentException", .methodLink RL 32 yX0_setSupport, .instanceMethod yX0_setSupport, .selects RX0 yX0_setSupport yX0_setSupport, .initialized RX0, .code yX0_setSupport cX0_setSupport 3 (some .int), .classLink RX0 87 "java/lang/IllegalArgumentException", .initialized "java/lang/IllegalArgumentException", .fieldLink RX0 26 "RoleMiner" "support" "I"] ++ wsX00 ++ (vx_atS RX0 91 "java/lang/IllegalArgumentException" ["java/lang/RuntimeException", "java/lang/Exception"]).filter goodWord)
def wsL_setPeriod : List Cond := .codeWith yL_setPeriod cL_setPeriod 4 (some .int) [(0, 9, 12, 22)] :: ([.classLink RL 22 "java/lang/IllegalArgumentException", .methodLink RL 36 yX0_setPeriod, .instanceMethod yX0_setPeriod, .selects RX0 yX0_setPeriod yX0_setPeriod, .initialized RX0, .code yX0_setPeriod cX0_setPeriod 3 (some .int), .classLink RX0 87 "java/lang/IllegalArgumentException", .initialized "java/lang/IllegalArgumentException", .fieldLink RX0 29 "RoleMiner" "period" "I"] ++ wsX00 ++ (vx_atS RX0 91 "java/lang/IllegalArgumentException" ["java/lang/RuntimeException", "java/lang/Exception"]).filter goodWord)
def wsL_review_r1 : List Cond := [Cond.classLink RL 13 "java/lang/IndexOutOfBoundsException", Cond.classLink RL 42 "java/lang/IllegalStateException", Cond.methodLink RL 39 yX0_review, Cond.instanceMethod yX0_review, Cond.selects RX0 yX0_review yX0_review, Cond.initialized RX0, Cond.code yX0_review cX0_review 5 (some .int), Cond.classLink RX0 67 "java/lang/IndexOutOfBoundsException", Cond.initialized "java/lang/IndexOutOfBoundsException", Cond.classLink RX0 111 "java/lang/IllegalStateException", Cond.initialized "java/lang/IllegalStateException", Cond.fieldLink RX0 9 "RoleMiner" "granted" "[I", Cond.fieldLink RX0 32 "RoleMiner" "quarter" "I", Cond.fieldLink RX0 13 "RoleMiner" "remembered" "[I", Cond.methodLink RX0 60 yX0_isUser, Cond.static yX0_isUser, Cond.code yX0_isUser cX0_isUser 1 (some .boolean), Cond.methodLink RX0 64 yX0_isPermission, Cond.static yX0_isPermission, Cond.code yX0_isPermission cX0_isPermission 1 (some .boolean), Cond.methodLink RX0 74 yX0_has, Cond.static yX0_has, Cond.code yX0_has cX0_has 2 (some .boolean), Cond.methodLink RX0 78 yX0_grantIndex]
def wsL_review_r2 : List Cond := [Cond.static yX0_grantIndex, Cond.code yX0_grantIndex cX0_grantIndex 2 (some .int)]
def wsL_review : List Cond := .codeWith yL_review cL_review 5 (some .int) [(0, 10, 13, 13), (0, 10, 17, 42)] :: ((wsL_review_r1 ++ wsL_review_r2) ++ wsX00 ++ (vx_atS RX0 71 "java/lang/IndexOutOfBoundsException" ["java/lang/RuntimeException", "java/lang/Exception"]).filter goodWord ++ (vx_atS RX0 115 "java/lang/IllegalStateException" ["java/lang/RuntimeException", "java/lang/Exception"]).filter goodWord)
def wsL_nextQuarter_r1 : List Cond := [Cond.classLink RL 42 "java/lang/IllegalStateException", Cond.methodLink RL 44 yX0_nextQuarter, Cond.instanceMethod yX0_nextQuarter, Cond.selects RX0 yX0_nextQuarter yX0_nextQuarter, Cond.initialized RX0, Cond.code yX0_nextQuarter cX0_nextQuarter 4 (some .int), Cond.classLink RX0 111 "java/lang/IllegalStateException", Cond.initialized "java/lang/IllegalStateException", Cond.fieldLink RX0 32 "RoleMiner" "quarter" "I", Cond.fieldLink RX0 9 "RoleMiner" "granted" "[I", Cond.methodLink RX0 118 yX0_lapsingIn, Cond.instanceMethod yX0_lapsingIn, Cond.selects RX0 yX0_lapsingIn yX0_lapsingIn, Cond.code yX0_lapsingIn cX0_lapsingIn 6 (some .int), Cond.fieldLink RX0 13 "RoleMiner" "remembered" "[I", Cond.fieldLink RX0 29 "RoleMiner" "period" "I", Cond.methodLink RX0 78 yX0_grantIndex, Cond.static yX0_grantIndex, Cond.code yX0_grantIndex cX0_grantIndex 2 (some .int), Cond.methodLink RX0 74 yX0_has, Cond.static yX0_has, Cond.code yX0_has cX0_has 2 (some .boolean), Cond.methodLink RX0 92 yJ6_bitCount_0f7a4, Cond.static yJ6_bitCount_0f7a4]
def wsL_nextQuarter_r2 : List Cond := [Cond.initialized RJ6, Cond.code yJ6_bitCount_0f7a4 cJ6_bitCount_0f7a4 1 (some .int), Cond.constant RJ6 265 (1431655765), Cond.constant RJ6 266 (858993459), Cond.constant RJ6 267 (252645135)]
def wsL_nextQuarter : List Cond := .codeWith yL_nextQuarter cL_nextQuarter 3 (some .int) [(0, 8, 11, 42)] :: ((wsL_nextQuarter_r1 ++ wsL_nextQuarter_r2) ++ wsX00 ++ (vx_atS RX0 115 "java/lang/IllegalStateException" ["java/lang/RuntimeException", "java/lang/Exception"]).filter goodWord)
def wsL_mineBest_r1 : List Cond := [Cond.classLink RL 42 "java/lang/IllegalStateException", Cond.methodLink RL 48 yX0_mineBest, Cond.instanceMethod yX0_mineBest, Cond.selects RX0 yX0_mineBest yX0_mineBest, Cond.initialized RX0, Cond.code yX0_mineBest cX0_mineBest 3 (some .int), Cond.classLink RX0 111 "java/lang/IllegalStateException", Cond.initialized "java/lang/IllegalStateException", Cond.fieldLink RX0 44 "RoleMiner" "candidateCount" "I", Cond.fieldLink RX0 38 "RoleMiner" "roleCount" "I", Cond.fieldLink RX0 35 "RoleMiner" "roleSets" "[I", Cond.fieldLink RX0 41 "RoleMiner" "candidateSets" "[I", Cond.methodLink RX0 121 yX0_findCandidates, Cond.instanceMethod yX0_findCandidates, Cond.selects RX0 yX0_findCandidates yX0_findCandidates, Cond.code yX0_findCandidates cX0_findCandidates 4 none, Cond.fieldLink RX0 26 "RoleMiner" "support" "I", Cond.methodLink RX0 165 yX0_sharedBy, Cond.instanceMethod yX0_sharedBy, Cond.selects RX0 yX0_sharedBy yX0_sharedBy, Cond.code yX0_sharedBy cX0_sharedBy 4 (some .int), Cond.fieldLink RX0 9 "RoleMiner" "granted" "[I", Cond.methodLink RX0 74 yX0_has, Cond.static yX0_has]
def wsL_mineBest_r2 : List Cond := [Cond.code yX0_has cX0_has 2 (some .boolean), Cond.methodLink RX0 149 yX0_holdersOf, Cond.instanceMethod yX0_holdersOf, Cond.selects RX0 yX0_holdersOf yX0_holdersOf, Cond.code yX0_holdersOf cX0_holdersOf 4 (some .int), Cond.methodLink RX0 156 yX0_holds, Cond.instanceMethod yX0_holds, Cond.selects RX0 yX0_holds yX0_holds, Cond.code yX0_holds cX0_holds 3 (some .boolean), Cond.methodLink RX0 92 yJ6_bitCount_0f7a4, Cond.static yJ6_bitCount_0f7a4, Cond.initialized RJ6, Cond.code yJ6_bitCount_0f7a4 cJ6_bitCount_0f7a4 1 (some .int), Cond.constant RJ6 265 (1431655765), Cond.constant RJ6 266 (858993459), Cond.constant RJ6 267 (252645135), Cond.methodLink RX0 162 yX0_isProper, Cond.instanceMethod yX0_isProper, Cond.selects RX0 yX0_isProper yX0_isProper, Cond.code yX0_isProper cX0_isProper 3 (some .boolean), Cond.fieldLink RX0 16 "RoleMiner" "opposed" "[I", Cond.methodLink RX0 128 yX0_insertInOrder, Cond.static yX0_insertInOrder, Cond.code yX0_insertInOrder cX0_insertInOrder 4 (some .int)]
def wsL_mineBest_r3 : List Cond := [Cond.methodLink RX0 168 yX0_findCover, Cond.instanceMethod yX0_findCover, Cond.selects RX0 yX0_findCover yX0_findCover, Cond.code yX0_findCover cX0_findCover 8 none, Cond.fieldLink RX0 47 "RoleMiner" "lowCover" "[J", Cond.fieldLink RX0 51 "RoleMiner" "highCover" "[J", Cond.methodLink RX0 175 yX0_lowPart, Cond.static yX0_lowPart, Cond.code yX0_lowPart cX0_lowPart 2 (some .long), Cond.methodLink RX0 179 yX0_highPart, Cond.static yX0_highPart, Cond.code yX0_highPart cX0_highPart 2 (some .long), Cond.methodLink RX0 172 yX0_findAllLeft, Cond.instanceMethod yX0_findAllLeft, Cond.selects RX0 yX0_findAllLeft yX0_findAllLeft, Cond.code yX0_findAllLeft cX0_findAllLeft 6 none, Cond.fieldLink RX0 54 "RoleMiner" "lowLeft" "[J", Cond.fieldLink RX0 57 "RoleMiner" "highLeft" "[J", Cond.methodLink RX0 140 yX0_bestChoice, Cond.instanceMethod yX0_bestChoice, Cond.selects RX0 yX0_bestChoice yX0_bestChoice, Cond.code yX0_bestChoice cX0_bestChoice 8 (some .int), Cond.methodLink RX0 187 Lib.Math.min.name, Cond.static Lib.Math.min.name]
def wsL_mineBest_r4 : List Cond := [Cond.initialized "java/lang/Math", Cond.code Lib.Math.min.name Lib.Math.min.code 2 (some .int), Cond.constantLong RX0 132 (-1), Cond.methodLink RX0 144 yX0_costOfChoice, Cond.instanceMethod yX0_costOfChoice, Cond.selects RX0 yX0_costOfChoice yX0_costOfChoice, Cond.code yX0_costOfChoice cX0_costOfChoice 7 (some .int), Cond.methodLink RX0 134 yX0_costWith, Cond.instanceMethod yX0_costWith, Cond.selects RX0 yX0_costWith yX0_costWith, Cond.code yX0_costWith cX0_costWith 6 (some .int), Cond.fieldLink RX0 19 "RoleMiner" "roleCost" "I", Cond.fieldLink RX0 23 "RoleMiner" "exceptionCost" "I", Cond.methodLink RX0 182 yJ13_bitCount_95d88, Cond.static yJ13_bitCount_95d88, Cond.initialized RJ13, Cond.code yJ13_bitCount_95d88 cJ13_bitCount_95d88 2 (some .int), Cond.constantLong RJ13 314 (6148914691236517205), Cond.constantLong RJ13 316 (3689348814741910323), Cond.constantLong RJ13 318 (1085102592571150095), Cond.methodLink RX0 192 yJ6_numberOfTrailingZeros_0f7a4, Cond.static yJ6_numberOfTrailingZeros_0f7a4, Cond.code yJ6_numberOfTrailingZeros_0f7a4 cJ6_numberOfTrailingZeros_0f7a4 2 (some .int), Cond.constant RJ6 264 (65536)]
def wsL_mineBest_r5 : List Cond := [Cond.methodLink RX0 195 yX0_comesBefore, Cond.static yX0_comesBefore, Cond.code yX0_comesBefore cX0_comesBefore 4 (some .boolean), Cond.methodLink RX0 198 yJ6_lowestOneBit_0f7a4, Cond.static yJ6_lowestOneBit_0f7a4, Cond.code yJ6_lowestOneBit_0f7a4 cJ6_lowestOneBit_0f7a4 1 (some .int)]
def wsL_mineBest : List Cond := .codeWith yL_mineBest cL_mineBest 3 (some .int) [(0, 8, 11, 42)] :: ((wsL_mineBest_r1 ++ (wsL_mineBest_r2 ++ (wsL_mineBest_r3 ++ (wsL_mineBest_r4 ++ wsL_mineBest_r5)))) ++ wsX00 ++ (vx_atS RX0 115 "java/lang/IllegalStateException" ["java/lang/RuntimeException", "java/lang/Exception"]).filter goodWord)
def wsL_permissions : List Cond := .codeWith yL_permissions cL_permissions 4 (some .int) [(0, 9, 12, 13)] :: ([.classLink RL 13 "java/lang/IndexOutOfBoundsException", .methodLink RL 51 yX0_permissions, .instanceMethod yX0_permissions, .selects RX0 yX0_permissions yX0_permissions, .initialized RX0, .code yX0_permissions cX0_permissions 2 (some .int), .classLink RX0 67 "java/lang/IndexOutOfBoundsException", .initialized "java/lang/IndexOutOfBoundsException", .fieldLink RX0 9 "RoleMiner" "granted" "[I", .methodLink RX0 60 yX0_isUser, .static yX0_isUser, .code yX0_isUser cX0_isUser 1 (some .boolean)] ++ wsX00 ++ (vx_atS RX0 71 "java/lang/IndexOutOfBoundsException" ["java/lang/RuntimeException", "java/lang/Exception"]).filter goodWord)
def wsL_violations : List Cond := .codeWith yL_violations cL_violations 4 (some .int) [(0, 9, 12, 13)] :: ([.classLink RL 13 "java/lang/IndexOutOfBoundsException", .methodLink RL 54 yX0_violations, .instanceMethod yX0_violations, .selects RX0 yX0_violations yX0_violations, .initialized RX0, .code yX0_violations cX0_violations 4 (some .int), .classLink RX0 67 "java/lang/IndexOutOfBoundsException", .initialized "java/lang/IndexOutOfBoundsException", .fieldLink RX0 9 "RoleMiner" "granted" "[I", .fieldLink RX0 16 "RoleMiner" "opposed" "[I", .methodLink RX0 60 yX0_isUser, .static yX0_isUser, .code yX0_isUser cX0_isUser 1 (some .boolean), .methodLink RX0 74 yX0_has, .static yX0_has, .code yX0_has cX0_has 2 (some .boolean), .methodLink RX0 92 yJ6_bitCount_0f7a4, .static yJ6_bitCount_0f7a4, .initialized RJ6, .code yJ6_bitCount_0f7a4 cJ6_bitCount_0f7a4 1 (some .int), .constant RJ6 265 (1431655765), .constant RJ6 266 (858993459), .constant RJ6 267 (252645135)] ++ wsX00 ++ (vx_atS RX0 71 "java/lang/IndexOutOfBoundsException" ["java/lang/RuntimeException", "java/lang/Exception"]).filter goodWord)
def wsL_due_r1 : List Cond := [Cond.classLink RL 13 "java/lang/IndexOutOfBoundsException", Cond.methodLink RL 57 yX0_due, Cond.instanceMethod yX0_due, Cond.selects RX0 yX0_due yX0_due, Cond.initialized RX0, Cond.code yX0_due cX0_due 2 (some .int), Cond.classLink RX0 67 "java/lang/IndexOutOfBoundsException", Cond.initialized "java/lang/IndexOutOfBoundsException", Cond.fieldLink RX0 32 "RoleMiner" "quarter" "I", Cond.methodLink RX0 60 yX0_isUser, Cond.static yX0_isUser, Cond.code yX0_isUser cX0_isUser 1 (some .boolean), Cond.methodLink RX0 118 yX0_lapsingIn, Cond.instanceMethod yX0_lapsingIn, Cond.selects RX0 yX0_lapsingIn yX0_lapsingIn, Cond.code yX0_lapsingIn cX0_lapsingIn 6 (some .int), Cond.fieldLink RX0 13 "RoleMiner" "remembered" "[I", Cond.fieldLink RX0 9 "RoleMiner" "granted" "[I", Cond.fieldLink RX0 29 "RoleMiner" "period" "I", Cond.methodLink RX0 78 yX0_grantIndex, Cond.static yX0_grantIndex, Cond.code yX0_grantIndex cX0_grantIndex 2 (some .int), Cond.methodLink RX0 74 yX0_has, Cond.static yX0_has]
def wsL_due_r2 : List Cond := [Cond.code yX0_has cX0_has 2 (some .boolean)]
def wsL_due : List Cond := .codeWith yL_due cL_due 4 (some .int) [(0, 9, 12, 13)] :: ((wsL_due_r1 ++ wsL_due_r2) ++ wsX00 ++ (vx_atS RX0 71 "java/lang/IndexOutOfBoundsException" ["java/lang/RuntimeException", "java/lang/Exception"]).filter goodWord)
def wsL_candidate_r1 : List Cond := [Cond.classLink RL 13 "java/lang/IndexOutOfBoundsException", Cond.methodLink RL 60 yX0_candidate, Cond.instanceMethod yX0_candidate, Cond.selects RX0 yX0_candidate yX0_candidate, Cond.initialized RX0, Cond.code yX0_candidate cX0_candidate 2 (some .int), Cond.classLink RX0 67 "java/lang/IndexOutOfBoundsException", Cond.initialized "java/lang/IndexOutOfBoundsException", Cond.fieldLink RX0 44 "RoleMiner" "candidateCount" "I", Cond.fieldLink RX0 41 "RoleMiner" "candidateSets" "[I", Cond.methodLink RX0 121 yX0_findCandidates, Cond.instanceMethod yX0_findCandidates, Cond.selects RX0 yX0_findCandidates yX0_findCandidates, Cond.code yX0_findCandidates cX0_findCandidates 4 none, Cond.fieldLink RX0 26 "RoleMiner" "support" "I", Cond.methodLink RX0 165 yX0_sharedBy, Cond.instanceMethod yX0_sharedBy, Cond.selects RX0 yX0_sharedBy yX0_sharedBy, Cond.code yX0_sharedBy cX0_sharedBy 4 (some .int), Cond.fieldLink RX0 9 "RoleMiner" "granted" "[I", Cond.methodLink RX0 74 yX0_has, Cond.static yX0_has, Cond.code yX0_has cX0_has 2 (some .boolean), Cond.methodLink RX0 149 yX0_holdersOf]
def wsL_candidate_r2 : List Cond := [Cond.instanceMethod yX0_holdersOf, Cond.selects RX0 yX0_holdersOf yX0_holdersOf, Cond.code yX0_holdersOf cX0_holdersOf 4 (some .int), Cond.methodLink RX0 156 yX0_holds, Cond.instanceMethod yX0_holds, Cond.selects RX0 yX0_holds yX0_holds, Cond.code yX0_holds cX0_holds 3 (some .boolean), Cond.methodLink RX0 92 yJ6_bitCount_0f7a4, Cond.static yJ6_bitCount_0f7a4, Cond.initialized RJ6, Cond.code yJ6_bitCount_0f7a4 cJ6_bitCount_0f7a4 1 (some .int), Cond.constant RJ6 265 (1431655765), Cond.constant RJ6 266 (858993459), Cond.constant RJ6 267 (252645135), Cond.methodLink RX0 162 yX0_isProper, Cond.instanceMethod yX0_isProper, Cond.selects RX0 yX0_isProper yX0_isProper, Cond.code yX0_isProper cX0_isProper 3 (some .boolean), Cond.fieldLink RX0 16 "RoleMiner" "opposed" "[I", Cond.methodLink RX0 128 yX0_insertInOrder, Cond.static yX0_insertInOrder, Cond.code yX0_insertInOrder cX0_insertInOrder 4 (some .int), Cond.methodLink RX0 168 yX0_findCover, Cond.instanceMethod yX0_findCover]
def wsL_candidate_r3 : List Cond := [Cond.selects RX0 yX0_findCover yX0_findCover, Cond.code yX0_findCover cX0_findCover 8 none, Cond.fieldLink RX0 47 "RoleMiner" "lowCover" "[J", Cond.fieldLink RX0 51 "RoleMiner" "highCover" "[J", Cond.methodLink RX0 175 yX0_lowPart, Cond.static yX0_lowPart, Cond.code yX0_lowPart cX0_lowPart 2 (some .long), Cond.methodLink RX0 179 yX0_highPart, Cond.static yX0_highPart, Cond.code yX0_highPart cX0_highPart 2 (some .long), Cond.methodLink RX0 172 yX0_findAllLeft, Cond.instanceMethod yX0_findAllLeft, Cond.selects RX0 yX0_findAllLeft yX0_findAllLeft, Cond.code yX0_findAllLeft cX0_findAllLeft 6 none, Cond.fieldLink RX0 54 "RoleMiner" "lowLeft" "[J", Cond.fieldLink RX0 57 "RoleMiner" "highLeft" "[J"]
def wsL_candidate : List Cond := .codeWith yL_candidate cL_candidate 4 (some .int) [(0, 9, 12, 13)] :: ((wsL_candidate_r1 ++ (wsL_candidate_r2 ++ wsL_candidate_r3)) ++ wsX00 ++ (vx_atS RX0 71 "java/lang/IndexOutOfBoundsException" ["java/lang/RuntimeException", "java/lang/Exception"]).filter goodWord)
def wsL_holders : List Cond := .codeWith yL_holders cL_holders 4 (some .int) [(0, 9, 12, 22)] :: ([.classLink RL 22 "java/lang/IllegalArgumentException", .methodLink RL 63 yX0_holders, .instanceMethod yX0_holders, .selects RX0 yX0_holders yX0_holders, .initialized RX0, .code yX0_holders cX0_holders 2 (some .int), .classLink RX0 87 "java/lang/IllegalArgumentException", .initialized "java/lang/IllegalArgumentException", .methodLink RX0 84 yX0_isPermissionSet, .static yX0_isPermissionSet, .code yX0_isPermissionSet cX0_isPermissionSet 1 (some .boolean), .methodLink RX0 149 yX0_holdersOf, .instanceMethod yX0_holdersOf, .selects RX0 yX0_holdersOf yX0_holdersOf, .code yX0_holdersOf cX0_holdersOf 4 (some .int), .methodLink RX0 156 yX0_holds, .instanceMethod yX0_holds, .selects RX0 yX0_holds yX0_holds, .code yX0_holds cX0_holds 3 (some .boolean), .fieldLink RX0 9 "RoleMiner" "granted" "[I"] ++ wsX00 ++ (vx_atS RX0 91 "java/lang/IllegalArgumentException" ["java/lang/RuntimeException", "java/lang/Exception"]).filter goodWord)
def wsL_costOf_r1 : List Cond := [Cond.classLink RL 42 "java/lang/IllegalStateException", Cond.classLink RL 22 "java/lang/IllegalArgumentException", Cond.methodLink RL 66 yX0_costOf, Cond.instanceMethod yX0_costOf, Cond.selects RX0 yX0_costOf yX0_costOf, Cond.initialized RX0, Cond.code yX0_costOf cX0_costOf 2 (some .int), Cond.classLink RX0 111 "java/lang/IllegalStateException", Cond.initialized "java/lang/IllegalStateException", Cond.classLink RX0 87 "java/lang/IllegalArgumentException", Cond.initialized "java/lang/IllegalArgumentException", Cond.fieldLink RX0 44 "RoleMiner" "candidateCount" "I", Cond.methodLink RX0 121 yX0_findCandidates, Cond.instanceMethod yX0_findCandidates, Cond.selects RX0 yX0_findCandidates yX0_findCandidates, Cond.code yX0_findCandidates cX0_findCandidates 4 none, Cond.fieldLink RX0 26 "RoleMiner" "support" "I", Cond.fieldLink RX0 41 "RoleMiner" "candidateSets" "[I", Cond.methodLink RX0 165 yX0_sharedBy, Cond.instanceMethod yX0_sharedBy, Cond.selects RX0 yX0_sharedBy yX0_sharedBy, Cond.code yX0_sharedBy cX0_sharedBy 4 (some .int), Cond.fieldLink RX0 9 "RoleMiner" "granted" "[I", Cond.methodLink RX0 74 yX0_has]
def wsL_costOf_r2 : List Cond := [Cond.static yX0_has, Cond.code yX0_has cX0_has 2 (some .boolean), Cond.methodLink RX0 149 yX0_holdersOf, Cond.instanceMethod yX0_holdersOf, Cond.selects RX0 yX0_holdersOf yX0_holdersOf, Cond.code yX0_holdersOf cX0_holdersOf 4 (some .int), Cond.methodLink RX0 156 yX0_holds, Cond.instanceMethod yX0_holds, Cond.selects RX0 yX0_holds yX0_holds, Cond.code yX0_holds cX0_holds 3 (some .boolean), Cond.methodLink RX0 92 yJ6_bitCount_0f7a4, Cond.static yJ6_bitCount_0f7a4, Cond.initialized RJ6, Cond.code yJ6_bitCount_0f7a4 cJ6_bitCount_0f7a4 1 (some .int), Cond.constant RJ6 265 (1431655765), Cond.constant RJ6 266 (858993459), Cond.constant RJ6 267 (252645135), Cond.methodLink RX0 162 yX0_isProper, Cond.instanceMethod yX0_isProper, Cond.selects RX0 yX0_isProper yX0_isProper, Cond.code yX0_isProper cX0_isProper 3 (some .boolean), Cond.fieldLink RX0 16 "RoleMiner" "opposed" "[I", Cond.methodLink RX0 128 yX0_insertInOrder, Cond.static yX0_insertInOrder]
def wsL_costOf_r3 : List Cond := [Cond.code yX0_insertInOrder cX0_insertInOrder 4 (some .int), Cond.methodLink RX0 168 yX0_findCover, Cond.instanceMethod yX0_findCover, Cond.selects RX0 yX0_findCover yX0_findCover, Cond.code yX0_findCover cX0_findCover 8 none, Cond.fieldLink RX0 47 "RoleMiner" "lowCover" "[J", Cond.fieldLink RX0 51 "RoleMiner" "highCover" "[J", Cond.methodLink RX0 175 yX0_lowPart, Cond.static yX0_lowPart, Cond.code yX0_lowPart cX0_lowPart 2 (some .long), Cond.methodLink RX0 179 yX0_highPart, Cond.static yX0_highPart, Cond.code yX0_highPart cX0_highPart 2 (some .long), Cond.methodLink RX0 172 yX0_findAllLeft, Cond.instanceMethod yX0_findAllLeft, Cond.selects RX0 yX0_findAllLeft yX0_findAllLeft, Cond.code yX0_findAllLeft cX0_findAllLeft 6 none, Cond.fieldLink RX0 54 "RoleMiner" "lowLeft" "[J", Cond.fieldLink RX0 57 "RoleMiner" "highLeft" "[J", Cond.methodLink RX0 144 yX0_costOfChoice, Cond.instanceMethod yX0_costOfChoice, Cond.selects RX0 yX0_costOfChoice yX0_costOfChoice, Cond.code yX0_costOfChoice cX0_costOfChoice 7 (some .int), Cond.constantLong RX0 132 (-1)]
def wsL_costOf_r4 : List Cond := [Cond.methodLink RX0 134 yX0_costWith, Cond.instanceMethod yX0_costWith, Cond.selects RX0 yX0_costWith yX0_costWith, Cond.code yX0_costWith cX0_costWith 6 (some .int), Cond.fieldLink RX0 19 "RoleMiner" "roleCost" "I", Cond.fieldLink RX0 23 "RoleMiner" "exceptionCost" "I", Cond.methodLink RX0 182 yJ13_bitCount_95d88, Cond.static yJ13_bitCount_95d88, Cond.initialized RJ13, Cond.code yJ13_bitCount_95d88 cJ13_bitCount_95d88 2 (some .int), Cond.constantLong RJ13 314 (6148914691236517205), Cond.constantLong RJ13 316 (3689348814741910323), Cond.constantLong RJ13 318 (1085102592571150095)]
def wsL_costOf : List Cond := .codeWith yL_costOf cL_costOf 4 (some .int) [(0, 9, 12, 42), (0, 9, 15, 22)] :: ((wsL_costOf_r1 ++ (wsL_costOf_r2 ++ (wsL_costOf_r3 ++ wsL_costOf_r4))) ++ wsX00 ++ (vx_atS RX0 115 "java/lang/IllegalStateException" ["java/lang/RuntimeException", "java/lang/Exception"]).filter goodWord ++ (vx_atS RX0 91 "java/lang/IllegalArgumentException" ["java/lang/RuntimeException", "java/lang/Exception"]).filter goodWord)
def wsL_leastCost_r1 : List Cond := [Cond.classLink RL 42 "java/lang/IllegalStateException", Cond.methodLink RL 69 yX0_leastCost, Cond.instanceMethod yX0_leastCost, Cond.selects RX0 yX0_leastCost yX0_leastCost, Cond.initialized RX0, Cond.code yX0_leastCost cX0_leastCost 1 (some .int), Cond.classLink RX0 111 "java/lang/IllegalStateException", Cond.initialized "java/lang/IllegalStateException", Cond.fieldLink RX0 44 "RoleMiner" "candidateCount" "I", Cond.methodLink RX0 121 yX0_findCandidates, Cond.instanceMethod yX0_findCandidates, Cond.selects RX0 yX0_findCandidates yX0_findCandidates, Cond.code yX0_findCandidates cX0_findCandidates 4 none, Cond.fieldLink RX0 26 "RoleMiner" "support" "I", Cond.fieldLink RX0 41 "RoleMiner" "candidateSets" "[I", Cond.methodLink RX0 165 yX0_sharedBy, Cond.instanceMethod yX0_sharedBy, Cond.selects RX0 yX0_sharedBy yX0_sharedBy, Cond.code yX0_sharedBy cX0_sharedBy 4 (some .int), Cond.fieldLink RX0 9 "RoleMiner" "granted" "[I", Cond.methodLink RX0 74 yX0_has, Cond.static yX0_has, Cond.code yX0_has cX0_has 2 (some .boolean), Cond.methodLink RX0 149 yX0_holdersOf]
def wsL_leastCost_r2 : List Cond := [Cond.instanceMethod yX0_holdersOf, Cond.selects RX0 yX0_holdersOf yX0_holdersOf, Cond.code yX0_holdersOf cX0_holdersOf 4 (some .int), Cond.methodLink RX0 156 yX0_holds, Cond.instanceMethod yX0_holds, Cond.selects RX0 yX0_holds yX0_holds, Cond.code yX0_holds cX0_holds 3 (some .boolean), Cond.methodLink RX0 92 yJ6_bitCount_0f7a4, Cond.static yJ6_bitCount_0f7a4, Cond.initialized RJ6, Cond.code yJ6_bitCount_0f7a4 cJ6_bitCount_0f7a4 1 (some .int), Cond.constant RJ6 265 (1431655765), Cond.constant RJ6 266 (858993459), Cond.constant RJ6 267 (252645135), Cond.methodLink RX0 162 yX0_isProper, Cond.instanceMethod yX0_isProper, Cond.selects RX0 yX0_isProper yX0_isProper, Cond.code yX0_isProper cX0_isProper 3 (some .boolean), Cond.fieldLink RX0 16 "RoleMiner" "opposed" "[I", Cond.methodLink RX0 128 yX0_insertInOrder, Cond.static yX0_insertInOrder, Cond.code yX0_insertInOrder cX0_insertInOrder 4 (some .int), Cond.methodLink RX0 168 yX0_findCover, Cond.instanceMethod yX0_findCover]
def wsL_leastCost_r3 : List Cond := [Cond.selects RX0 yX0_findCover yX0_findCover, Cond.code yX0_findCover cX0_findCover 8 none, Cond.fieldLink RX0 47 "RoleMiner" "lowCover" "[J", Cond.fieldLink RX0 51 "RoleMiner" "highCover" "[J", Cond.methodLink RX0 175 yX0_lowPart, Cond.static yX0_lowPart, Cond.code yX0_lowPart cX0_lowPart 2 (some .long), Cond.methodLink RX0 179 yX0_highPart, Cond.static yX0_highPart, Cond.code yX0_highPart cX0_highPart 2 (some .long), Cond.methodLink RX0 172 yX0_findAllLeft, Cond.instanceMethod yX0_findAllLeft, Cond.selects RX0 yX0_findAllLeft yX0_findAllLeft, Cond.code yX0_findAllLeft cX0_findAllLeft 6 none, Cond.fieldLink RX0 54 "RoleMiner" "lowLeft" "[J", Cond.fieldLink RX0 57 "RoleMiner" "highLeft" "[J", Cond.methodLink RX0 140 yX0_bestChoice, Cond.instanceMethod yX0_bestChoice, Cond.selects RX0 yX0_bestChoice yX0_bestChoice, Cond.code yX0_bestChoice cX0_bestChoice 8 (some .int), Cond.methodLink RX0 187 Lib.Math.min.name, Cond.static Lib.Math.min.name, Cond.initialized "java/lang/Math", Cond.code Lib.Math.min.name Lib.Math.min.code 2 (some .int)]
def wsL_leastCost_r4 : List Cond := [Cond.constantLong RX0 132 (-1), Cond.methodLink RX0 144 yX0_costOfChoice, Cond.instanceMethod yX0_costOfChoice, Cond.selects RX0 yX0_costOfChoice yX0_costOfChoice, Cond.code yX0_costOfChoice cX0_costOfChoice 7 (some .int), Cond.methodLink RX0 134 yX0_costWith, Cond.instanceMethod yX0_costWith, Cond.selects RX0 yX0_costWith yX0_costWith, Cond.code yX0_costWith cX0_costWith 6 (some .int), Cond.fieldLink RX0 19 "RoleMiner" "roleCost" "I", Cond.fieldLink RX0 23 "RoleMiner" "exceptionCost" "I", Cond.methodLink RX0 182 yJ13_bitCount_95d88, Cond.static yJ13_bitCount_95d88, Cond.initialized RJ13, Cond.code yJ13_bitCount_95d88 cJ13_bitCount_95d88 2 (some .int), Cond.constantLong RJ13 314 (6148914691236517205), Cond.constantLong RJ13 316 (3689348814741910323), Cond.constantLong RJ13 318 (1085102592571150095), Cond.methodLink RX0 192 yJ6_numberOfTrailingZeros_0f7a4, Cond.static yJ6_numberOfTrailingZeros_0f7a4, Cond.code yJ6_numberOfTrailingZeros_0f7a4 cJ6_numberOfTrailingZeros_0f7a4 2 (some .int), Cond.constant RJ6 264 (65536), Cond.methodLink RX0 195 yX0_comesBefore, Cond.static yX0_comesBefore]
def wsL_leastCost_r5 : List Cond := [Cond.code yX0_comesBefore cX0_comesBefore 4 (some .boolean), Cond.methodLink RX0 198 yJ6_lowestOneBit_0f7a4, Cond.static yJ6_lowestOneBit_0f7a4, Cond.code yJ6_lowestOneBit_0f7a4 cJ6_lowestOneBit_0f7a4 1 (some .int)]
def wsL_leastCost : List Cond := .codeWith yL_leastCost cL_leastCost 3 (some .int) [(0, 8, 11, 42)] :: ((wsL_leastCost_r1 ++ (wsL_leastCost_r2 ++ (wsL_leastCost_r3 ++ (wsL_leastCost_r4 ++ wsL_leastCost_r5)))) ++ wsX00 ++ (vx_atS RX0 115 "java/lang/IllegalStateException" ["java/lang/RuntimeException", "java/lang/Exception"]).filter goodWord)
def wsL_role : List Cond := .codeWith yL_role cL_role 4 (some .int) [(0, 9, 12, 13)] :: ([.classLink RL 13 "java/lang/IndexOutOfBoundsException", .methodLink RL 72 yX0_role, .instanceMethod yX0_role, .selects RX0 yX0_role yX0_role, .initialized RX0, .code yX0_role cX0_role 2 (some .int), .classLink RX0 67 "java/lang/IndexOutOfBoundsException", .initialized "java/lang/IndexOutOfBoundsException", .fieldLink RX0 38 "RoleMiner" "roleCount" "I", .fieldLink RX0 35 "RoleMiner" "roleSets" "[I"] ++ wsX00 ++ (vx_atS RX0 71 "java/lang/IndexOutOfBoundsException" ["java/lang/RuntimeException", "java/lang/Exception"]).filter goodWord)
def wsL_rolesOf : List Cond := .codeWith yL_rolesOf cL_rolesOf 4 (some .int) [(0, 9, 12, 13)] :: ([.classLink RL 13 "java/lang/IndexOutOfBoundsException", .methodLink RL 75 yX0_rolesOf, .instanceMethod yX0_rolesOf, .selects RX0 yX0_rolesOf yX0_rolesOf, .initialized RX0, .code yX0_rolesOf cX0_rolesOf 4 (some .int), .classLink RX0 67 "java/lang/IndexOutOfBoundsException", .initialized "java/lang/IndexOutOfBoundsException", .fieldLink RX0 38 "RoleMiner" "roleCount" "I", .fieldLink RX0 35 "RoleMiner" "roleSets" "[I", .methodLink RX0 60 yX0_isUser, .static yX0_isUser, .code yX0_isUser cX0_isUser 1 (some .boolean), .methodLink RX0 156 yX0_holds, .instanceMethod yX0_holds, .selects RX0 yX0_holds yX0_holds, .code yX0_holds cX0_holds 3 (some .boolean), .fieldLink RX0 9 "RoleMiner" "granted" "[I"] ++ wsX00 ++ (vx_atS RX0 71 "java/lang/IndexOutOfBoundsException" ["java/lang/RuntimeException", "java/lang/Exception"]).filter goodWord)
def wsL_byRoles : List Cond := .codeWith yL_byRoles cL_byRoles 4 (some .int) [(0, 9, 12, 13)] :: ([.classLink RL 13 "java/lang/IndexOutOfBoundsException", .methodLink RL 78 yX0_byRoles, .instanceMethod yX0_byRoles, .selects RX0 yX0_byRoles yX0_byRoles, .initialized RX0, .code yX0_byRoles cX0_byRoles 2 (some .int), .classLink RX0 67 "java/lang/IndexOutOfBoundsException", .initialized "java/lang/IndexOutOfBoundsException", .methodLink RX0 60 yX0_isUser, .static yX0_isUser, .code yX0_isUser cX0_isUser 1 (some .boolean), .methodLink RX0 159 yX0_joinedRoles, .instanceMethod yX0_joinedRoles, .selects RX0 yX0_joinedRoles yX0_joinedRoles, .code yX0_joinedRoles cX0_joinedRoles 4 (some .int), .fieldLink RX0 38 "RoleMiner" "roleCount" "I", .fieldLink RX0 35 "RoleMiner" "roleSets" "[I", .methodLink RX0 156 yX0_holds, .instanceMethod yX0_holds, .selects RX0 yX0_holds yX0_holds, .code yX0_holds cX0_holds 3 (some .boolean), .fieldLink RX0 9 "RoleMiner" "granted" "[I"] ++ wsX00 ++ (vx_atS RX0 71 "java/lang/IndexOutOfBoundsException" ["java/lang/RuntimeException", "java/lang/Exception"]).filter goodWord)
def wsL_exceptions : List Cond := .codeWith yL_exceptions cL_exceptions 4 (some .int) [(0, 9, 12, 13)] :: ([.classLink RL 13 "java/lang/IndexOutOfBoundsException", .methodLink RL 81 yX0_exceptions, .instanceMethod yX0_exceptions, .selects RX0 yX0_exceptions yX0_exceptions, .initialized RX0, .code yX0_exceptions cX0_exceptions 2 (some .int), .classLink RX0 67 "java/lang/IndexOutOfBoundsException", .initialized "java/lang/IndexOutOfBoundsException", .fieldLink RX0 9 "RoleMiner" "granted" "[I", .methodLink RX0 60 yX0_isUser, .static yX0_isUser, .code yX0_isUser cX0_isUser 1 (some .boolean), .methodLink RX0 159 yX0_joinedRoles, .instanceMethod yX0_joinedRoles, .selects RX0 yX0_joinedRoles yX0_joinedRoles, .code yX0_joinedRoles cX0_joinedRoles 4 (some .int), .fieldLink RX0 38 "RoleMiner" "roleCount" "I", .fieldLink RX0 35 "RoleMiner" "roleSets" "[I", .methodLink RX0 156 yX0_holds, .instanceMethod yX0_holds, .selects RX0 yX0_holds yX0_holds, .code yX0_holds cX0_holds 3 (some .boolean)] ++ wsX00 ++ (vx_atS RX0 71 "java/lang/IndexOutOfBoundsException" ["java/lang/RuntimeException", "java/lang/Exception"]).filter goodWord)
def wsL_isRisky_r1 : List Cond := [Cond.classLink RL 13 "java/lang/IndexOutOfBoundsException", Cond.methodLink RL 84 yX0_isRisky, Cond.instanceMethod yX0_isRisky, Cond.selects RX0 yX0_isRisky yX0_isRisky, Cond.initialized RX0, Cond.code yX0_isRisky cX0_isRisky 4 (some .boolean), Cond.classLink RX0 67 "java/lang/IndexOutOfBoundsException", Cond.initialized "java/lang/IndexOutOfBoundsException", Cond.fieldLink RX0 38 "RoleMiner" "roleCount" "I", Cond.fieldLink RX0 35 "RoleMiner" "roleSets" "[I", Cond.methodLink RX0 162 yX0_isProper, Cond.instanceMethod yX0_isProper, Cond.selects RX0 yX0_isProper yX0_isProper, Cond.code yX0_isProper cX0_isProper 3 (some .boolean), Cond.fieldLink RX0 16 "RoleMiner" "opposed" "[I", Cond.methodLink RX0 74 yX0_has, Cond.static yX0_has, Cond.code yX0_has cX0_has 2 (some .boolean), Cond.methodLink RX0 149 yX0_holdersOf, Cond.instanceMethod yX0_holdersOf, Cond.selects RX0 yX0_holdersOf yX0_holdersOf, Cond.code yX0_holdersOf cX0_holdersOf 4 (some .int), Cond.methodLink RX0 156 yX0_holds, Cond.instanceMethod yX0_holds]
def wsL_isRisky_r2 : List Cond := [Cond.selects RX0 yX0_holds yX0_holds, Cond.code yX0_holds cX0_holds 3 (some .boolean), Cond.fieldLink RX0 9 "RoleMiner" "granted" "[I"]
def wsL_isRisky : List Cond := .codeWith yL_isRisky cL_isRisky 4 (some .int) [(0, 16, 19, 13)] :: ((wsL_isRisky_r1 ++ wsL_isRisky_r2) ++ wsX00 ++ (vx_atS RX0 71 "java/lang/IndexOutOfBoundsException" ["java/lang/RuntimeException", "java/lang/Exception"]).filter goodWord)
def wsL_law0_r1 : List Cond := [Cond.classLink RL 8 RX0, Cond.instantiable RX0 16, Cond.initialized RX0, Cond.classLink RL 89 RX1, Cond.instantiable RX1 16, Cond.initialized RX1, Cond.arrayClass .long, Cond.methodLink RL 88 yX0_init, Cond.instanceMethod yX0_init, Cond.code yX0_init cX0_init 1 none, Cond.methodLink RX0 1 objectInit, Cond.instanceMethod objectInit, Cond.code objectInit ⟨#[0xb1]⟩ 1 none, Cond.arrayClass .int, Cond.fieldLink RX0 9 "RoleMiner" "granted" "[I", Cond.fieldLink RX0 13 "RoleMiner" "remembered" "[I", Cond.fieldLink RX0 16 "RoleMiner" "opposed" "[I", Cond.fieldLink RX0 19 "RoleMiner" "roleCost" "I", Cond.fieldLink RX0 23 "RoleMiner" "exceptionCost" "I", Cond.fieldLink RX0 26 "RoleMiner" "support" "I", Cond.fieldLink RX0 29 "RoleMiner" "period" "I", Cond.fieldLink RX0 32 "RoleMiner" "quarter" "I", Cond.fieldLink RX0 35 "RoleMiner" "roleSets" "[I", Cond.fieldLink RX0 38 "RoleMiner" "roleCount" "I"]
def wsL_law0_r2 : List Cond := [Cond.fieldLink RX0 41 "RoleMiner" "candidateSets" "[I", Cond.fieldLink RX0 44 "RoleMiner" "candidateCount" "I", Cond.fieldLink RX0 47 "RoleMiner" "lowCover" "[J", Cond.fieldLink RX0 51 "RoleMiner" "highCover" "[J", Cond.fieldLink RX0 54 "RoleMiner" "lowLeft" "[J", Cond.fieldLink RX0 57 "RoleMiner" "highLeft" "[J", Cond.methodLink RL 91 yX1_init, Cond.instanceMethod yX1_init, Cond.code yX1_init cX1_init 1 none, Cond.methodLink RX1 1 objectInit, Cond.fieldLink RX1 7 "RoleMinerModel" "has" "[I", Cond.fieldLink RX1 13 "RoleMinerModel" "since" "[I", Cond.fieldLink RX1 16 "RoleMinerModel" "against" "[I", Cond.fieldLink RX1 19 "RoleMinerModel" "laid" "[I", Cond.fieldLink RX1 22 "RoleMinerModel" "found" "[I", Cond.fieldLink RX1 25 "RoleMinerModel" "common" "[I", Cond.fieldLink RX1 28 "RoleMinerModel" "cover" "[I", Cond.fieldLink RX1 31 "RoleMinerModel" "taken" "[I", Cond.fieldLink RX1 34 "RoleMinerModel" "roleCost" "I", Cond.fieldLink RX1 38 "RoleMinerModel" "exceptionCost" "I", Cond.fieldLink RX1 41 "RoleMinerModel" "support" "I", Cond.fieldLink RX1 44 "RoleMinerModel" "period" "I", Cond.methodLink RL 92 yL_grant, Cond.static yL_grant]
def wsL_law0_r3 : List Cond := [Cond.initialized RL, Cond.codeWith yL_grant cL_grant 5 (some .int) [(0, 17, 20, 13)], Cond.classLink RL 13 "java/lang/IndexOutOfBoundsException", Cond.methodLink RL 7 yX0_grant, Cond.instanceMethod yX0_grant, Cond.selects RX0 yX0_grant yX0_grant, Cond.code yX0_grant cX0_grant 3 (some .boolean), Cond.classLink RX0 67 "java/lang/IndexOutOfBoundsException", Cond.initialized "java/lang/IndexOutOfBoundsException", Cond.methodLink RX0 60 yX0_isUser, Cond.static yX0_isUser, Cond.code yX0_isUser cX0_isUser 1 (some .boolean), Cond.methodLink RX0 64 yX0_isPermission, Cond.static yX0_isPermission, Cond.code yX0_isPermission cX0_isPermission 1 (some .boolean), Cond.methodLink RX0 74 yX0_has, Cond.static yX0_has, Cond.code yX0_has cX0_has 2 (some .boolean), Cond.methodLink RX0 78 yX0_grantIndex, Cond.static yX0_grantIndex, Cond.code yX0_grantIndex cX0_grantIndex 2 (some .int), Cond.methodLink RL 97 yX1_grant, Cond.instanceMethod yX1_grant, Cond.selects RX1 yX1_grant yX1_grant]
def wsL_law0_r4 : List Cond := [Cond.code yX1_grant cX1_grant 3 (some .boolean), Cond.methodLink RX1 64 yX1_isUser, Cond.instanceMethod yX1_isUser, Cond.selects RX1 yX1_isUser yX1_isUser, Cond.code yX1_isUser cX1_isUser 2 (some .boolean), Cond.methodLink RX1 50 yX1_between, Cond.instanceMethod yX1_between, Cond.selects RX1 yX1_between yX1_between, Cond.code yX1_between cX1_between 4 (some .boolean), Cond.methodLink RX1 68 yX1_isPermission, Cond.instanceMethod yX1_isPermission, Cond.selects RX1 yX1_isPermission yX1_isPermission, Cond.code yX1_isPermission cX1_isPermission 2 (some .boolean), Cond.methodLink RX1 71 yX1_holds, Cond.instanceMethod yX1_holds, Cond.selects RX1 yX1_holds yX1_holds, Cond.code yX1_holds cX1_holds 2 (some .boolean), Cond.fieldLink RX1 47 "RoleMinerModel" "thrown" "I", Cond.methodLink RX1 54 yX1_isIn, Cond.instanceMethod yX1_isIn, Cond.selects RX1 yX1_isIn yX1_isIn, Cond.code yX1_isIn cX1_isIn 3 (some .boolean), Cond.methodLink RX1 74 yX1_give, Cond.instanceMethod yX1_give]
def wsL_law0_r5 : List Cond := [Cond.selects RX1 yX1_give yX1_give, Cond.code yX1_give cX1_give 3 none, Cond.fieldLink RX1 61 "RoleMinerModel" "time" "I", Cond.methodLink RL 98 yX1_thrown, Cond.instanceMethod yX1_thrown, Cond.selects RX1 yX1_thrown yX1_thrown, Cond.code yX1_thrown cX1_thrown 1 (some .int), Cond.methodLink RL 101 yL_revoke, Cond.static yL_revoke, Cond.codeWith yL_revoke cL_revoke 5 (some .int) [(0, 17, 20, 13)], Cond.methodLink RL 15 yX0_revoke, Cond.instanceMethod yX0_revoke, Cond.selects RX0 yX0_revoke yX0_revoke, Cond.code yX0_revoke cX0_revoke 4 (some .boolean), Cond.methodLink RL 103 yX1_revoke, Cond.instanceMethod yX1_revoke, Cond.selects RX1 yX1_revoke yX1_revoke, Cond.code yX1_revoke cX1_revoke 4 (some .boolean), Cond.methodLink RL 104 yL_setGrants, Cond.static yL_setGrants, Cond.codeWith yL_setGrants cL_setGrants 5 (some .int) [(0, 10, 13, 13), (0, 10, 17, 22)], Cond.classLink RL 22 "java/lang/IllegalArgumentException", Cond.methodLink RL 18 yX0_setGrants, Cond.instanceMethod yX0_setGrants]
def wsL_law0_r6 : List Cond := [Cond.selects RX0 yX0_setGrants yX0_setGrants, Cond.code yX0_setGrants cX0_setGrants 5 (some .int), Cond.classLink RX0 87 "java/lang/IllegalArgumentException", Cond.initialized "java/lang/IllegalArgumentException", Cond.methodLink RX0 84 yX0_isPermissionSet, Cond.static yX0_isPermissionSet, Cond.code yX0_isPermissionSet cX0_isPermissionSet 1 (some .boolean), Cond.methodLink RX0 92 yJ6_bitCount_0f7a4, Cond.static yJ6_bitCount_0f7a4, Cond.initialized RJ6, Cond.code yJ6_bitCount_0f7a4 cJ6_bitCount_0f7a4 1 (some .int), Cond.constant RJ6 265 (1431655765), Cond.constant RJ6 266 (858993459), Cond.constant RJ6 267 (252645135), Cond.methodLink RL 106 yX1_setGrants, Cond.instanceMethod yX1_setGrants, Cond.selects RX1 yX1_setGrants yX1_setGrants, Cond.code yX1_setGrants cX1_setGrants 5 (some .int), Cond.methodLink RX1 78 yX1_size, Cond.instanceMethod yX1_size, Cond.selects RX1 yX1_size yX1_size, Cond.code yX1_size cX1_size 4 (some .int), Cond.methodLink RL 107 yL_setConflict, Cond.static yL_setConflict]
def wsL_law0_r7 : List Cond := [Cond.codeWith yL_setConflict cL_setConflict 6 (some .int) [(0, 19, 22, 13), (0, 19, 26, 22)], Cond.methodLink RL 24 yX0_setConflict, Cond.instanceMethod yX0_setConflict, Cond.selects RX0 yX0_setConflict yX0_setConflict, Cond.code yX0_setConflict cX0_setConflict 5 (some .boolean), Cond.methodLink RL 110 yX1_setConflict, Cond.instanceMethod yX1_setConflict, Cond.selects RX1 yX1_setConflict yX1_setConflict, Cond.code yX1_setConflict cX1_setConflict 5 (some .boolean), Cond.methodLink RL 111 yL_setCosts, Cond.static yL_setCosts, Cond.codeWith yL_setCosts cL_setCosts 4 (some .int) [(0, 6, 9, 22)], Cond.methodLink RL 28 yX0_setCosts, Cond.instanceMethod yX0_setCosts, Cond.selects RX0 yX0_setCosts yX0_setCosts, Cond.code yX0_setCosts cX0_setCosts 3 none, Cond.methodLink RX0 102 yX0_isCost, Cond.static yX0_isCost, Cond.code yX0_isCost cX0_isCost 1 (some .boolean), Cond.methodLink RL 114 yX1_setCosts, Cond.instanceMethod yX1_setCosts, Cond.selects RX1 yX1_setCosts yX1_setCosts, Cond.code yX1_setCosts cX1_setCosts 3 none, Cond.methodLink RL 115 yL_setSupport]
def wsL_law0_r8 : List Cond := [Cond.static yL_setSupport, Cond.codeWith yL_setSupport cL_setSupport 4 (some .int) [(0, 9, 12, 22)], Cond.methodLink RL 32 yX0_setSupport, Cond.instanceMethod yX0_setSupport, Cond.selects RX0 yX0_setSupport yX0_setSupport, Cond.code yX0_setSupport cX0_setSupport 3 (some .int), Cond.methodLink RL 118 yX1_setSupport, Cond.instanceMethod yX1_setSupport, Cond.selects RX1 yX1_setSupport yX1_setSupport, Cond.code yX1_setSupport cX1_setSupport 3 (some .int), Cond.methodLink RL 119 yL_setPeriod, Cond.static yL_setPeriod, Cond.codeWith yL_setPeriod cL_setPeriod 4 (some .int) [(0, 9, 12, 22)], Cond.methodLink RL 36 yX0_setPeriod, Cond.instanceMethod yX0_setPeriod, Cond.selects RX0 yX0_setPeriod yX0_setPeriod, Cond.code yX0_setPeriod cX0_setPeriod 3 (some .int), Cond.methodLink RL 121 yX1_setPeriod, Cond.instanceMethod yX1_setPeriod, Cond.selects RX1 yX1_setPeriod yX1_setPeriod, Cond.code yX1_setPeriod cX1_setPeriod 3 (some .int), Cond.methodLink RL 122 yL_review, Cond.static yL_review, Cond.codeWith yL_review cL_review 5 (some .int) [(0, 10, 13, 13), (0, 10, 17, 42)]]
def wsL_law0_r9 : List Cond := [Cond.classLink RL 42 "java/lang/IllegalStateException", Cond.methodLink RL 39 yX0_review, Cond.instanceMethod yX0_review, Cond.selects RX0 yX0_review yX0_review, Cond.code yX0_review cX0_review 5 (some .int), Cond.classLink RX0 111 "java/lang/IllegalStateException", Cond.initialized "java/lang/IllegalStateException", Cond.methodLink RL 124 yX1_review, Cond.instanceMethod yX1_review, Cond.selects RX1 yX1_review yX1_review, Cond.code yX1_review cX1_review 4 (some .int), Cond.methodLink RL 125 yL_nextQuarter, Cond.static yL_nextQuarter, Cond.codeWith yL_nextQuarter cL_nextQuarter 3 (some .int) [(0, 8, 11, 42)], Cond.methodLink RL 44 yX0_nextQuarter, Cond.instanceMethod yX0_nextQuarter, Cond.selects RX0 yX0_nextQuarter yX0_nextQuarter, Cond.code yX0_nextQuarter cX0_nextQuarter 4 (some .int), Cond.methodLink RX0 118 yX0_lapsingIn, Cond.instanceMethod yX0_lapsingIn, Cond.selects RX0 yX0_lapsingIn yX0_lapsingIn, Cond.code yX0_lapsingIn cX0_lapsingIn 6 (some .int), Cond.methodLink RL 128 yX1_nextQuarter, Cond.instanceMethod yX1_nextQuarter]
def wsL_law0_r10 : List Cond := [Cond.selects RX1 yX1_nextQuarter yX1_nextQuarter, Cond.code yX1_nextQuarter cX1_nextQuarter 4 (some .int), Cond.methodLink RX1 82 yX1_old, Cond.instanceMethod yX1_old, Cond.selects RX1 yX1_old yX1_old, Cond.code yX1_old cX1_old 5 (some .int), Cond.methodLink RL 129 yX0_mineGreedily, Cond.instanceMethod yX0_mineGreedily, Cond.selects RX0 yX0_mineGreedily yX0_mineGreedily, Cond.code yX0_mineGreedily cX0_mineGreedily 7 (some .int), Cond.constantLong RX0 132 (-1), Cond.methodLink RX0 121 yX0_findCandidates, Cond.instanceMethod yX0_findCandidates, Cond.selects RX0 yX0_findCandidates yX0_findCandidates, Cond.code yX0_findCandidates cX0_findCandidates 4 none, Cond.methodLink RX0 165 yX0_sharedBy, Cond.instanceMethod yX0_sharedBy, Cond.selects RX0 yX0_sharedBy yX0_sharedBy, Cond.code yX0_sharedBy cX0_sharedBy 4 (some .int), Cond.methodLink RX0 149 yX0_holdersOf, Cond.instanceMethod yX0_holdersOf, Cond.selects RX0 yX0_holdersOf yX0_holdersOf, Cond.code yX0_holdersOf cX0_holdersOf 4 (some .int), Cond.methodLink RX0 156 yX0_holds]
def wsL_law0_r11 : List Cond := [Cond.instanceMethod yX0_holds, Cond.selects RX0 yX0_holds yX0_holds, Cond.code yX0_holds cX0_holds 3 (some .boolean), Cond.methodLink RX0 162 yX0_isProper, Cond.instanceMethod yX0_isProper, Cond.selects RX0 yX0_isProper yX0_isProper, Cond.code yX0_isProper cX0_isProper 3 (some .boolean), Cond.methodLink RX0 128 yX0_insertInOrder, Cond.static yX0_insertInOrder, Cond.code yX0_insertInOrder cX0_insertInOrder 4 (some .int), Cond.methodLink RX0 168 yX0_findCover, Cond.instanceMethod yX0_findCover, Cond.selects RX0 yX0_findCover yX0_findCover, Cond.code yX0_findCover cX0_findCover 8 none, Cond.methodLink RX0 175 yX0_lowPart, Cond.static yX0_lowPart, Cond.code yX0_lowPart cX0_lowPart 2 (some .long), Cond.methodLink RX0 179 yX0_highPart, Cond.static yX0_highPart, Cond.code yX0_highPart cX0_highPart 2 (some .long), Cond.methodLink RX0 172 yX0_findAllLeft, Cond.instanceMethod yX0_findAllLeft, Cond.selects RX0 yX0_findAllLeft yX0_findAllLeft, Cond.code yX0_findAllLeft cX0_findAllLeft 6 none]
def wsL_law0_r12 : List Cond := [Cond.methodLink RX0 124 yX0_mostSavingCandidate, Cond.instanceMethod yX0_mostSavingCandidate, Cond.selects RX0 yX0_mostSavingCandidate yX0_mostSavingCandidate, Cond.code yX0_mostSavingCandidate cX0_mostSavingCandidate 10 (some .int), Cond.methodLink RX0 182 yJ13_bitCount_95d88, Cond.static yJ13_bitCount_95d88, Cond.initialized RJ13, Cond.code yJ13_bitCount_95d88 cJ13_bitCount_95d88 2 (some .int), Cond.constantLong RJ13 314 (6148914691236517205), Cond.constantLong RJ13 316 (3689348814741910323), Cond.constantLong RJ13 318 (1085102592571150095), Cond.methodLink RX0 134 yX0_costWith, Cond.instanceMethod yX0_costWith, Cond.selects RX0 yX0_costWith yX0_costWith, Cond.code yX0_costWith cX0_costWith 6 (some .int), Cond.methodLink RL 132 yX1_mineGreedily, Cond.instanceMethod yX1_mineGreedily, Cond.selects RX1 yX1_mineGreedily yX1_mineGreedily, Cond.code yX1_mineGreedily cX1_mineGreedily 6 (some .int), Cond.fieldLink RX1 86 "RoleMinerModel" "number" "I", Cond.fieldLink RX1 112 "RoleMinerModel" "many" "I", Cond.methodLink RX1 106 yX1_find, Cond.instanceMethod yX1_find, Cond.selects RX1 yX1_find yX1_find]
def wsL_law0_r13 : List Cond := [Cond.code yX1_find cX1_find 4 none, Cond.methodLink RX1 89 yX1_isProper, Cond.instanceMethod yX1_isProper, Cond.selects RX1 yX1_isProper yX1_isProper, Cond.code yX1_isProper cX1_isProper 3 (some .boolean), Cond.methodLink RX1 92 yX1_whoHas, Cond.instanceMethod yX1_whoHas, Cond.selects RX1 yX1_whoHas yX1_whoHas, Cond.code yX1_whoHas cX1_whoHas 4 (some .int), Cond.methodLink RX1 58 yX1_isWithin, Cond.instanceMethod yX1_isWithin, Cond.selects RX1 yX1_isWithin yX1_isWithin, Cond.code yX1_isWithin cX1_isWithin 3 (some .boolean), Cond.methodLink RX1 95 yX1_uncover, Cond.instanceMethod yX1_uncover, Cond.selects RX1 yX1_uncover yX1_uncover, Cond.code yX1_uncover cX1_uncover 2 none, Cond.methodLink RX1 109 yX1_gain, Cond.instanceMethod yX1_gain, Cond.selects RX1 yX1_gain yX1_gain, Cond.code yX1_gain cX1_gain 4 (some .int), Cond.methodLink RX1 98 yX1_add, Cond.instanceMethod yX1_add, Cond.selects RX1 yX1_add yX1_add]
def wsL_law0_r14 : List Cond := [Cond.code yX1_add cX1_add 3 none, Cond.methodLink RX1 102 yX1_uncovered, Cond.instanceMethod yX1_uncovered, Cond.selects RX1 yX1_uncovered yX1_uncovered, Cond.code yX1_uncovered cX1_uncovered 3 (some .int), Cond.methodLink RL 133 yL_mineBest, Cond.static yL_mineBest, Cond.codeWith yL_mineBest cL_mineBest 3 (some .int) [(0, 8, 11, 42)], Cond.methodLink RL 48 yX0_mineBest, Cond.instanceMethod yX0_mineBest, Cond.selects RX0 yX0_mineBest yX0_mineBest, Cond.code yX0_mineBest cX0_mineBest 3 (some .int), Cond.methodLink RX0 140 yX0_bestChoice, Cond.instanceMethod yX0_bestChoice, Cond.selects RX0 yX0_bestChoice yX0_bestChoice, Cond.code yX0_bestChoice cX0_bestChoice 8 (some .int), Cond.methodLink RX0 187 Lib.Math.min.name, Cond.static Lib.Math.min.name, Cond.initialized "java/lang/Math", Cond.code Lib.Math.min.name Lib.Math.min.code 2 (some .int), Cond.methodLink RX0 144 yX0_costOfChoice, Cond.instanceMethod yX0_costOfChoice, Cond.selects RX0 yX0_costOfChoice yX0_costOfChoice, Cond.code yX0_costOfChoice cX0_costOfChoice 7 (some .int)]
def wsL_law0_r15 : List Cond := [Cond.methodLink RX0 192 yJ6_numberOfTrailingZeros_0f7a4, Cond.static yJ6_numberOfTrailingZeros_0f7a4, Cond.code yJ6_numberOfTrailingZeros_0f7a4 cJ6_numberOfTrailingZeros_0f7a4 2 (some .int), Cond.constant RJ6 264 (65536), Cond.methodLink RX0 195 yX0_comesBefore, Cond.static yX0_comesBefore, Cond.code yX0_comesBefore cX0_comesBefore 4 (some .boolean), Cond.methodLink RX0 198 yJ6_lowestOneBit_0f7a4, Cond.static yJ6_lowestOneBit_0f7a4, Cond.code yJ6_lowestOneBit_0f7a4 cJ6_lowestOneBit_0f7a4 1 (some .int), Cond.methodLink RL 135 yX1_mineBest, Cond.instanceMethod yX1_mineBest, Cond.selects RX1 yX1_mineBest yX1_mineBest, Cond.code yX1_mineBest cX1_mineBest 3 (some .int), Cond.methodLink RX1 121 yX1_isTooMuch, Cond.instanceMethod yX1_isTooMuch, Cond.selects RX1 yX1_isTooMuch yX1_isTooMuch, Cond.code yX1_isTooMuch cX1_isTooMuch 1 (some .boolean), Cond.methodLink RX1 125 yX1_best, Cond.instanceMethod yX1_best, Cond.selects RX1 yX1_best yX1_best, Cond.code yX1_best cX1_best 5 (some .int), Cond.methodLink RX1 115 yX1_price, Cond.instanceMethod yX1_price]
def wsL_law0_r16 : List Cond := [Cond.selects RX1 yX1_price yX1_price, Cond.code yX1_price cX1_price 3 (some .int), Cond.methodLink RX1 118 yX1_precedes, Cond.instanceMethod yX1_precedes, Cond.selects RX1 yX1_precedes yX1_precedes, Cond.code yX1_precedes cX1_precedes 6 (some .boolean), Cond.methodLink RL 136 yX0_dropRoles, Cond.instanceMethod yX0_dropRoles, Cond.selects RX0 yX0_dropRoles yX0_dropRoles, Cond.code yX0_dropRoles cX0_dropRoles 2 (some .int), Cond.methodLink RL 139 yX1_dropRoles, Cond.instanceMethod yX1_dropRoles, Cond.selects RX1 yX1_dropRoles yX1_dropRoles, Cond.code yX1_dropRoles cX1_dropRoles 2 (some .int), Cond.methodLink RX1 128 yX1_plain, Cond.instanceMethod yX1_plain, Cond.selects RX1 yX1_plain yX1_plain, Cond.code yX1_plain cX1_plain 2 (some .int), Cond.methodLink RL 140 yL_permissions, Cond.static yL_permissions, Cond.codeWith yL_permissions cL_permissions 4 (some .int) [(0, 9, 12, 13)], Cond.methodLink RL 51 yX0_permissions, Cond.instanceMethod yX0_permissions, Cond.selects RX0 yX0_permissions yX0_permissions]
def wsL_law0_r17 : List Cond := [Cond.code yX0_permissions cX0_permissions 2 (some .int), Cond.methodLink RL 142 yX1_permissions, Cond.instanceMethod yX1_permissions, Cond.selects RX1 yX1_permissions yX1_permissions, Cond.code yX1_permissions cX1_permissions 2 (some .int), Cond.methodLink RL 143 yX0_grants, Cond.instanceMethod yX0_grants, Cond.selects RX0 yX0_grants yX0_grants, Cond.code yX0_grants cX0_grants 3 (some .int), Cond.methodLink RL 146 yX1_grants, Cond.instanceMethod yX1_grants, Cond.selects RX1 yX1_grants yX1_grants, Cond.code yX1_grants cX1_grants 1 (some .int), Cond.methodLink RL 147 yL_violations, Cond.static yL_violations, Cond.codeWith yL_violations cL_violations 4 (some .int) [(0, 9, 12, 13)], Cond.methodLink RL 54 yX0_violations, Cond.instanceMethod yX0_violations, Cond.selects RX0 yX0_violations yX0_violations, Cond.code yX0_violations cX0_violations 4 (some .int), Cond.methodLink RL 149 yX1_violations, Cond.instanceMethod yX1_violations, Cond.selects RX1 yX1_violations yX1_violations, Cond.code yX1_violations cX1_violations 4 (some .int)]
def wsL_law0_r18 : List Cond := [Cond.methodLink RL 150 yX0_quarter, Cond.instanceMethod yX0_quarter, Cond.selects RX0 yX0_quarter yX0_quarter, Cond.code yX0_quarter cX0_quarter 1 (some .int), Cond.methodLink RL 153 yX1_quarter, Cond.instanceMethod yX1_quarter, Cond.selects RX1 yX1_quarter yX1_quarter, Cond.code yX1_quarter cX1_quarter 1 (some .int), Cond.methodLink RL 154 yL_due, Cond.static yL_due, Cond.codeWith yL_due cL_due 4 (some .int) [(0, 9, 12, 13)], Cond.methodLink RL 57 yX0_due, Cond.instanceMethod yX0_due, Cond.selects RX0 yX0_due yX0_due, Cond.code yX0_due cX0_due 2 (some .int), Cond.methodLink RL 156 yX1_due, Cond.instanceMethod yX1_due, Cond.selects RX1 yX1_due yX1_due, Cond.code yX1_due cX1_due 2 (some .int), Cond.methodLink RL 157 yX0_candidates, Cond.instanceMethod yX0_candidates, Cond.selects RX0 yX0_candidates yX0_candidates, Cond.code yX0_candidates cX0_candidates 1 (some .int), Cond.methodLink RL 160 yX1_candidates]
def wsL_law0_r19 : List Cond := [Cond.instanceMethod yX1_candidates, Cond.selects RX1 yX1_candidates yX1_candidates, Cond.code yX1_candidates cX1_candidates 1 (some .int), Cond.methodLink RL 161 yL_candidate, Cond.static yL_candidate, Cond.codeWith yL_candidate cL_candidate 4 (some .int) [(0, 9, 12, 13)], Cond.methodLink RL 60 yX0_candidate, Cond.instanceMethod yX0_candidate, Cond.selects RX0 yX0_candidate yX0_candidate, Cond.code yX0_candidate cX0_candidate 2 (some .int), Cond.methodLink RL 163 yX1_candidate, Cond.instanceMethod yX1_candidate, Cond.selects RX1 yX1_candidate yX1_candidate, Cond.code yX1_candidate cX1_candidate 2 (some .int), Cond.methodLink RL 164 yL_holders, Cond.static yL_holders, Cond.codeWith yL_holders cL_holders 4 (some .int) [(0, 9, 12, 22)], Cond.methodLink RL 63 yX0_holders, Cond.instanceMethod yX0_holders, Cond.selects RX0 yX0_holders yX0_holders, Cond.code yX0_holders cX0_holders 2 (some .int), Cond.methodLink RL 166 yX1_holders, Cond.instanceMethod yX1_holders, Cond.selects RX1 yX1_holders yX1_holders]
def wsL_law0_r20 : List Cond := [Cond.code yX1_holders cX1_holders 2 (some .int), Cond.methodLink RL 167 yL_costOf, Cond.static yL_costOf, Cond.codeWith yL_costOf cL_costOf 4 (some .int) [(0, 9, 12, 42), (0, 9, 15, 22)], Cond.methodLink RL 66 yX0_costOf, Cond.instanceMethod yX0_costOf, Cond.selects RX0 yX0_costOf yX0_costOf, Cond.code yX0_costOf cX0_costOf 2 (some .int), Cond.methodLink RL 169 yX1_costOf, Cond.instanceMethod yX1_costOf, Cond.selects RX1 yX1_costOf yX1_costOf, Cond.code yX1_costOf cX1_costOf 2 (some .int), Cond.methodLink RL 170 yL_leastCost, Cond.static yL_leastCost, Cond.codeWith yL_leastCost cL_leastCost 3 (some .int) [(0, 8, 11, 42)], Cond.methodLink RL 69 yX0_leastCost, Cond.instanceMethod yX0_leastCost, Cond.selects RX0 yX0_leastCost yX0_leastCost, Cond.code yX0_leastCost cX0_leastCost 1 (some .int), Cond.methodLink RL 172 yX1_leastCost, Cond.instanceMethod yX1_leastCost, Cond.selects RX1 yX1_leastCost yX1_leastCost, Cond.code yX1_leastCost cX1_leastCost 4 (some .int), Cond.methodLink RL 173 yX0_roles]
def wsL_law0_r21 : List Cond := [Cond.instanceMethod yX0_roles, Cond.selects RX0 yX0_roles yX0_roles, Cond.code yX0_roles cX0_roles 1 (some .int), Cond.methodLink RL 176 yX1_roles, Cond.instanceMethod yX1_roles, Cond.selects RX1 yX1_roles yX1_roles, Cond.code yX1_roles cX1_roles 1 (some .int), Cond.methodLink RL 177 yL_role, Cond.static yL_role, Cond.codeWith yL_role cL_role 4 (some .int) [(0, 9, 12, 13)], Cond.methodLink RL 72 yX0_role, Cond.instanceMethod yX0_role, Cond.selects RX0 yX0_role yX0_role, Cond.code yX0_role cX0_role 2 (some .int), Cond.methodLink RL 179 yX1_role, Cond.instanceMethod yX1_role, Cond.selects RX1 yX1_role yX1_role, Cond.code yX1_role cX1_role 2 (some .int), Cond.methodLink RX1 131 yX1_isRole, Cond.instanceMethod yX1_isRole, Cond.selects RX1 yX1_isRole yX1_isRole, Cond.code yX1_isRole cX1_isRole 2 (some .boolean), Cond.methodLink RL 180 yL_rolesOf, Cond.static yL_rolesOf]
def wsL_law0_r22 : List Cond := [Cond.codeWith yL_rolesOf cL_rolesOf 4 (some .int) [(0, 9, 12, 13)], Cond.methodLink RL 75 yX0_rolesOf, Cond.instanceMethod yX0_rolesOf, Cond.selects RX0 yX0_rolesOf yX0_rolesOf, Cond.code yX0_rolesOf cX0_rolesOf 4 (some .int), Cond.methodLink RL 182 yX1_rolesOf, Cond.instanceMethod yX1_rolesOf, Cond.selects RX1 yX1_rolesOf yX1_rolesOf, Cond.code yX1_rolesOf cX1_rolesOf 4 (some .int), Cond.methodLink RL 183 yL_byRoles, Cond.static yL_byRoles, Cond.codeWith yL_byRoles cL_byRoles 4 (some .int) [(0, 9, 12, 13)], Cond.methodLink RL 78 yX0_byRoles, Cond.instanceMethod yX0_byRoles, Cond.selects RX0 yX0_byRoles yX0_byRoles, Cond.code yX0_byRoles cX0_byRoles 2 (some .int), Cond.methodLink RX0 159 yX0_joinedRoles, Cond.instanceMethod yX0_joinedRoles, Cond.selects RX0 yX0_joinedRoles yX0_joinedRoles, Cond.code yX0_joinedRoles cX0_joinedRoles 4 (some .int), Cond.methodLink RL 185 yX1_byRoles, Cond.instanceMethod yX1_byRoles, Cond.selects RX1 yX1_byRoles yX1_byRoles, Cond.code yX1_byRoles cX1_byRoles 2 (some .int)]
def wsL_law0_r23 : List Cond := [Cond.methodLink RX1 134 yX1_gotten, Cond.instanceMethod yX1_gotten, Cond.selects RX1 yX1_gotten yX1_gotten, Cond.code yX1_gotten cX1_gotten 4 (some .int), Cond.methodLink RL 186 yL_exceptions, Cond.static yL_exceptions, Cond.codeWith yL_exceptions cL_exceptions 4 (some .int) [(0, 9, 12, 13)], Cond.methodLink RL 81 yX0_exceptions, Cond.instanceMethod yX0_exceptions, Cond.selects RX0 yX0_exceptions yX0_exceptions, Cond.code yX0_exceptions cX0_exceptions 2 (some .int), Cond.methodLink RL 188 yX1_exceptions, Cond.instanceMethod yX1_exceptions, Cond.selects RX1 yX1_exceptions yX1_exceptions, Cond.code yX1_exceptions cX1_exceptions 2 (some .int), Cond.methodLink RL 189 yX0_cost, Cond.instanceMethod yX0_cost, Cond.selects RX0 yX0_cost yX0_cost, Cond.code yX0_cost cX0_cost 3 (some .int), Cond.methodLink RL 192 yX1_cost, Cond.instanceMethod yX1_cost, Cond.selects RX1 yX1_cost yX1_cost, Cond.code yX1_cost cX1_cost 3 (some .int), Cond.methodLink RL 193 yL_isRisky]
def wsL_law0_r24 : List Cond := [Cond.static yL_isRisky, Cond.codeWith yL_isRisky cL_isRisky 4 (some .int) [(0, 16, 19, 13)], Cond.methodLink RL 84 yX0_isRisky, Cond.instanceMethod yX0_isRisky, Cond.selects RX0 yX0_isRisky yX0_isRisky, Cond.code yX0_isRisky cX0_isRisky 4 (some .boolean), Cond.methodLink RL 195 yX1_isRisky, Cond.instanceMethod yX1_isRisky, Cond.selects RX1 yX1_isRisky yX1_isRisky, Cond.code yX1_isRisky cX1_isRisky 4 (some .boolean)]
def wsL_law0 : List Cond := (wsL_law0_r1 ++ (wsL_law0_r2 ++ (wsL_law0_r3 ++ (wsL_law0_r4 ++ (wsL_law0_r5 ++ (wsL_law0_r6 ++ (wsL_law0_r7 ++ (wsL_law0_r8 ++ (wsL_law0_r9 ++ (wsL_law0_r10 ++ (wsL_law0_r11 ++ (wsL_law0_r12 ++ (wsL_law0_r13 ++ (wsL_law0_r14 ++ (wsL_law0_r15 ++ (wsL_law0_r16 ++ (wsL_law0_r17 ++ (wsL_law0_r18 ++ (wsL_law0_r19 ++ (wsL_law0_r20 ++ (wsL_law0_r21 ++ (wsL_law0_r22 ++ (wsL_law0_r23 ++ wsL_law0_r24))))))))))))))))))))))) ++ wsX00 ++ wsX10 ++ ([] : List Cond)
def wsL_law : List Cond := wsL_law0 ++ (vx_atS RX0 71 "java/lang/IndexOutOfBoundsException" ["java/lang/RuntimeException", "java/lang/Exception"]).filter goodWord ++ (vx_atS RX0 91 "java/lang/IllegalArgumentException" ["java/lang/RuntimeException", "java/lang/Exception"]).filter goodWord ++ (vx_atS RX0 115 "java/lang/IllegalStateException" ["java/lang/RuntimeException", "java/lang/Exception"]).filter goodWord
abbrev vwCl : List vw_C := [(RX0, TX0, 16), (RX1, TX1, 16)]
end
section
theorem dX0_init_0 : decode cX0_init 0 = .ok (.aload_n 0, 1) := by decide +kernel
theorem dX0_init_1 : decode cX0_init 1 = .ok (.invokespecial 1, 3) := by decide +kernel
theorem dX0_init_4 : decode cX0_init 4 = .ok (.aload_n 0, 1) := by decide +kernel
theorem dX0_init_5 : decode cX0_init 5 = .ok (.bipush 8, 2) := by decide +kernel
theorem dX0_init_7 : decode cX0_init 7 = .ok (.newarray .int, 2) := by decide +kernel
theorem dX0_init_9 : decode cX0_init 9 = .ok (.putfield 9, 3) := by decide +kernel
theorem dX0_init_12 : decode cX0_init 12 = .ok (.aload_n 0, 1) := by decide +kernel
theorem dX0_init_13 : decode cX0_init 13 = .ok (.bipush 96, 2) := by decide +kernel
theorem dX0_init_15 : decode cX0_init 15 = .ok (.newarray .int, 2) := by decide +kernel
theorem dX0_init_17 : decode cX0_init 17 = .ok (.putfield 13, 3) := by decide +kernel
theorem dX0_init_20 : decode cX0_init 20 = .ok (.aload_n 0, 1) := by decide +kernel
theorem dX0_init_21 : decode cX0_init 21 = .ok (.bipush 12, 2) := by decide +kernel
theorem dX0_init_23 : decode cX0_init 23 = .ok (.newarray .int, 2) := by decide +kernel
theorem dX0_init_25 : decode cX0_init 25 = .ok (.putfield 16, 3) := by decide +kernel
theorem dX0_init_28 : decode cX0_init 28 = .ok (.aload_n 0, 1) := by decide +kernel
theorem dX0_init_29 : decode cX0_init 29 = .ok (.iconst 5, 1) := by decide +kernel
theorem dX0_init_30 : decode cX0_init 30 = .ok (.putfield 19, 3) := by decide +kernel
theorem dX0_init_33 : decode cX0_init 33 = .ok (.aload_n 0, 1) := by decide +kernel
theorem dX0_init_34 : decode cX0_init 34 = .ok (.iconst 2, 1) := by decide +kernel
theorem dX0_init_35 : decode cX0_init 35 = .ok (.putfield 23, 3) := by decide +kernel
theorem dX0_init_38 : decode cX0_init 38 = .ok (.aload_n 0, 1) := by decide +kernel
theorem dX0_init_39 : decode cX0_init 39 = .ok (.iconst 1, 1) := by decide +kernel
theorem dX0_init_40 : decode cX0_init 40 = .ok (.putfield 26, 3) := by decide +kernel
theorem dX0_init_43 : decode cX0_init 43 = .ok (.aload_n 0, 1) := by decide +kernel
theorem dX0_init_44 : decode cX0_init 44 = .ok (.iconst 4, 1) := by decide +kernel
theorem dX0_init_45 : decode cX0_init 45 = .ok (.putfield 29, 3) := by decide +kernel
theorem dX0_init_48 : decode cX0_init 48 = .ok (.aload_n 0, 1) := by decide +kernel
theorem dX0_init_49 : decode cX0_init 49 = .ok (.iconst 0, 1) := by decide +kernel
theorem dX0_init_50 : decode cX0_init 50 = .ok (.putfield 32, 3) := by decide +kernel
theorem dX0_init_53 : decode cX0_init 53 = .ok (.aload_n 0, 1) := by decide +kernel
theorem dX0_init_54 : decode cX0_init 54 = .ok (.sipush 255, 3) := by decide +kernel
theorem dX0_init_57 : decode cX0_init 57 = .ok (.newarray .int, 2) := by decide +kernel
theorem dX0_init_59 : decode cX0_init 59 = .ok (.putfield 35, 3) := by decide +kernel
theorem dX0_init_62 : decode cX0_init 62 = .ok (.aload_n 0, 1) := by decide +kernel
theorem dX0_init_63 : decode cX0_init 63 = .ok (.iconst 0, 1) := by decide +kernel
theorem dX0_init_64 : decode cX0_init 64 = .ok (.putfield 38, 3) := by decide +kernel
theorem dX0_init_67 : decode cX0_init 67 = .ok (.aload_n 0, 1) := by decide +kernel
theorem dX0_init_68 : decode cX0_init 68 = .ok (.sipush 255, 3) := by decide +kernel
theorem dX0_init_71 : decode cX0_init 71 = .ok (.newarray .int, 2) := by decide +kernel
theorem dX0_init_73 : decode cX0_init 73 = .ok (.putfield 41, 3) := by decide +kernel
theorem dX0_init_76 : decode cX0_init 76 = .ok (.aload_n 0, 1) := by decide +kernel
theorem dX0_init_77 : decode cX0_init 77 = .ok (.iconst 0, 1) := by decide +kernel
theorem dX0_init_78 : decode cX0_init 78 = .ok (.putfield 44, 3) := by decide +kernel
theorem dX0_init_81 : decode cX0_init 81 = .ok (.aload_n 0, 1) := by decide +kernel
theorem dX0_init_82 : decode cX0_init 82 = .ok (.sipush 255, 3) := by decide +kernel
theorem dX0_init_85 : decode cX0_init 85 = .ok (.newarray .long, 2) := by decide +kernel
theorem dX0_init_87 : decode cX0_init 87 = .ok (.putfield 47, 3) := by decide +kernel
theorem dX0_init_90 : decode cX0_init 90 = .ok (.aload_n 0, 1) := by decide +kernel
theorem dX0_init_91 : decode cX0_init 91 = .ok (.sipush 255, 3) := by decide +kernel
theorem dX0_init_94 : decode cX0_init 94 = .ok (.newarray .long, 2) := by decide +kernel
theorem dX0_init_96 : decode cX0_init 96 = .ok (.putfield 51, 3) := by decide +kernel
theorem dX0_init_99 : decode cX0_init 99 = .ok (.aload_n 0, 1) := by decide +kernel
theorem dX0_init_100 : decode cX0_init 100 = .ok (.bipush 15, 2) := by decide +kernel
theorem dX0_init_102 : decode cX0_init 102 = .ok (.newarray .long, 2) := by decide +kernel
theorem dX0_init_104 : decode cX0_init 104 = .ok (.putfield 54, 3) := by decide +kernel
theorem dX0_init_107 : decode cX0_init 107 = .ok (.aload_n 0, 1) := by decide +kernel
theorem dX0_init_108 : decode cX0_init 108 = .ok (.bipush 15, 2) := by decide +kernel
theorem dX0_init_110 : decode cX0_init 110 = .ok (.newarray .long, 2) := by decide +kernel
theorem dX0_init_112 : decode cX0_init 112 = .ok (.putfield 57, 3) := by decide +kernel
theorem dX0_init_115 : decode cX0_init 115 = .ok (.return_, 1) := by decide +kernel
set_option maxRecDepth 20000 in
theorem ggX0_grant_X0_isUser : GoodIn wsX0_grant wsX0_isUser := goodIn_r _ [9] (by decide +kernel) (by decide +kernel)
set_option maxRecDepth 20000 in
theorem gX0_grant_X0_isUser : GoodIn wsX0_grant (va_wsS RX0 60 yX0_isUser wsX0_isUser) := goodIn_app (goodIn_of _ (by decide +kernel)) ggX0_grant_X0_isUser
set_option maxRecDepth 20000 in
theorem ggX0_grant_X0_isPermission : GoodIn wsX0_grant wsX0_isPermission := goodIn_r _ [12] (by decide +kernel) (by decide +kernel)
set_option maxRecDepth 20000 in
theorem gX0_grant_X0_isPermission : GoodIn wsX0_grant (va_wsS RX0 64 yX0_isPermission wsX0_isPermission) := goodIn_app (goodIn_of _ (by decide +kernel)) ggX0_grant_X0_isPermission
set_option maxRecDepth 20000 in
theorem ggX0_grant_X0_has : GoodIn wsX0_grant wsX0_has := goodIn_r _ [15] (by decide +kernel) (by decide +kernel)
set_option maxRecDepth 20000 in
theorem gX0_grant_X0_has : GoodIn wsX0_grant (va_wsS RX0 74 yX0_has wsX0_has) := goodIn_app (goodIn_of _ (by decide +kernel)) ggX0_grant_X0_has
set_option maxRecDepth 20000 in
theorem ggX0_grant_X0_grantIndex : GoodIn wsX0_grant wsX0_grantIndex := goodIn_r _ [18] (by decide +kernel) (by decide +kernel)
set_option maxRecDepth 20000 in
theorem gX0_grant_X0_grantIndex : GoodIn wsX0_grant (va_wsS RX0 78 yX0_grantIndex wsX0_grantIndex) := goodIn_app (goodIn_of _ (by decide +kernel)) ggX0_grant_X0_grantIndex
theorem dX0_grant_0 : decode cX0_grant 0 = .ok (.iload_n 1, 1) := by decide +kernel
theorem dX0_grant_1 : decode cX0_grant 1 = .ok (.invokestatic 60, 3) := by decide +kernel
theorem dX0_grant_4 : decode cX0_grant 4 = .ok (.ifCond .eq 10, 3) := by decide +kernel
theorem dX0_grant_7 : decode cX0_grant 7 = .ok (.iload_n 2, 1) := by decide +kernel
theorem dX0_grant_8 : decode cX0_grant 8 = .ok (.invokestatic 64, 3) := by decide +kernel
theorem dX0_grant_11 : decode cX0_grant 11 = .ok (.ifCond .ne 13, 3) := by decide +kernel
theorem dX0_grant_14 : decode cX0_grant 14 = .ok (.new 67, 3) := by decide +kernel
theorem dX0_grant_17 : decode cX0_grant 17 = .ok (.dup, 1) := by decide +kernel
theorem dX0_grant_18 : decode cX0_grant 18 = .ok (.ldc 69, 2) := by decide +kernel
theorem dX0_grant_20 : decode cX0_grant 20 = .ok (.invokespecial 71, 3) := by decide +kernel
theorem dX0_grant_23 : decode cX0_grant 23 = .ok (.athrow, 1) := by decide +kernel
theorem dX0_grant_24 : decode cX0_grant 24 = .ok (.aload_n 0, 1) := by decide +kernel
theorem dX0_grant_25 : decode cX0_grant 25 = .ok (.getfield 9, 3) := by decide +kernel
theorem dX0_grant_28 : decode cX0_grant 28 = .ok (.iload_n 1, 1) := by decide +kernel
theorem dX0_grant_29 : decode cX0_grant 29 = .ok (.iaload, 1) := by decide +kernel
theorem dX0_grant_30 : decode cX0_grant 30 = .ok (.iload_n 2, 1) := by decide +kernel
theorem dX0_grant_31 : decode cX0_grant 31 = .ok (.invokestatic 74, 3) := by decide +kernel
theorem dX0_grant_34 : decode cX0_grant 34 = .ok (.ifCond .eq 5, 3) := by decide +kernel
theorem dX0_grant_37 : decode cX0_grant 37 = .ok (.iconst 0, 1) := by decide +kernel
theorem dX0_grant_38 : decode cX0_grant 38 = .ok (.ireturn, 1) := by decide +kernel
theorem dX0_grant_39 : decode cX0_grant 39 = .ok (.aload_n 0, 1) := by decide +kernel
theorem dX0_grant_40 : decode cX0_grant 40 = .ok (.getfield 9, 3) := by decide +kernel
theorem dX0_grant_43 : decode cX0_grant 43 = .ok (.iload_n 1, 1) := by decide +kernel
theorem dX0_grant_44 : decode cX0_grant 44 = .ok (.dup2, 1) := by decide +kernel
theorem dX0_grant_45 : decode cX0_grant 45 = .ok (.iaload, 1) := by decide +kernel
theorem dX0_grant_46 : decode cX0_grant 46 = .ok (.iconst 1, 1) := by decide +kernel
theorem dX0_grant_47 : decode cX0_grant 47 = .ok (.iload_n 2, 1) := by decide +kernel
theorem dX0_grant_48 : decode cX0_grant 48 = .ok (.ishl, 1) := by decide +kernel
theorem dX0_grant_49 : decode cX0_grant 49 = .ok (.ior, 1) := by decide +kernel
theorem dX0_grant_50 : decode cX0_grant 50 = .ok (.iastore, 1) := by decide +kernel
theorem dX0_grant_51 : decode cX0_grant 51 = .ok (.aload_n 0, 1) := by decide +kernel
theorem dX0_grant_52 : decode cX0_grant 52 = .ok (.getfield 13, 3) := by decide +kernel
theorem dX0_grant_55 : decode cX0_grant 55 = .ok (.iload_n 1, 1) := by decide +kernel
theorem dX0_grant_56 : decode cX0_grant 56 = .ok (.iload_n 2, 1) := by decide +kernel
theorem dX0_grant_57 : decode cX0_grant 57 = .ok (.invokestatic 78, 3) := by decide +kernel
theorem dX0_grant_60 : decode cX0_grant 60 = .ok (.aload_n 0, 1) := by decide +kernel
theorem dX0_grant_61 : decode cX0_grant 61 = .ok (.getfield 32, 3) := by decide +kernel
theorem dX0_grant_64 : decode cX0_grant 64 = .ok (.iastore, 1) := by decide +kernel
theorem dX0_grant_65 : decode cX0_grant 65 = .ok (.iconst 1, 1) := by decide +kernel
theorem dX0_grant_66 : decode cX0_grant 66 = .ok (.ireturn, 1) := by decide +kernel
set_option maxRecDepth 20000 in
theorem ggX0_revoke_X0_isUser : GoodIn wsX0_revoke wsX0_isUser := goodIn_r _ [7] (by decide +kernel) (by decide +kernel)
set_option maxRecDepth 20000 in
theorem gX0_revoke_X0_isUser : GoodIn wsX0_revoke (va_wsS RX0 60 yX0_isUser wsX0_isUser) := goodIn_app (goodIn_of _ (by decide +kernel)) ggX0_revoke_X0_isUser
set_option maxRecDepth 20000 in
theorem ggX0_revoke_X0_isPermission : GoodIn wsX0_revoke wsX0_isPermission := goodIn_r _ [10] (by decide +kernel) (by decide +kernel)
set_option maxRecDepth 20000 in
theorem gX0_revoke_X0_isPermission : GoodIn wsX0_revoke (va_wsS RX0 64 yX0_isPermission wsX0_isPermission) := goodIn_app (goodIn_of _ (by decide +kernel)) ggX0_revoke_X0_isPermission
set_option maxRecDepth 20000 in
theorem ggX0_revoke_X0_has : GoodIn wsX0_revoke wsX0_has := goodIn_r _ [13] (by decide +kernel) (by decide +kernel)
set_option maxRecDepth 20000 in
theorem gX0_revoke_X0_has : GoodIn wsX0_revoke (va_wsS RX0 74 yX0_has wsX0_has) := goodIn_app (goodIn_of _ (by decide +kernel)) ggX0_revoke_X0_has
theorem dX0_revoke_0 : decode cX0_revoke 0 = .ok (.iload_n 1, 1) := by decide +kernel
theorem dX0_revoke_1 : decode cX0_revoke 1 = .ok (.invokestatic 60, 3) := by decide +kernel
theorem dX0_revoke_4 : decode cX0_revoke 4 = .ok (.ifCond .eq 10, 3) := by decide +kernel
theorem dX0_revoke_7 : decode cX0_revoke 7 = .ok (.iload_n 2, 1) := by decide +kernel
theorem dX0_revoke_8 : decode cX0_revoke 8 = .ok (.invokestatic 64, 3) := by decide +kernel
theorem dX0_revoke_11 : decode cX0_revoke 11 = .ok (.ifCond .ne 13, 3) := by decide +kernel
theorem dX0_revoke_14 : decode cX0_revoke 14 = .ok (.new 67, 3) := by decide +kernel
theorem dX0_revoke_17 : decode cX0_revoke 17 = .ok (.dup, 1) := by decide +kernel
theorem dX0_revoke_18 : decode cX0_revoke 18 = .ok (.ldc 69, 2) := by decide +kernel
theorem dX0_revoke_20 : decode cX0_revoke 20 = .ok (.invokespecial 71, 3) := by decide +kernel
theorem dX0_revoke_23 : decode cX0_revoke 23 = .ok (.athrow, 1) := by decide +kernel
theorem dX0_revoke_24 : decode cX0_revoke 24 = .ok (.aload_n 0, 1) := by decide +kernel
theorem dX0_revoke_25 : decode cX0_revoke 25 = .ok (.getfield 9, 3) := by decide +kernel
theorem dX0_revoke_28 : decode cX0_revoke 28 = .ok (.iload_n 1, 1) := by decide +kernel
theorem dX0_revoke_29 : decode cX0_revoke 29 = .ok (.iaload, 1) := by decide +kernel
theorem dX0_revoke_30 : decode cX0_revoke 30 = .ok (.iload_n 2, 1) := by decide +kernel
theorem dX0_revoke_31 : decode cX0_revoke 31 = .ok (.invokestatic 74, 3) := by decide +kernel
theorem dX0_revoke_34 : decode cX0_revoke 34 = .ok (.istore_n 3, 1) := by decide +kernel
theorem dX0_revoke_35 : decode cX0_revoke 35 = .ok (.aload_n 0, 1) := by decide +kernel
theorem dX0_revoke_36 : decode cX0_revoke 36 = .ok (.getfield 9, 3) := by decide +kernel
theorem dX0_revoke_39 : decode cX0_revoke 39 = .ok (.iload_n 1, 1) := by decide +kernel
theorem dX0_revoke_40 : decode cX0_revoke 40 = .ok (.dup2, 1) := by decide +kernel
theorem dX0_revoke_41 : decode cX0_revoke 41 = .ok (.iaload, 1) := by decide +kernel
theorem dX0_revoke_42 : decode cX0_revoke 42 = .ok (.iconst 1, 1) := by decide +kernel
theorem dX0_revoke_43 : decode cX0_revoke 43 = .ok (.iload_n 2, 1) := by decide +kernel
theorem dX0_revoke_44 : decode cX0_revoke 44 = .ok (.ishl, 1) := by decide +kernel
theorem dX0_revoke_45 : decode cX0_revoke 45 = .ok (.iconst (-1), 1) := by decide +kernel
theorem dX0_revoke_46 : decode cX0_revoke 46 = .ok (.ixor, 1) := by decide +kernel
theorem dX0_revoke_47 : decode cX0_revoke 47 = .ok (.iand, 1) := by decide +kernel
theorem dX0_revoke_48 : decode cX0_revoke 48 = .ok (.iastore, 1) := by decide +kernel
theorem dX0_revoke_49 : decode cX0_revoke 49 = .ok (.iload_n 3, 1) := by decide +kernel
theorem dX0_revoke_50 : decode cX0_revoke 50 = .ok (.ireturn, 1) := by decide +kernel
set_option maxRecDepth 20000 in
theorem ggX0_setGrants_X0_isUser : GoodIn wsX0_setGrants wsX0_isUser := goodIn_r _ [11] (by decide +kernel) (by decide +kernel)
set_option maxRecDepth 20000 in
theorem gX0_setGrants_X0_isUser : GoodIn wsX0_setGrants (va_wsS RX0 60 yX0_isUser wsX0_isUser) := goodIn_app (goodIn_of _ (by decide +kernel)) ggX0_setGrants_X0_isUser
set_option maxRecDepth 20000 in
theorem ggX0_setGrants_X0_isPermissionSet : GoodIn wsX0_setGrants wsX0_isPermissionSet := goodIn_r _ [14] (by decide +kernel) (by decide +kernel)
set_option maxRecDepth 20000 in
theorem gX0_setGrants_X0_isPermissionSet : GoodIn wsX0_setGrants (va_wsS RX0 84 yX0_isPermissionSet wsX0_isPermissionSet) := goodIn_app (goodIn_of _ (by decide +kernel)) ggX0_setGrants_X0_isPermissionSet
set_option maxRecDepth 20000 in
theorem ggX0_setGrants_X0_has : GoodIn wsX0_setGrants wsX0_has := goodIn_r _ [17] (by decide +kernel) (by decide +kernel)
set_option maxRecDepth 20000 in
theorem gX0_setGrants_X0_has : GoodIn wsX0_setGrants (va_wsS RX0 74 yX0_has wsX0_has) := goodIn_app (goodIn_of _ (by decide +kernel)) ggX0_setGrants_X0_has
set_option maxRecDepth 20000 in
theorem ggX0_setGrants_X0_grantIndex : GoodIn wsX0_setGrants wsX0_grantIndex := goodIn_r _ [20] (by decide +kernel) (by decide +kernel)
set_option maxRecDepth 20000 in
theorem gX0_setGrants_X0_grantIndex : GoodIn wsX0_setGrants (va_wsS RX0 78 yX0_grantIndex wsX0_grantIndex) := goodIn_app (goodIn_of _ (by decide +kernel)) ggX0_setGrants_X0_grantIndex
set_option maxRecDepth 20000 in
theorem ggX0_setGrants_J6_bitCount_0f7a4 : GoodIn wsX0_setGrants wsJ6_bitCount_0f7a4 := goodIn_r _ [24, 25, 26, 27] (by decide +kernel) (by decide +kernel)
set_option maxRecDepth 20000 in
theorem gX0_setGrants_J6_bitCount_0f7a4 : GoodIn wsX0_setGrants (va_wsS RX0 92 yJ6_bitCount_0f7a4 wsJ6_bitCount_0f7a4) := goodIn_app (goodIn_of _ (by decide +kernel)) ggX0_setGrants_J6_bitCount_0f7a4
theorem dX0_setGrants_0 : decode cX0_setGrants 0 = .ok (.iload_n 1, 1) := by decide +kernel
theorem dX0_setGrants_1 : decode cX0_setGrants 1 = .ok (.invokestatic 60, 3) := by decide +kernel
theorem dX0_setGrants_4 : decode cX0_setGrants 4 = .ok (.ifCond .ne 13, 3) := by decide +kernel
theorem dX0_setGrants_7 : decode cX0_setGrants 7 = .ok (.new 67, 3) := by decide +kernel
theorem dX0_setGrants_10 : decode cX0_setGrants 10 = .ok (.dup, 1) := by decide +kernel
theorem dX0_setGrants_11 : decode cX0_setGrants 11 = .ok (.ldc 82, 2) := by decide +kernel
theorem dX0_setGrants_13 : decode cX0_setGrants 13 = .ok (.invokespecial 71, 3) := by decide +kernel
theorem dX0_setGrants_16 : decode cX0_setGrants 16 = .ok (.athrow, 1) := by decide +kernel
theorem dX0_setGrants_17 : decode cX0_setGrants 17 = .ok (.iload_n 2, 1) := by decide +kernel
theorem dX0_setGrants_18 : decode cX0_setGrants 18 = .ok (.invokestatic 84, 3) := by decide +kernel
theorem dX0_setGrants_21 : decode cX0_setGrants 21 = .ok (.ifCond .ne 13, 3) := by decide +kernel
theorem dX0_setGrants_24 : decode cX0_setGrants 24 = .ok (.new 87, 3) := by decide +kernel
theorem dX0_setGrants_27 : decode cX0_setGrants 27 = .ok (.dup, 1) := by decide +kernel
theorem dX0_setGrants_28 : decode cX0_setGrants 28 = .ok (.ldc 89, 2) := by decide +kernel
theorem dX0_setGrants_30 : decode cX0_setGrants 30 = .ok (.invokespecial 91, 3) := by decide +kernel
theorem dX0_setGrants_33 : decode cX0_setGrants 33 = .ok (.athrow, 1) := by decide +kernel
theorem dX0_setGrants_34 : decode cX0_setGrants 34 = .ok (.aload_n 0, 1) := by decide +kernel
theorem dX0_setGrants_35 : decode cX0_setGrants 35 = .ok (.getfield 9, 3) := by decide +kernel
theorem dX0_setGrants_38 : decode cX0_setGrants 38 = .ok (.iload_n 1, 1) := by decide +kernel
theorem dX0_setGrants_39 : decode cX0_setGrants 39 = .ok (.iaload, 1) := by decide +kernel
theorem dX0_setGrants_40 : decode cX0_setGrants 40 = .ok (.istore_n 3, 1) := by decide +kernel
theorem dX0_setGrants_41 : decode cX0_setGrants 41 = .ok (.iconst 0, 1) := by decide +kernel
theorem dX0_setGrants_42 : decode cX0_setGrants 42 = .ok (.istore 4, 2) := by decide +kernel
theorem dX0_setGrants_44 : decode cX0_setGrants 44 = .ok (.iload 4, 2) := by decide +kernel
theorem dX0_setGrants_46 : decode cX0_setGrants 46 = .ok (.bipush 12, 2) := by decide +kernel
theorem dX0_setGrants_48 : decode cX0_setGrants 48 = .ok (.if_icmp .ge 37, 3) := by decide +kernel
theorem dX0_setGrants_51 : decode cX0_setGrants 51 = .ok (.iload_n 2, 1) := by decide +kernel
theorem dX0_setGrants_52 : decode cX0_setGrants 52 = .ok (.iload_n 3, 1) := by decide +kernel
theorem dX0_setGrants_53 : decode cX0_setGrants 53 = .ok (.iconst (-1), 1) := by decide +kernel
theorem dX0_setGrants_54 : decode cX0_setGrants 54 = .ok (.ixor, 1) := by decide +kernel
theorem dX0_setGrants_55 : decode cX0_setGrants 55 = .ok (.iand, 1) := by decide +kernel
theorem dX0_setGrants_56 : decode cX0_setGrants 56 = .ok (.iload 4, 2) := by decide +kernel
theorem dX0_setGrants_58 : decode cX0_setGrants 58 = .ok (.invokestatic 74, 3) := by decide +kernel
theorem dX0_setGrants_61 : decode cX0_setGrants 61 = .ok (.ifCond .eq 18, 3) := by decide +kernel
theorem dX0_setGrants_64 : decode cX0_setGrants 64 = .ok (.aload_n 0, 1) := by decide +kernel
theorem dX0_setGrants_65 : decode cX0_setGrants 65 = .ok (.getfield 13, 3) := by decide +kernel
theorem dX0_setGrants_68 : decode cX0_setGrants 68 = .ok (.iload_n 1, 1) := by decide +kernel
theorem dX0_setGrants_69 : decode cX0_setGrants 69 = .ok (.iload 4, 2) := by decide +kernel
theorem dX0_setGrants_71 : decode cX0_setGrants 71 = .ok (.invokestatic 78, 3) := by decide +kernel
theorem dX0_setGrants_74 : decode cX0_setGrants 74 = .ok (.aload_n 0, 1) := by decide +kernel
theorem dX0_setGrants_75 : decode cX0_setGrants 75 = .ok (.getfield 32, 3) := by decide +kernel
theorem dX0_setGrants_78 : decode cX0_setGrants 78 = .ok (.iastore, 1) := by decide +kernel
theorem dX0_setGrants_79 : decode cX0_setGrants 79 = .ok (.iinc 4 1, 3) := by decide +kernel
theorem dX0_setGrants_82 : decode cX0_setGrants 82 = .ok (.goto (-38), 3) := by decide +kernel
theorem dX0_setGrants_85 : decode cX0_setGrants 85 = .ok (.aload_n 0, 1) := by decide +kernel
theorem dX0_setGrants_86 : decode cX0_setGrants 86 = .ok (.getfield 9, 3) := by decide +kernel
theorem dX0_setGrants_89 : decode cX0_setGrants 89 = .ok (.iload_n 1, 1) := by decide +kernel
theorem dX0_setGrants_90 : decode cX0_setGrants 90 = .ok (.iload_n 2, 1) := by decide +kernel
theorem dX0_setGrants_91 : decode cX0_setGrants 91 = .ok (.iastore, 1) := by decide +kernel
theorem dX0_setGrants_92 : decode cX0_setGrants 92 = .ok (.iload_n 3, 1) := by decide +kernel
theorem dX0_setGrants_93 : decode cX0_setGrants 93 = .ok (.iload_n 2, 1) := by decide +kernel
theorem dX0_setGrants_94 : decode cX0_setGrants 94 = .ok (.ixor, 1) := by decide +kernel
theorem dX0_setGrants_95 : decode cX0_setGrants 95 = .ok (.invokestatic 92, 3) := by decide +kernel
theorem dX0_setGrants_98 : decode cX0_setGrants 98 = .ok (.ireturn, 1) := by decide +kernel
set_option maxRecDepth 20000 in
theorem ggX0_setConflict_X0_isPermission : GoodIn wsX0_setConflict wsX0_isPermission := goodIn_r _ [9] (by decide +kernel) (by decide +kernel)
set_option maxRecDepth 20000 in
theorem gX0_setConflict_X0_isPermission : GoodIn wsX0_setConflict (va_wsS RX0 64 yX0_isPermission wsX0_isPermission) := goodIn_app (goodIn_of _ (by decide +kernel)) ggX0_setConflict_X0_isPermission
set_option maxRecDepth 20000 in
theorem ggX0_setConflict_X0_has : GoodIn wsX0_setConflict wsX0_has := goodIn_r _ [12] (by decide +kernel) (by decide +kernel)
set_option maxRecDepth 20000 in
theorem gX0_setConflict_X0_has : GoodIn wsX0_setConflict (va_wsS RX0 74 yX0_has wsX0_has) := goodIn_app (goodIn_of _ (by decide +kernel)) ggX0_setConflict_X0_has
theorem dX0_setConflict_0 : decode cX0_setConflict 0 = .ok (.iload_n 1, 1) := by decide +kernel
theorem dX0_setConflict_1 : decode cX0_setConflict 1 = .ok (.invokestatic 64, 3) := by decide +kernel
theorem dX0_setConflict_4 : decode cX0_setConflict 4 = .ok (.ifCond .eq 10, 3) := by decide +kernel
theorem dX0_setConflict_7 : decode cX0_setConflict 7 = .ok (.iload_n 2, 1) := by decide +kernel
theorem dX0_setConflict_8 : decode cX0_setConflict 8 = .ok (.invokestatic 64, 3) := by decide +kernel
theorem dX0_setConflict_11 : decode cX0_setConflict 11 = .ok (.ifCond .ne 13, 3) := by decide +kernel
theorem dX0_setConflict_14 : decode cX0_setConflict 14 = .ok (.new 67, 3) := by decide +kernel
theorem dX0_setConflict_17 : decode cX0_setConflict 17 = .ok (.dup, 1) := by decide +kernel
theorem dX0_setConflict_18 : decode cX0_setConflict 18 = .ok (.ldc 98, 2) := by decide +kernel
theorem dX0_setConflict_20 : decode cX0_setConflict 20 = .ok (.invokespecial 71, 3) := by decide +kernel
theorem dX0_setConflict_23 : decode cX0_setConflict 23 = .ok (.athrow, 1) := by decide +kernel
theorem dX0_setConflict_24 : decode cX0_setConflict 24 = .ok (.iload_n 1, 1) := by decide +kernel
theorem dX0_setConflict_25 : decode cX0_setConflict 25 = .ok (.iload_n 2, 1) := by decide +kernel
theorem dX0_setConflict_26 : decode cX0_setConflict 26 = .ok (.if_icmp .ne 13, 3) := by decide +kernel
theorem dX0_setConflict_29 : decode cX0_setConflict 29 = .ok (.new 87, 3) := by decide +kernel
theorem dX0_setConflict_32 : decode cX0_setConflict 32 = .ok (.dup, 1) := by decide +kernel
theorem dX0_setConflict_33 : decode cX0_setConflict 33 = .ok (.ldc 100, 2) := by decide +kernel
theorem dX0_setConflict_35 : decode cX0_setConflict 35 = .ok (.invokespecial 91, 3) := by decide +kernel
theorem dX0_setConflict_38 : decode cX0_setConflict 38 = .ok (.athrow, 1) := by decide +kernel
theorem dX0_setConflict_39 : decode cX0_setConflict 39 = .ok (.aload_n 0, 1) := by decide +kernel
theorem dX0_setConflict_40 : decode cX0_setConflict 40 = .ok (.getfield 16, 3) := by decide +kernel
theorem dX0_setConflict_43 : decode cX0_setConflict 43 = .ok (.iload_n 1, 1) := by decide +kernel
theorem dX0_setConflict_44 : decode cX0_setConflict 44 = .ok (.iaload, 1) := by decide +kernel
theorem dX0_setConflict_45 : decode cX0_setConflict 45 = .ok (.iload_n 2, 1) := by decide +kernel
theorem dX0_setConflict_46 : decode cX0_setConflict 46 = .ok (.invokestatic 74, 3) := by decide +kernel
theorem dX0_setConflict_49 : decode cX0_setConflict 49 = .ok (.istore 4, 2) := by decide +kernel
theorem dX0_setConflict_51 : decode cX0_setConflict 51 = .ok (.iload_n 3, 1) := by decide +kernel
theorem dX0_setConflict_52 : decode cX0_setConflict 52 = .ok (.ifCond .eq 30, 3) := by decide +kernel
theorem dX0_setConflict_55 : decode cX0_setConflict 55 = .ok (.aload_n 0, 1) := by decide +kernel
theorem dX0_setConflict_56 : decode cX0_setConflict 56 = .ok (.getfield 16, 3) := by decide +kernel
theorem dX0_setConflict_59 : decode cX0_setConflict 59 = .ok (.iload_n 1, 1) := by decide +kernel
theorem dX0_setConflict_60 : decode cX0_setConflict 60 = .ok (.dup2, 1) := by decide +kernel
theorem dX0_setConflict_61 : decode cX0_setConflict 61 = .ok (.iaload, 1) := by decide +kernel
theorem dX0_setConflict_62 : decode cX0_setConflict 62 = .ok (.iconst 1, 1) := by decide +kernel
theorem dX0_setConflict_63 : decode cX0_setConflict 63 = .ok (.iload_n 2, 1) := by decide +kernel
theorem dX0_setConflict_64 : decode cX0_setConflict 64 = .ok (.ishl, 1) := by decide +kernel
theorem dX0_setConflict_65 : decode cX0_setConflict 65 = .ok (.ior, 1) := by decide +kernel
theorem dX0_setConflict_66 : decode cX0_setConflict 66 = .ok (.iastore, 1) := by decide +kernel
theorem dX0_setConflict_67 : decode cX0_setConflict 67 = .ok (.aload_n 0, 1) := by decide +kernel
theorem dX0_setConflict_68 : decode cX0_setConflict 68 = .ok (.getfield 16, 3) := by decide +kernel
theorem dX0_setConflict_71 : decode cX0_setConflict 71 = .ok (.iload_n 2, 1) := by decide +kernel
theorem dX0_setConflict_72 : decode cX0_setConflict 72 = .ok (.dup2, 1) := by decide +kernel
theorem dX0_setConflict_73 : decode cX0_setConflict 73 = .ok (.iaload, 1) := by decide +kernel
theorem dX0_setConflict_74 : decode cX0_setConflict 74 = .ok (.iconst 1, 1) := by decide +kernel
theorem dX0_setConflict_75 : decode cX0_setConflict 75 = .ok (.iload_n 1, 1) := by decide +kernel
theorem dX0_setConflict_76 : decode cX0_setConflict 76 = .ok (.ishl, 1) := by decide +kernel
theorem dX0_setConflict_77 : decode cX0_setConflict 77 = .ok (.ior, 1) := by decide +kernel
theorem dX0_setConflict_78 : decode cX0_setConflict 78 = .ok (.iastore, 1) := by decide +kernel
theorem dX0_setConflict_79 : decode cX0_setConflict 79 = .ok (.goto 31, 3) := by decide +kernel
theorem dX0_setConflict_82 : decode cX0_setConflict 82 = .ok (.aload_n 0, 1) := by decide +kernel
theorem dX0_setConflict_83 : decode cX0_setConflict 83 = .ok (.getfield 16, 3) := by decide +kernel
theorem dX0_setConflict_86 : decode cX0_setConflict 86 = .ok (.iload_n 1, 1) := by decide +kernel
theorem dX0_setConflict_87 : decode cX0_setConflict 87 = .ok (.dup2, 1) := by decide +kernel
theorem dX0_setConflict_88 : decode cX0_setConflict 88 = .ok (.iaload, 1) := by decide +kernel
theorem dX0_setConflict_89 : decode cX0_setConflict 89 = .ok (.iconst 1, 1) := by decide +kernel
theorem dX0_setConflict_90 : decode cX0_setConflict 90 = .ok (.iload_n 2, 1) := by decide +kernel
theorem dX0_setConflict_91 : decode cX0_setConflict 91 = .ok (.ishl, 1) := by decide +kernel
theorem dX0_setConflict_92 : decode cX0_setConflict 92 = .ok (.iconst (-1), 1) := by decide +kernel
theorem dX0_setConflict_93 : decode cX0_setConflict 93 = .ok (.ixor, 1) := by decide +kernel
theorem dX0_setConflict_94 : decode cX0_setConflict 94 = .ok (.iand, 1) := by decide +kernel
theorem dX0_setConflict_95 : decode cX0_setConflict 95 = .ok (.iastore, 1) := by decide +kernel
theorem dX0_setConflict_96 : decode cX0_setConflict 96 = .ok (.aload_n 0, 1) := by decide +kernel
theorem dX0_setConflict_97 : decode cX0_setConflict 97 = .ok (.getfield 16, 3) := by decide +kernel
theorem dX0_setConflict_100 : decode cX0_setConflict 100 = .ok (.iload_n 2, 1) := by decide +kernel
theorem dX0_setConflict_101 : decode cX0_setConflict 101 = .ok (.dup2, 1) := by decide +kernel
theorem dX0_setConflict_102 : decode cX0_setConflict 102 = .ok (.iaload, 1) := by decide +kernel
theorem dX0_setConflict_103 : decode cX0_setConflict 103 = .ok (.iconst 1, 1) := by decide +kernel
theorem dX0_setConflict_104 : decode cX0_setConflict 104 = .ok (.iload_n 1, 1) := by decide +kernel
theorem dX0_setConflict_105 : decode cX0_setConflict 105 = .ok (.ishl, 1) := by decide +kernel
theorem dX0_setConflict_106 : decode cX0_setConflict 106 = .ok (.iconst (-1), 1) := by decide +kernel
theorem dX0_setConflict_107 : decode cX0_setConflict 107 = .ok (.ixor, 1) := by decide +kernel
theorem dX0_setConflict_108 : decode cX0_setConflict 108 = .ok (.iand, 1) := by decide +kernel
theorem dX0_setConflict_109 : decode cX0_setConflict 109 = .ok (.iastore, 1) := by decide +kernel
theorem dX0_setConflict_110 : decode cX0_setConflict 110 = .ok (.iload 4, 2) := by decide +kernel
theorem dX0_setConflict_112 : decode cX0_setConflict 112 = .ok (.ireturn, 1) := by decide +kernel
set_option maxRecDepth 20000 in
theorem ggX0_setCosts_X0_isCost : GoodIn wsX0_setCosts wsX0_isCost := goodIn_r _ [8] (by decide +kernel) (by decide +kernel)
set_option maxRecDepth 20000 in
theorem gX0_setCosts_X0_isCost : GoodIn wsX0_setCosts (va_wsS RX0 102 yX0_isCost wsX0_isCost) := goodIn_app (goodIn_of _ (by decide +kernel)) ggX0_setCosts_X0_isCost
theorem dX0_setCosts_0 : decode cX0_setCosts 0 = .ok (.iload_n 1, 1) := by decide +kernel
theorem dX0_setCosts_1 : decode cX0_setCosts 1 = .ok (.invokestatic 102, 3) := by decide +kernel
theorem dX0_setCosts_4 : decode cX0_setCosts 4 = .ok (.ifCond .eq 10, 3) := by decide +kernel
theorem dX0_setCosts_7 : decode cX0_setCosts 7 = .ok (.iload_n 2, 1) := by decide +kernel
theorem dX0_setCosts_8 : decode cX0_setCosts 8 = .ok (.invokestatic 102, 3) := by decide +kernel
theorem dX0_setCosts_11 : decode cX0_setCosts 11 = .ok (.ifCond .ne 13, 3) := by decide +kernel
theorem dX0_setCosts_14 : decode cX0_setCosts 14 = .ok (.new 87, 3) := by decide +kernel
theorem dX0_setCosts_17 : decode cX0_setCosts 17 = .ok (.dup, 1) := by decide +kernel
theorem dX0_setCosts_18 : decode cX0_setCosts 18 = .ok (.ldc 105, 2) := by decide +kernel
theorem dX0_setCosts_20 : decode cX0_setCosts 20 = .ok (.invokespecial 91, 3) := by decide +kernel
theorem dX0_setCosts_23 : decode cX0_setCosts 23 = .ok (.athrow, 1) := by decide +kernel
theorem dX0_setCosts_24 : decode cX0_setCosts 24 = .ok (.aload_n 0, 1) := by decide +kernel
theorem dX0_setCosts_25 : decode cX0_setCosts 25 = .ok (.iload_n 1, 1) := by decide +kernel
theorem dX0_setCosts_26 : decode cX0_setCosts 26 = .ok (.putfield 19, 3) := by decide +kernel
theorem dX0_setCosts_29 : decode cX0_setCosts 29 = .ok (.aload_n 0, 1) := by decide +kernel
theorem dX0_setCosts_30 : decode cX0_setCosts 30 = .ok (.iload_n 2, 1) := by decide +kernel
theorem dX0_setCosts_31 : decode cX0_setCosts 31 = .ok (.putfield 23, 3) := by decide +kernel
theorem dX0_setCosts_34 : decode cX0_setCosts 34 = .ok (.return_, 1) := by decide +kernel
theorem dX0_setSupport_0 : decode cX0_setSupport 0 = .ok (.iload_n 1, 1) := by decide +kernel
theorem dX0_setSupport_1 : decode cX0_setSupport 1 = .ok (.iconst 1, 1) := by decide +kernel
theorem dX0_setSupport_2 : decode cX0_setSupport 2 = .ok (.if_icmp .lt 9, 3) := by decide +kernel
theorem dX0_setSupport_5 : decode cX0_setSupport 5 = .ok (.iload_n 1, 1) := by decide +kernel
theorem dX0_setSupport_6 : decode cX0_setSupport 6 = .ok (.bipush 8, 2) := by decide +kernel
theorem dX0_setSupport_8 : decode cX0_setSupport 8 = .ok (.if_icmp .le 13, 3) := by decide +kernel
theorem dX0_setSupport_11 : decode cX0_setSupport 11 = .ok (.new 87, 3) := by decide +kernel
theorem dX0_setSupport_14 : decode cX0_setSupport 14 = .ok (.dup, 1) := by decide +kernel
theorem dX0_setSupport_15 : decode cX0_setSupport 15 = .ok (.ldc 107, 2) := by decide +kernel
theorem dX0_setSupport_17 : decode cX0_setSupport 17 = .ok (.invokespecial 91, 3) := by decide +kernel
theorem dX0_setSupport_20 : decode cX0_setSupport 20 = .ok (.athrow, 1) := by decide +kernel
theorem dX0_setSupport_21 : decode cX0_setSupport 21 = .ok (.aload_n 0, 1) := by decide +kernel
theorem dX0_setSupport_22 : decode cX0_setSupport 22 = .ok (.getfield 26, 3) := by decide +kernel
theorem dX0_setSupport_25 : decode cX0_setSupport 25 = .ok (.istore_n 2, 1) := by decide +kernel
theorem dX0_setSupport_26 : decode cX0_setSupport 26 = .ok (.aload_n 0, 1) := by decide +kernel
theorem dX0_setSupport_27 : decode cX0_setSupport 27 = .ok (.iload_n 1, 1) := by decide +kernel
theorem dX0_setSupport_28 : decode cX0_setSupport 28 = .ok (.putfield 26, 3) := by decide +kernel
theorem dX0_setSupport_31 : decode cX0_setSupport 31 = .ok (.iload_n 2, 1) := by decide +kernel
theorem dX0_setSupport_32 : decode cX0_setSupport 32 = .ok (.ireturn, 1) := by decide +kernel
theorem dX0_setPeriod_0 : decode cX0_setPeriod 0 = .ok (.iload_n 1, 1) := by decide +kernel
theorem dX0_setPeriod_1 : decode cX0_setPeriod 1 = .ok (.iconst 1, 1) := by decide +kernel
theorem dX0_setPeriod_2 : decode cX0_setPeriod 2 = .ok (.if_icmp .lt 9, 3) := by decide +kernel
theorem dX0_setPeriod_5 : decode cX0_setPeriod 5 = .ok (.iload_n 1, 1) := by decide +kernel
theorem dX0_setPeriod_6 : decode cX0_setPeriod 6 = .ok (.bipush 8, 2) := by decide +kernel
theorem dX0_setPeriod_8 : decode cX0_setPeriod 8 = .ok (.if_icmp .le 13, 3) := by decide +kernel
theorem dX0_setPeriod_11 : decode cX0_setPeriod 11 = .ok (.new 87, 3) := by decide +kernel
theorem dX0_setPeriod_14 : decode cX0_setPeriod 14 = .ok (.dup, 1) := by decide +kernel
theorem dX0_setPeriod_15 : decode cX0_setPeriod 15 = .ok (.ldc 109, 2) := by decide +kernel
theorem dX0_setPeriod_17 : decode cX0_setPeriod 17 = .ok (.invokespecial 91, 3) := by decide +kernel
theorem dX0_setPeriod_20 : decode cX0_setPeriod 20 = .ok (.athrow, 1) := by decide +kernel
theorem dX0_setPeriod_21 : decode cX0_setPeriod 21 = .ok (.aload_n 0, 1) := by decide +kernel
theorem dX0_setPeriod_22 : decode cX0_setPeriod 22 = .ok (.getfield 29, 3) := by decide +kernel
theorem dX0_setPeriod_25 : decode cX0_setPeriod 25 = .ok (.istore_n 2, 1) := by decide +kernel
theorem dX0_setPeriod_26 : decode cX0_setPeriod 26 = .ok (.aload_n 0, 1) := by decide +kernel
theorem dX0_setPeriod_27 : decode cX0_setPeriod 27 = .ok (.iload_n 1, 1) := by decide +kernel
theorem dX0_setPeriod_28 : decode cX0_setPeriod 28 = .ok (.putfield 29, 3) := by decide +kernel
theorem dX0_setPeriod_31 : decode cX0_setPeriod 31 = .ok (.iload_n 2, 1) := by decide +kernel
theorem dX0_setPeriod_32 : decode cX0_setPeriod 32 = .ok (.ireturn, 1) := by decide +kernel
set_option maxRecDepth 20000 in
theorem ggX0_review_X0_isUser : GoodIn wsX0_review wsX0_isUser := goodIn_r _ [11] (by decide +kernel) (by decide +kernel)
set_option maxRecDepth 20000 in
theorem gX0_review_X0_isUser : GoodIn wsX0_review (va_wsS RX0 60 yX0_isUser wsX0_isUser) := goodIn_app (goodIn_of _ (by decide +kernel)) ggX0_review_X0_isUser
set_option maxRecDepth 20000 in
theorem ggX0_review_X0_isPermission : GoodIn wsX0_review wsX0_isPermission := goodIn_r _ [14] (by decide +kernel) (by decide +kernel)
set_option maxRecDepth 20000 in
theorem gX0_review_X0_isPermission : GoodIn wsX0_review (va_wsS RX0 64 yX0_isPermission wsX0_isPermission) := goodIn_app (goodIn_of _ (by decide +kernel)) ggX0_review_X0_isPermission
set_option maxRecDepth 20000 in
theorem ggX0_review_X0_has : GoodIn wsX0_review wsX0_has := goodIn_r _ [17] (by decide +kernel) (by decide +kernel)
set_option maxRecDepth 20000 in
theorem gX0_review_X0_has : GoodIn wsX0_review (va_wsS RX0 74 yX0_has wsX0_has) := goodIn_app (goodIn_of _ (by decide +kernel)) ggX0_review_X0_has
set_option maxRecDepth 20000 in
theorem ggX0_review_X0_grantIndex : GoodIn wsX0_review wsX0_grantIndex := goodIn_r _ [20] (by decide +kernel) (by decide +kernel)
set_option maxRecDepth 20000 in
theorem gX0_review_X0_grantIndex : GoodIn wsX0_review (va_wsS RX0 78 yX0_grantIndex wsX0_grantIndex) := goodIn_app (goodIn_of _ (by decide +kernel)) ggX0_review_X0_grantIndex
theorem dX0_review_0 : decode cX0_review 0 = .ok (.iload_n 1, 1) := by decide +kernel
theorem dX0_review_1 : decode cX0_review 1 = .ok (.invokestatic 60, 3) := by decide +kernel
theorem dX0_review_4 : decode cX0_review 4 = .ok (.ifCond .eq 10, 3) := by decide +kernel
theorem dX0_review_7 : decode cX0_review 7 = .ok (.iload_n 2, 1) := by decide +kernel
theorem dX0_review_8 : decode cX0_review 8 = .ok (.invokestatic 64, 3) := by decide +kernel
theorem dX0_review_11 : decode cX0_review 11 = .ok (.ifCond .ne 13, 3) := by decide +kernel
theorem dX0_review_14 : decode cX0_review 14 = .ok (.new 67, 3) := by decide +kernel
theorem dX0_review_17 : decode cX0_review 17 = .ok (.dup, 1) := by decide +kernel
theorem dX0_review_18 : decode cX0_review 18 = .ok (.ldc 69, 2) := by decide +kernel
theorem dX0_review_20 : decode cX0_review 20 = .ok (.invokespecial 71, 3) := by decide +kernel
theorem dX0_review_23 : decode cX0_review 23 = .ok (.athrow, 1) := by decide +kernel
theorem dX0_review_24 : decode cX0_review 24 = .ok (.aload_n 0, 1) := by decide +kernel
theorem dX0_review_25 : decode cX0_review 25 = .ok (.getfield 9, 3) := by decide +kernel
theorem dX0_review_28 : decode cX0_review 28 = .ok (.iload_n 1, 1) := by decide +kernel
theorem dX0_review_29 : decode cX0_review 29 = .ok (.iaload, 1) := by decide +kernel
theorem dX0_review_30 : decode cX0_review 30 = .ok (.iload_n 2, 1) := by decide +kernel
theorem dX0_review_31 : decode cX0_review 31 = .ok (.invokestatic 74, 3) := by decide +kernel
theorem dX0_review_34 : decode cX0_review 34 = .ok (.ifCond .ne 13, 3) := by decide +kernel
theorem dX0_review_37 : decode cX0_review 37 = .ok (.new 111, 3) := by decide +kernel
theorem dX0_review_40 : decode cX0_review 40 = .ok (.dup, 1) := by decide +kernel
theorem dX0_review_41 : decode cX0_review 41 = .ok (.ldc 113, 2) := by decide +kernel
theorem dX0_review_43 : decode cX0_review 43 = .ok (.invokespecial 115, 3) := by decide +kernel
theorem dX0_review_46 : decode cX0_review 46 = .ok (.athrow, 1) := by decide +kernel
theorem dX0_review_47 : decode cX0_review 47 = .ok (.iload_n 1, 1) := by decide +kernel
theorem dX0_review_48 : decode cX0_review 48 = .ok (.iload_n 2, 1) := by decide +kernel
theorem dX0_review_49 : decode cX0_review 49 = .ok (.invokestatic 78, 3) := by decide +kernel
theorem dX0_review_52 : decode cX0_review 52 = .ok (.istore_n 3, 1) := by decide +kernel
theorem dX0_review_53 : decode cX0_review 53 = .ok (.aload_n 0, 1) := by decide +kernel
theorem dX0_review_54 : decode cX0_review 54 = .ok (.getfield 32, 3) := by decide +kernel
theorem dX0_review_57 : decode cX0_review 57 = .ok (.aload_n 0, 1) := by decide +kernel
theorem dX0_review_58 : decode cX0_review 58 = .ok (.getfield 13, 3) := by decide +kernel
theorem dX0_review_61 : decode cX0_review 61 = .ok (.iload_n 3, 1) := by decide +kernel
theorem dX0_review_62 : decode cX0_review 62 = .ok (.iaload, 1) := by decide +kernel
theorem dX0_review_63 : decode cX0_review 63 = .ok (.isub, 1) := by decide +kernel
theorem dX0_review_64 : decode cX0_review 64 = .ok (.istore 4, 2) := by decide +kernel
theorem dX0_review_66 : decode cX0_review 66 = .ok (.aload_n 0, 1) := by decide +kernel
theorem dX0_review_67 : decode cX0_review 67 = .ok (.getfield 13, 3) := by decide +kernel
theorem dX0_review_70 : decode cX0_review 70 = .ok (.iload_n 3, 1) := by decide +kernel
theorem dX0_review_71 : decode cX0_review 71 = .ok (.aload_n 0, 1) := by decide +kernel
theorem dX0_review_72 : decode cX0_review 72 = .ok (.getfield 32, 3) := by decide +kernel
theorem dX0_review_75 : decode cX0_review 75 = .ok (.iastore, 1) := by decide +kernel
theorem dX0_review_76 : decode cX0_review 76 = .ok (.iload 4, 2) := by decide +kernel
theorem dX0_review_78 : decode cX0_review 78 = .ok (.ireturn, 1) := by decide +kernel
set_option maxRecDepth 20000 in
theorem ggX0_nextQuarter_X0_lapsingIn : GoodIn wsX0_nextQuarter wsX0_lapsingIn := goodIn_r _ [9, 10, 4, 11, 12, 13, 8, 14, 15, 16, 17, 25, 26, 27, 28, 29, 30, 31, 32, 33, 34, 35, 36, 37, 38, 39, 40] (by decide +kernel) (by decide +kernel)
set_option maxRecDepth 20000 in
theorem gX0_nextQuarter_X0_lapsingIn : GoodIn wsX0_nextQuarter (wsV RX0 118 RX0 yX0_lapsingIn wsX0_lapsingIn) := goodIn_app (goodIn_of _ (by decide +kernel)) ggX0_nextQuarter_X0_lapsingIn
set_option maxRecDepth 20000 in
theorem ggX0_nextQuarter_J6_bitCount_0f7a4 : GoodIn wsX0_nextQuarter wsJ6_bitCount_0f7a4 := goodIn_r _ [21, 22, 23, 24] (by decide +kernel) (by decide +kernel)
set_option maxRecDepth 20000 in
theorem gX0_nextQuarter_J6_bitCount_0f7a4 : GoodIn wsX0_nextQuarter (va_wsS RX0 92 yJ6_bitCount_0f7a4 wsJ6_bitCount_0f7a4) := goodIn_app (goodIn_of _ (by decide +kernel)) ggX0_nextQuarter_J6_bitCount_0f7a4
theorem dX0_nextQuarter_0 : decode cX0_nextQuarter 0 = .ok (.aload_n 0, 1) := by decide +kernel
theorem dX0_nextQuarter_1 : decode cX0_nextQuarter 1 = .ok (.getfield 32, 3) := by decide +kernel
theorem dX0_nextQuarter_4 : decode cX0_nextQuarter 4 = .ok (.bipush 100, 2) := by decide +kernel
theorem dX0_nextQuarter_6 : decode cX0_nextQuarter 6 = .ok (.if_icmp .lt 13, 3) := by decide +kernel
theorem dX0_nextQuarter_9 : decode cX0_nextQuarter 9 = .ok (.new 111, 3) := by decide +kernel
theorem dX0_nextQuarter_12 : decode cX0_nextQuarter 12 = .ok (.dup, 1) := by decide +kernel
theorem dX0_nextQuarter_13 : decode cX0_nextQuarter 13 = .ok (.ldc 116, 2) := by decide +kernel
theorem dX0_nextQuarter_15 : decode cX0_nextQuarter 15 = .ok (.invokespecial 115, 3) := by decide +kernel
theorem dX0_nextQuarter_18 : decode cX0_nextQuarter 18 = .ok (.athrow, 1) := by decide +kernel
theorem dX0_nextQuarter_19 : decode cX0_nextQuarter 19 = .ok (.aload_n 0, 1) := by decide +kernel
theorem dX0_nextQuarter_20 : decode cX0_nextQuarter 20 = .ok (.dup, 1) := by decide +kernel
theorem dX0_nextQuarter_21 : decode cX0_nextQuarter 21 = .ok (.getfield 32, 3) := by decide +kernel
theorem dX0_nextQuarter_24 : decode cX0_nextQuarter 24 = .ok (.iconst 1, 1) := by decide +kernel
theorem dX0_nextQuarter_25 : decode cX0_nextQuarter 25 = .ok (.iadd, 1) := by decide +kernel
theorem dX0_nextQuarter_26 : decode cX0_nextQuarter 26 = .ok (.putfield 32, 3) := by decide +kernel
theorem dX0_nextQuarter_29 : decode cX0_nextQuarter 29 = .ok (.iconst 0, 1) := by decide +kernel
theorem dX0_nextQuarter_30 : decode cX0_nextQuarter 30 = .ok (.istore_n 1, 1) := by decide +kernel
theorem dX0_nextQuarter_31 : decode cX0_nextQuarter 31 = .ok (.iconst 0, 1) := by decide +kernel
theorem dX0_nextQuarter_32 : decode cX0_nextQuarter 32 = .ok (.istore_n 2, 1) := by decide +kernel
theorem dX0_nextQuarter_33 : decode cX0_nextQuarter 33 = .ok (.iload_n 2, 1) := by decide +kernel
theorem dX0_nextQuarter_34 : decode cX0_nextQuarter 34 = .ok (.bipush 8, 2) := by decide +kernel
theorem dX0_nextQuarter_36 : decode cX0_nextQuarter 36 = .ok (.if_icmp .ge 38, 3) := by decide +kernel
theorem dX0_nextQuarter_39 : decode cX0_nextQuarter 39 = .ok (.aload_n 0, 1) := by decide +kernel
theorem dX0_nextQuarter_40 : decode cX0_nextQuarter 40 = .ok (.aload_n 0, 1) := by decide +kernel
theorem dX0_nextQuarter_41 : decode cX0_nextQuarter 41 = .ok (.getfield 32, 3) := by decide +kernel
theorem dX0_nextQuarter_44 : decode cX0_nextQuarter 44 = .ok (.iload_n 2, 1) := by decide +kernel
theorem dX0_nextQuarter_45 : decode cX0_nextQuarter 45 = .ok (.invokevirtual 118, 3) := by decide +kernel
theorem dX0_nextQuarter_48 : decode cX0_nextQuarter 48 = .ok (.istore_n 3, 1) := by decide +kernel
theorem dX0_nextQuarter_49 : decode cX0_nextQuarter 49 = .ok (.aload_n 0, 1) := by decide +kernel
theorem dX0_nextQuarter_50 : decode cX0_nextQuarter 50 = .ok (.getfield 9, 3) := by decide +kernel
theorem dX0_nextQuarter_53 : decode cX0_nextQuarter 53 = .ok (.iload_n 2, 1) := by decide +kernel
theorem dX0_nextQuarter_54 : decode cX0_nextQuarter 54 = .ok (.dup2, 1) := by decide +kernel
theorem dX0_nextQuarter_55 : decode cX0_nextQuarter 55 = .ok (.iaload, 1) := by decide +kernel
theorem dX0_nextQuarter_56 : decode cX0_nextQuarter 56 = .ok (.iload_n 3, 1) := by decide +kernel
theorem dX0_nextQuarter_57 : decode cX0_nextQuarter 57 = .ok (.iconst (-1), 1) := by decide +kernel
theorem dX0_nextQuarter_58 : decode cX0_nextQuarter 58 = .ok (.ixor, 1) := by decide +kernel
theorem dX0_nextQuarter_59 : decode cX0_nextQuarter 59 = .ok (.iand, 1) := by decide +kernel
theorem dX0_nextQuarter_60 : decode cX0_nextQuarter 60 = .ok (.iastore, 1) := by decide +kernel
theorem dX0_nextQuarter_61 : decode cX0_nextQuarter 61 = .ok (.iload_n 1, 1) := by decide +kernel
theorem dX0_nextQuarter_62 : decode cX0_nextQuarter 62 = .ok (.iload_n 3, 1) := by decide +kernel
theorem dX0_nextQuarter_63 : decode cX0_nextQuarter 63 = .ok (.invokestatic 92, 3) := by decide +kernel
theorem dX0_nextQuarter_66 : decode cX0_nextQuarter 66 = .ok (.iadd, 1) := by decide +kernel
theorem dX0_nextQuarter_67 : decode cX0_nextQuarter 67 = .ok (.istore_n 1, 1) := by decide +kernel
theorem dX0_nextQuarter_68 : decode cX0_nextQuarter 68 = .ok (.iinc 2 1, 3) := by decide +kernel
theorem dX0_nextQuarter_71 : decode cX0_nextQuarter 71 = .ok (.goto (-38), 3) := by decide +kernel
theorem dX0_nextQuarter_74 : decode cX0_nextQuarter 74 = .ok (.iload_n 1, 1) := by decide +kernel
theorem dX0_nextQuarter_75 : decode cX0_nextQuarter 75 = .ok (.ireturn, 1) := by decide +kernel
set_option maxRecDepth 20000 in
theorem ggX0_mineGreedily_X0_findCandidates : GoodIn wsX0_mineGreedily wsX0_findCandidates := goodIn_r _ [14, 4, 15, 6, 16, 17, 18, 13, 19, 20, 21, 22, 23, 24, 25, 26, 27, 28, 29, 30, 31, 32, 33, 34, 35, 36, 37, 38, 39, 40, 41, 42, 43, 44, 45, 46, 47, 48, 49, 50, 7, 9, 51, 52, 53, 54, 55, 56, 57, 58, 59, 60, 2, 3, 78, 79, 80, 81, 82, 83, 84, 85, 86, 87, 88, 89, 90, 91, 92, 93] (by decide +kernel) (by decide +kernel)
set_option maxRecDepth 20000 in
theorem gX0_mineGreedily_X0_findCandidates : GoodIn wsX0_mineGreedily (wsV RX0 121 RX0 yX0_findCandidates wsX0_findCandidates) := goodIn_app (goodIn_of _ (by decide +kernel)) ggX0_mineGreedily_X0_findCandidates
set_option maxRecDepth 20000 in
theorem ggX0_mineGreedily_X0_mostSavingCandidate : GoodIn wsX0_mineGreedily wsX0_mostSavingCandidate := goodIn_r _ [64, 4, 7, 9, 65, 66, 67, 68, 69, 70, 71, 72, 73, 78, 79, 80, 81, 82, 83, 84, 85, 86, 87, 88, 89, 90, 91, 92, 93] (by decide +kernel) (by decide +kernel)
set_option maxRecDepth 20000 in
theorem gX0_mineGreedily_X0_mostSavingCandidate : GoodIn wsX0_mineGreedily (wsV RX0 124 RX0 yX0_mostSavingCandidate wsX0_mostSavingCandidate) := goodIn_app (goodIn_of _ (by decide +kernel)) ggX0_mineGreedily_X0_mostSavingCandidate
set_option maxRecDepth 20000 in
theorem ggX0_mineGreedily_X0_insertInOrder : GoodIn wsX0_mineGreedily wsX0_insertInOrder := goodIn_r _ [46] (by decide +kernel) (by decide +kernel)
set_option maxRecDepth 20000 in
theorem gX0_mineGreedily_X0_insertInOrder : GoodIn wsX0_mineGreedily (va_wsS RX0 128 yX0_insertInOrder wsX0_insertInOrder) := goodIn_app (goodIn_of _ (by decide +kernel)) ggX0_mineGreedily_X0_insertInOrder
set_option maxRecDepth 20000 in
theorem ggX0_mineGreedily_X0_costWith : GoodIn wsX0_mineGreedily wsX0_costWith := goodIn_r _ [77, 66, 65, 67, 68, 69, 70, 71, 72, 73, 78, 79, 80, 81, 82, 83, 84, 85, 86, 87, 88, 89, 90, 91, 92, 93] (by decide +kernel) (by decide +kernel)
set_option maxRecDepth 20000 in
theorem gX0_mineGreedily_X0_costWith : GoodIn wsX0_mineGreedily (wsV RX0 134 RX0 yX0_costWith wsX0_costWith) := goodIn_app (goodIn_of _ (by decide +kernel)) ggX0_mineGreedily_X0_costWith
theorem dX0_mineGreedily_0 : decode cX0_mineGreedily 0 = .ok (.aload_n 0, 1) := by decide +kernel
theorem dX0_mineGreedily_1 : decode cX0_mineGreedily 1 = .ok (.invokevirtual 121, 3) := by decide +kernel
theorem dX0_mineGreedily_4 : decode cX0_mineGreedily 4 = .ok (.aload_n 0, 1) := by decide +kernel
theorem dX0_mineGreedily_5 : decode cX0_mineGreedily 5 = .ok (.iconst 0, 1) := by decide +kernel
theorem dX0_mineGreedily_6 : decode cX0_mineGreedily 6 = .ok (.putfield 38, 3) := by decide +kernel
theorem dX0_mineGreedily_9 : decode cX0_mineGreedily 9 = .ok (.aload_n 0, 1) := by decide +kernel
theorem dX0_mineGreedily_10 : decode cX0_mineGreedily 10 = .ok (.getfield 54, 3) := by decide +kernel
theorem dX0_mineGreedily_13 : decode cX0_mineGreedily 13 = .ok (.bipush 14, 2) := by decide +kernel
theorem dX0_mineGreedily_15 : decode cX0_mineGreedily 15 = .ok (.laload, 1) := by decide +kernel
theorem dX0_mineGreedily_16 : decode cX0_mineGreedily 16 = .ok (.lstore_n 1, 1) := by decide +kernel
theorem dX0_mineGreedily_17 : decode cX0_mineGreedily 17 = .ok (.aload_n 0, 1) := by decide +kernel
theorem dX0_mineGreedily_18 : decode cX0_mineGreedily 18 = .ok (.getfield 57, 3) := by decide +kernel
theorem dX0_mineGreedily_21 : decode cX0_mineGreedily 21 = .ok (.bipush 14, 2) := by decide +kernel
theorem dX0_mineGreedily_23 : decode cX0_mineGreedily 23 = .ok (.laload, 1) := by decide +kernel
theorem dX0_mineGreedily_24 : decode cX0_mineGreedily 24 = .ok (.lstore_n 3, 1) := by decide +kernel
theorem dX0_mineGreedily_25 : decode cX0_mineGreedily 25 = .ok (.iconst 0, 1) := by decide +kernel
theorem dX0_mineGreedily_26 : decode cX0_mineGreedily 26 = .ok (.istore 5, 2) := by decide +kernel
theorem dX0_mineGreedily_28 : decode cX0_mineGreedily 28 = .ok (.iload 5, 2) := by decide +kernel
theorem dX0_mineGreedily_30 : decode cX0_mineGreedily 30 = .ok (.aload_n 0, 1) := by decide +kernel
theorem dX0_mineGreedily_31 : decode cX0_mineGreedily 31 = .ok (.getfield 44, 3) := by decide +kernel
theorem dX0_mineGreedily_34 : decode cX0_mineGreedily 34 = .ok (.if_icmp .ge 84, 3) := by decide +kernel
theorem dX0_mineGreedily_37 : decode cX0_mineGreedily 37 = .ok (.aload_n 0, 1) := by decide +kernel
theorem dX0_mineGreedily_38 : decode cX0_mineGreedily 38 = .ok (.lload_n 1, 1) := by decide +kernel
theorem dX0_mineGreedily_39 : decode cX0_mineGreedily 39 = .ok (.lload_n 3, 1) := by decide +kernel
theorem dX0_mineGreedily_40 : decode cX0_mineGreedily 40 = .ok (.invokevirtual 124, 3) := by decide +kernel
theorem dX0_mineGreedily_43 : decode cX0_mineGreedily 43 = .ok (.istore 6, 2) := by decide +kernel
theorem dX0_mineGreedily_45 : decode cX0_mineGreedily 45 = .ok (.iload 6, 2) := by decide +kernel
theorem dX0_mineGreedily_47 : decode cX0_mineGreedily 47 = .ok (.ifCond .lt 71, 3) := by decide +kernel
theorem dX0_mineGreedily_50 : decode cX0_mineGreedily 50 = .ok (.iload 6, 2) := by decide +kernel
theorem dX0_mineGreedily_52 : decode cX0_mineGreedily 52 = .ok (.aload_n 0, 1) := by decide +kernel
theorem dX0_mineGreedily_53 : decode cX0_mineGreedily 53 = .ok (.getfield 44, 3) := by decide +kernel
theorem dX0_mineGreedily_56 : decode cX0_mineGreedily 56 = .ok (.if_icmp .lt 6, 3) := by decide +kernel
theorem dX0_mineGreedily_59 : decode cX0_mineGreedily 59 = .ok (.goto 59, 3) := by decide +kernel
theorem dX0_mineGreedily_62 : decode cX0_mineGreedily 62 = .ok (.aload_n 0, 1) := by decide +kernel
theorem dX0_mineGreedily_63 : decode cX0_mineGreedily 63 = .ok (.aload_n 0, 1) := by decide +kernel
theorem dX0_mineGreedily_64 : decode cX0_mineGreedily 64 = .ok (.getfield 35, 3) := by decide +kernel
theorem dX0_mineGreedily_67 : decode cX0_mineGreedily 67 = .ok (.aload_n 0, 1) := by decide +kernel
theorem dX0_mineGreedily_68 : decode cX0_mineGreedily 68 = .ok (.getfield 38, 3) := by decide +kernel
theorem dX0_mineGreedily_71 : decode cX0_mineGreedily 71 = .ok (.aload_n 0, 1) := by decide +kernel
theorem dX0_mineGreedily_72 : decode cX0_mineGreedily 72 = .ok (.getfield 41, 3) := by decide +kernel
theorem dX0_mineGreedily_75 : decode cX0_mineGreedily 75 = .ok (.iload 6, 2) := by decide +kernel
theorem dX0_mineGreedily_77 : decode cX0_mineGreedily 77 = .ok (.iaload, 1) := by decide +kernel
theorem dX0_mineGreedily_78 : decode cX0_mineGreedily 78 = .ok (.invokestatic 128, 3) := by decide +kernel
theorem dX0_mineGreedily_81 : decode cX0_mineGreedily 81 = .ok (.putfield 38, 3) := by decide +kernel
theorem dX0_mineGreedily_84 : decode cX0_mineGreedily 84 = .ok (.lload_n 1, 1) := by decide +kernel
theorem dX0_mineGreedily_85 : decode cX0_mineGreedily 85 = .ok (.aload_n 0, 1) := by decide +kernel
theorem dX0_mineGreedily_86 : decode cX0_mineGreedily 86 = .ok (.getfield 47, 3) := by decide +kernel
theorem dX0_mineGreedily_89 : decode cX0_mineGreedily 89 = .ok (.iload 6, 2) := by decide +kernel
theorem dX0_mineGreedily_91 : decode cX0_mineGreedily 91 = .ok (.laload, 1) := by decide +kernel
theorem dX0_mineGreedily_92 : decode cX0_mineGreedily 92 = .ok (.ldc2_w 132, 3) := by decide +kernel
theorem dX0_mineGreedily_95 : decode cX0_mineGreedily 95 = .ok (.lxor, 1) := by decide +kernel
theorem dX0_mineGreedily_96 : decode cX0_mineGreedily 96 = .ok (.land, 1) := by decide +kernel
theorem dX0_mineGreedily_97 : decode cX0_mineGreedily 97 = .ok (.lstore_n 1, 1) := by decide +kernel
theorem dX0_mineGreedily_98 : decode cX0_mineGreedily 98 = .ok (.lload_n 3, 1) := by decide +kernel
theorem dX0_mineGreedily_99 : decode cX0_mineGreedily 99 = .ok (.aload_n 0, 1) := by decide +kernel
theorem dX0_mineGreedily_100 : decode cX0_mineGreedily 100 = .ok (.getfield 51, 3) := by decide +kernel
theorem dX0_mineGreedily_103 : decode cX0_mineGreedily 103 = .ok (.iload 6, 2) := by decide +kernel
theorem dX0_mineGreedily_105 : decode cX0_mineGreedily 105 = .ok (.laload, 1) := by decide +kernel
theorem dX0_mineGreedily_106 : decode cX0_mineGreedily 106 = .ok (.ldc2_w 132, 3) := by decide +kernel
theorem dX0_mineGreedily_109 : decode cX0_mineGreedily 109 = .ok (.lxor, 1) := by decide +kernel
theorem dX0_mineGreedily_110 : decode cX0_mineGreedily 110 = .ok (.land, 1) := by decide +kernel
theorem dX0_mineGreedily_111 : decode cX0_mineGreedily 111 = .ok (.lstore_n 3, 1) := by decide +kernel
theorem dX0_mineGreedily_112 : decode cX0_mineGreedily 112 = .ok (.iinc 5 1, 3) := by decide +kernel
theorem dX0_mineGreedily_115 : decode cX0_mineGreedily 115 = .ok (.goto (-87), 3) := by decide +kernel
theorem dX0_mineGreedily_118 : decode cX0_mineGreedily 118 = .ok (.aload_n 0, 1) := by decide +kernel
theorem dX0_mineGreedily_119 : decode cX0_mineGreedily 119 = .ok (.aload_n 0, 1) := by decide +kernel
theorem dX0_mineGreedily_120 : decode cX0_mineGreedily 120 = .ok (.getfield 38, 3) := by decide +kernel
theorem dX0_mineGreedily_123 : decode cX0_mineGreedily 123 = .ok (.lload_n 1, 1) := by decide +kernel
theorem dX0_mineGreedily_124 : decode cX0_mineGreedily 124 = .ok (.lload_n 3, 1) := by decide +kernel
theorem dX0_mineGreedily_125 : decode cX0_mineGreedily 125 = .ok (.invokevirtual 134, 3) := by decide +kernel
theorem dX0_mineGreedily_128 : decode cX0_mineGreedily 128 = .ok (.ireturn, 1) := by decide +kernel
set_option maxRecDepth 20000 in
theorem ggX0_mineBest_X0_findCandidates : GoodIn wsX0_mineBest wsX0_findCandidates := goodIn_r _ [11, 3, 12, 6, 13, 14, 15, 10, 16, 17, 18, 19, 20, 21, 22, 23, 24, 25, 26, 27, 28, 29, 30, 31, 32, 33, 34, 35, 36, 37, 38, 39, 40, 41, 42, 43, 44, 45, 46, 47, 48, 49, 50, 51, 52, 53, 54, 55, 56, 57, 58, 59, 60, 61, 98, 99, 100, 101, 102, 103, 104, 105, 106, 107, 108, 109, 110, 111, 112, 113] (by decide +kernel) (by decide +kernel)
set_option maxRecDepth 20000 in
theorem gX0_mineBest_X0_findCandidates : GoodIn wsX0_mineBest (wsV RX0 121 RX0 yX0_findCandidates wsX0_findCandidates) := goodIn_app (goodIn_of _ (by decide +kernel)) ggX0_mineBest_X0_findCandidates
set_option maxRecDepth 20000 in
theorem ggX0_mineBest_X0_bestChoice : GoodIn wsX0_mineBest wsX0_bestChoice := goodIn_r _ [65, 3, 66, 67, 68, 69, 60, 48, 70, 61, 49, 71, 72, 73, 10, 74, 18, 19, 20, 29, 30, 31, 32, 33, 34, 35, 75, 76, 77, 78, 79, 80, 81, 82, 83, 84, 85, 86, 87, 88, 89, 90, 91, 92, 93, 94, 95, 96, 97, 98, 99, 100, 101, 102, 103, 104, 105, 106, 107, 108, 109, 110, 111, 112, 113] (by decide +kernel) (by decide +kernel)
set_option maxRecDepth 20000 in
theorem gX0_mineBest_X0_bestChoice : GoodIn wsX0_mineBest (wsV RX0 140 RX0 yX0_bestChoice wsX0_bestChoice) := goodIn_app (goodIn_of _ (by decide +kernel)) ggX0_mineBest_X0_bestChoice
set_option maxRecDepth 20000 in
theorem ggX0_mineBest_X0_has : GoodIn wsX0_mineBest wsX0_has := goodIn_r _ [20] (by decide +kernel) (by decide +kernel)
set_option maxRecDepth 20000 in
theorem gX0_mineBest_X0_has : GoodIn wsX0_mineBest (va_wsS RX0 74 yX0_has wsX0_has) := goodIn_app (goodIn_of _ (by decide +kernel)) ggX0_mineBest_X0_has
set_option maxRecDepth 20000 in
theorem ggX0_mineBest_X0_insertInOrder : GoodIn wsX0_mineBest wsX0_insertInOrder := goodIn_r _ [43] (by decide +kernel) (by decide +kernel)
set_option maxRecDepth 20000 in
theorem gX0_mineBest_X0_insertInOrder : GoodIn wsX0_mineBest (va_wsS RX0 128 yX0_insertInOrder wsX0_insertInOrder) := goodIn_app (goodIn_of _ (by decide +kernel)) ggX0_mineBest_X0_insertInOrder
set_option maxRecDepth 20000 in
theorem ggX0_mineBest_X0_costOfChoice : GoodIn wsX0_mineBest wsX0_costOfChoice := goodIn_r _ [74, 60, 61, 3, 48, 70, 49, 18, 19, 10, 20, 29, 30, 31, 32, 33, 34, 35, 75, 76, 77, 78, 79, 80, 81, 82, 83, 84, 85, 86, 87, 98, 99, 100, 101, 102, 103, 104, 105, 106, 107, 108, 109, 110, 111, 112, 113] (by decide +kernel) (by decide +kernel)
set_option maxRecDepth 20000 in
theorem gX0_mineBest_X0_costOfChoice : GoodIn wsX0_mineBest (wsV RX0 144 RX0 yX0_costOfChoice wsX0_costOfChoice) := goodIn_app (goodIn_of _ (by decide +kernel)) ggX0_mineBest_X0_costOfChoice
theorem dX0_mineBest_0 : decode cX0_mineBest 0 = .ok (.aload_n 0, 1) := by decide +kernel
theorem dX0_mineBest_1 : decode cX0_mineBest 1 = .ok (.invokevirtual 121, 3) := by decide +kernel
theorem dX0_mineBest_4 : decode cX0_mineBest 4 = .ok (.aload_n 0, 1) := by decide +kernel
theorem dX0_mineBest_5 : decode cX0_mineBest 5 = .ok (.getfield 44, 3) := by decide +kernel
theorem dX0_mineBest_8 : decode cX0_mineBest 8 = .ok (.bipush 14, 2) := by decide +kernel
theorem dX0_mineBest_10 : decode cX0_mineBest 10 = .ok (.if_icmp .le 13, 3) := by decide +kernel
theorem dX0_mineBest_13 : decode cX0_mineBest 13 = .ok (.new 111, 3) := by decide +kernel
theorem dX0_mineBest_16 : decode cX0_mineBest 16 = .ok (.dup, 1) := by decide +kernel
theorem dX0_mineBest_17 : decode cX0_mineBest 17 = .ok (.ldc 138, 2) := by decide +kernel
theorem dX0_mineBest_19 : decode cX0_mineBest 19 = .ok (.invokespecial 115, 3) := by decide +kernel
theorem dX0_mineBest_22 : decode cX0_mineBest 22 = .ok (.athrow, 1) := by decide +kernel
theorem dX0_mineBest_23 : decode cX0_mineBest 23 = .ok (.aload_n 0, 1) := by decide +kernel
theorem dX0_mineBest_24 : decode cX0_mineBest 24 = .ok (.invokevirtual 140, 3) := by decide +kernel
theorem dX0_mineBest_27 : decode cX0_mineBest 27 = .ok (.istore_n 1, 1) := by decide +kernel
theorem dX0_mineBest_28 : decode cX0_mineBest 28 = .ok (.aload_n 0, 1) := by decide +kernel
theorem dX0_mineBest_29 : decode cX0_mineBest 29 = .ok (.iconst 0, 1) := by decide +kernel
theorem dX0_mineBest_30 : decode cX0_mineBest 30 = .ok (.putfield 38, 3) := by decide +kernel
theorem dX0_mineBest_33 : decode cX0_mineBest 33 = .ok (.iconst 0, 1) := by decide +kernel
theorem dX0_mineBest_34 : decode cX0_mineBest 34 = .ok (.istore_n 2, 1) := by decide +kernel
theorem dX0_mineBest_35 : decode cX0_mineBest 35 = .ok (.iload_n 2, 1) := by decide +kernel
theorem dX0_mineBest_36 : decode cX0_mineBest 36 = .ok (.aload_n 0, 1) := by decide +kernel
theorem dX0_mineBest_37 : decode cX0_mineBest 37 = .ok (.getfield 44, 3) := by decide +kernel
theorem dX0_mineBest_40 : decode cX0_mineBest 40 = .ok (.if_icmp .ge 38, 3) := by decide +kernel
theorem dX0_mineBest_43 : decode cX0_mineBest 43 = .ok (.iload_n 1, 1) := by decide +kernel
theorem dX0_mineBest_44 : decode cX0_mineBest 44 = .ok (.iload_n 2, 1) := by decide +kernel
theorem dX0_mineBest_45 : decode cX0_mineBest 45 = .ok (.invokestatic 74, 3) := by decide +kernel
theorem dX0_mineBest_48 : decode cX0_mineBest 48 = .ok (.ifCond .eq 24, 3) := by decide +kernel
theorem dX0_mineBest_51 : decode cX0_mineBest 51 = .ok (.aload_n 0, 1) := by decide +kernel
theorem dX0_mineBest_52 : decode cX0_mineBest 52 = .ok (.aload_n 0, 1) := by decide +kernel
theorem dX0_mineBest_53 : decode cX0_mineBest 53 = .ok (.getfield 35, 3) := by decide +kernel
theorem dX0_mineBest_56 : decode cX0_mineBest 56 = .ok (.aload_n 0, 1) := by decide +kernel
theorem dX0_mineBest_57 : decode cX0_mineBest 57 = .ok (.getfield 38, 3) := by decide +kernel
theorem dX0_mineBest_60 : decode cX0_mineBest 60 = .ok (.aload_n 0, 1) := by decide +kernel
theorem dX0_mineBest_61 : decode cX0_mineBest 61 = .ok (.getfield 41, 3) := by decide +kernel
theorem dX0_mineBest_64 : decode cX0_mineBest 64 = .ok (.iload_n 2, 1) := by decide +kernel
theorem dX0_mineBest_65 : decode cX0_mineBest 65 = .ok (.iaload, 1) := by decide +kernel
theorem dX0_mineBest_66 : decode cX0_mineBest 66 = .ok (.invokestatic 128, 3) := by decide +kernel
theorem dX0_mineBest_69 : decode cX0_mineBest 69 = .ok (.putfield 38, 3) := by decide +kernel
theorem dX0_mineBest_72 : decode cX0_mineBest 72 = .ok (.iinc 2 1, 3) := by decide +kernel
theorem dX0_mineBest_75 : decode cX0_mineBest 75 = .ok (.goto (-40), 3) := by decide +kernel
theorem dX0_mineBest_78 : decode cX0_mineBest 78 = .ok (.aload_n 0, 1) := by decide +kernel
theorem dX0_mineBest_79 : decode cX0_mineBest 79 = .ok (.iload_n 1, 1) := by decide +kernel
theorem dX0_mineBest_80 : decode cX0_mineBest 80 = .ok (.invokevirtual 144, 3) := by decide +kernel
theorem dX0_mineBest_83 : decode cX0_mineBest 83 = .ok (.ireturn, 1) := by decide +kernel
theorem dX0_dropRoles_0 : decode cX0_dropRoles 0 = .ok (.aload_n 0, 1) := by decide +kernel
theorem dX0_dropRoles_1 : decode cX0_dropRoles 1 = .ok (.getfield 38, 3) := by decide +kernel
theorem dX0_dropRoles_4 : decode cX0_dropRoles 4 = .ok (.istore_n 1, 1) := by decide +kernel
theorem dX0_dropRoles_5 : decode cX0_dropRoles 5 = .ok (.aload_n 0, 1) := by decide +kernel
theorem dX0_dropRoles_6 : decode cX0_dropRoles 6 = .ok (.iconst 0, 1) := by decide +kernel
theorem dX0_dropRoles_7 : decode cX0_dropRoles 7 = .ok (.putfield 38, 3) := by decide +kernel
theorem dX0_dropRoles_10 : decode cX0_dropRoles 10 = .ok (.iload_n 1, 1) := by decide +kernel
theorem dX0_dropRoles_11 : decode cX0_dropRoles 11 = .ok (.ireturn, 1) := by decide +kernel
set_option maxRecDepth 20000 in
theorem ggX0_permissions_X0_isUser : GoodIn wsX0_permissions wsX0_isUser := goodIn_r _ [7] (by decide +kernel) (by decide +kernel)
set_option maxRecDepth 20000 in
theorem gX0_permissions_X0_isUser : GoodIn wsX0_permissions (va_wsS RX0 60 yX0_isUser wsX0_isUser) := goodIn_app (goodIn_of _ (by decide +kernel)) ggX0_permissions_X0_isUser
theorem dX0_permissions_0 : decode cX0_permissions 0 = .ok (.iload_n 1, 1) := by decide +kernel
theorem dX0_permissions_1 : decode cX0_permissions 1 = .ok (.invokestatic 60, 3) := by decide +kernel
theorem dX0_permissions_4 : decode cX0_permissions 4 = .ok (.ifCond .ne 13, 3) := by decide +kernel
theorem dX0_permissions_7 : decode cX0_permissions 7 = .ok (.new 67, 3) := by decide +kernel
theorem dX0_permissions_10 : decode cX0_permissions 10 = .ok (.dup, 1) := by decide +kernel
theorem dX0_permissions_11 : decode cX0_permissions 11 = .ok (.ldc 82, 2) := by decide +kernel
theorem dX0_permissions_13 : decode cX0_permissions 13 = .ok (.invokespecial 71, 3) := by decide +kernel
theorem dX0_permissions_16 : decode cX0_permissions 16 = .ok (.athrow, 1) := by decide +kernel
theorem dX0_permissions_17 : decode cX0_permissions 17 = .ok (.aload_n 0, 1) := by decide +kernel
theorem dX0_permissions_18 : decode cX0_permissions 18 = .ok (.getfield 9, 3) := by decide +kernel
theorem dX0_permissions_21 : decode cX0_permissions 21 = .ok (.iload_n 1, 1) := by decide +kernel
theorem dX0_permissions_22 : decode cX0_permissions 22 = .ok (.iaload, 1) := by decide +kernel
theorem dX0_permissions_23 : decode cX0_permissions 23 = .ok (.ireturn, 1) := by decide +kernel
set_option maxRecDepth 20000 in
theorem ggX0_grants_J6_bitCount_0f7a4 : GoodIn wsX0_grants wsJ6_bitCount_0f7a4 := goodIn_r _ [5, 6, 7, 8] (by decide +kernel) (by decide +kernel)
set_option maxRecDepth 20000 in
theorem gX0_grants_J6_bitCount_0f7a4 : GoodIn wsX0_grants (va_wsS RX0 92 yJ6_bitCount_0f7a4 wsJ6_bitCount_0f7a4) := goodIn_app (goodIn_of _ (by decide +kernel)) ggX0_grants_J6_bitCount_0f7a4
theorem dX0_grants_0 : decode cX0_grants 0 = .ok (.iconst 0, 1) := by decide +kernel
theorem dX0_grants_1 : decode cX0_grants 1 = .ok (.istore_n 1, 1) := by decide +kernel
theorem dX0_grants_2 : decode cX0_grants 2 = .ok (.iconst 0, 1) := by decide +kernel
theorem dX0_grants_3 : decode cX0_grants 3 = .ok (.istore_n 2, 1) := by decide +kernel
theorem dX0_grants_4 : decode cX0_grants 4 = .ok (.iload_n 2, 1) := by decide +kernel
theorem dX0_grants_5 : decode cX0_grants 5 = .ok (.bipush 8, 2) := by decide +kernel
theorem dX0_grants_7 : decode cX0_grants 7 = .ok (.if_icmp .ge 21, 3) := by decide +kernel
theorem dX0_grants_10 : decode cX0_grants 10 = .ok (.iload_n 1, 1) := by decide +kernel
theorem dX0_grants_11 : decode cX0_grants 11 = .ok (.aload_n 0, 1) := by decide +kernel
theorem dX0_grants_12 : decode cX0_grants 12 = .ok (.getfield 9, 3) := by decide +kernel
theorem dX0_grants_15 : decode cX0_grants 15 = .ok (.iload_n 2, 1) := by decide +kernel
theorem dX0_grants_16 : decode cX0_grants 16 = .ok (.iaload, 1) := by decide +kernel
theorem dX0_grants_17 : decode cX0_grants 17 = .ok (.invokestatic 92, 3) := by decide +kernel
theorem dX0_grants_20 : decode cX0_grants 20 = .ok (.iadd, 1) := by decide +kernel
theorem dX0_grants_21 : decode cX0_grants 21 = .ok (.istore_n 1, 1) := by decide +kernel
theorem dX0_grants_22 : decode cX0_grants 22 = .ok (.iinc 2 1, 3) := by decide +kernel
theorem dX0_grants_25 : decode cX0_grants 25 = .ok (.goto (-21), 3) := by decide +kernel
theorem dX0_grants_28 : decode cX0_grants 28 = .ok (.iload_n 1, 1) := by decide +kernel
theorem dX0_grants_29 : decode cX0_grants 29 = .ok (.ireturn, 1) := by decide +kernel
set_option maxRecDepth 20000 in
theorem ggX0_violations_X0_isUser : GoodIn wsX0_violations wsX0_isUser := goodIn_r _ [8] (by decide +kernel) (by decide +kernel)
set_option maxRecDepth 20000 in
theorem gX0_violations_X0_isUser : GoodIn wsX0_violations (va_wsS RX0 60 yX0_isUser wsX0_isUser) := goodIn_app (goodIn_of _ (by decide +kernel)) ggX0_violations_X0_isUser
set_option maxRecDepth 20000 in
theorem ggX0_violations_X0_has : GoodIn wsX0_violations wsX0_has := goodIn_r _ [11] (by decide +kernel) (by decide +kernel)
set_option maxRecDepth 20000 in
theorem gX0_violations_X0_has : GoodIn wsX0_violations (va_wsS RX0 74 yX0_has wsX0_has) := goodIn_app (goodIn_of _ (by decide +kernel)) ggX0_violations_X0_has
set_option maxRecDepth 20000 in
theorem ggX0_violations_J6_bitCount_0f7a4 : GoodIn wsX0_violations wsJ6_bitCount_0f7a4 := goodIn_r _ [15, 16, 17, 18] (by decide +kernel) (by decide +kernel)
set_option maxRecDepth 20000 in
theorem gX0_violations_J6_bitCount_0f7a4 : GoodIn wsX0_violations (va_wsS RX0 92 yJ6_bitCount_0f7a4 wsJ6_bitCount_0f7a4) := goodIn_app (goodIn_of _ (by decide +kernel)) ggX0_violations_J6_bitCount_0f7a4
theorem dX0_violations_0 : decode cX0_violations 0 = .ok (.iload_n 1, 1) := by decide +kernel
theorem dX0_violations_1 : decode cX0_violations 1 = .ok (.invokestatic 60, 3) := by decide +kernel
theorem dX0_violations_4 : decode cX0_violations 4 = .ok (.ifCond .ne 13, 3) := by decide +kernel
theorem dX0_violations_7 : decode cX0_violations 7 = .ok (.new 67, 3) := by decide +kernel
theorem dX0_violations_10 : decode cX0_violations 10 = .ok (.dup, 1) := by decide +kernel
theorem dX0_violations_11 : decode cX0_violations 11 = .ok (.ldc 82, 2) := by decide +kernel
theorem dX0_violations_13 : decode cX0_violations 13 = .ok (.invokespecial 71, 3) := by decide +kernel
theorem dX0_violations_16 : decode cX0_violations 16 = .ok (.athrow, 1) := by decide +kernel
theorem dX0_violations_17 : decode cX0_violations 17 = .ok (.iconst 0, 1) := by decide +kernel
theorem dX0_violations_18 : decode cX0_violations 18 = .ok (.istore_n 2, 1) := by decide +kernel
theorem dX0_violations_19 : decode cX0_violations 19 = .ok (.iconst 0, 1) := by decide +kernel
theorem dX0_violations_20 : decode cX0_violations 20 = .ok (.istore_n 3, 1) := by decide +kernel
theorem dX0_violations_21 : decode cX0_violations 21 = .ok (.iload_n 3, 1) := by decide +kernel
theorem dX0_violations_22 : decode cX0_violations 22 = .ok (.bipush 12, 2) := by decide +kernel
theorem dX0_violations_24 : decode cX0_violations 24 = .ok (.if_icmp .ge 41, 3) := by decide +kernel
theorem dX0_violations_27 : decode cX0_violations 27 = .ok (.aload_n 0, 1) := by decide +kernel
theorem dX0_violations_28 : decode cX0_violations 28 = .ok (.getfield 9, 3) := by decide +kernel
theorem dX0_violations_31 : decode cX0_violations 31 = .ok (.iload_n 1, 1) := by decide +kernel
theorem dX0_violations_32 : decode cX0_violations 32 = .ok (.iaload, 1) := by decide +kernel
theorem dX0_violations_33 : decode cX0_violations 33 = .ok (.iload_n 3, 1) := by decide +kernel
theorem dX0_violations_34 : decode cX0_violations 34 = .ok (.invokestatic 74, 3) := by decide +kernel
theorem dX0_violations_37 : decode cX0_violations 37 = .ok (.ifCond .eq 22, 3) := by decide +kernel
theorem dX0_violations_40 : decode cX0_violations 40 = .ok (.iload_n 2, 1) := by decide +kernel
theorem dX0_violations_41 : decode cX0_violations 41 = .ok (.aload_n 0, 1) := by decide +kernel
theorem dX0_violations_42 : decode cX0_violations 42 = .ok (.getfield 16, 3) := by decide +kernel
theorem dX0_violations_45 : decode cX0_violations 45 = .ok (.iload_n 3, 1) := by decide +kernel
theorem dX0_violations_46 : decode cX0_violations 46 = .ok (.iaload, 1) := by decide +kernel
theorem dX0_violations_47 : decode cX0_violations 47 = .ok (.aload_n 0, 1) := by decide +kernel
theorem dX0_violations_48 : decode cX0_violations 48 = .ok (.getfield 9, 3) := by decide +kernel
theorem dX0_violations_51 : decode cX0_violations 51 = .ok (.iload_n 1, 1) := by decide +kernel
theorem dX0_violations_52 : decode cX0_violations 52 = .ok (.iaload, 1) := by decide +kernel
theorem dX0_violations_53 : decode cX0_violations 53 = .ok (.iand, 1) := by decide +kernel
theorem dX0_violations_54 : decode cX0_violations 54 = .ok (.invokestatic 92, 3) := by decide +kernel
theorem dX0_violations_57 : decode cX0_violations 57 = .ok (.iadd, 1) := by decide +kernel
theorem dX0_violations_58 : decode cX0_violations 58 = .ok (.istore_n 2, 1) := by decide +kernel
theorem dX0_violations_59 : decode cX0_violations 59 = .ok (.iinc 3 1, 3) := by decide +kernel
theorem dX0_violations_62 : decode cX0_violations 62 = .ok (.goto (-41), 3) := by decide +kernel
theorem dX0_violations_65 : decode cX0_violations 65 = .ok (.iload_n 2, 1) := by decide +kernel
theorem dX0_violations_66 : decode cX0_violations 66 = .ok (.iconst 2, 1) := by decide +kernel
theorem dX0_violations_67 : decode cX0_violations 67 = .ok (.idiv, 1) := by decide +kernel
theorem dX0_violations_68 : decode cX0_violations 68 = .ok (.ireturn, 1) := by decide +kernel
theorem dX0_quarter_0 : decode cX0_quarter 0 = .ok (.aload_n 0, 1) := by decide +kernel
theorem dX0_quarter_1 : decode cX0_quarter 1 = .ok (.getfield 32, 3) := by decide +kernel
theorem dX0_quarter_4 : decode cX0_quarter 4 = .ok (.ireturn, 1) := by decide +kernel
set_option maxRecDepth 20000 in
theorem ggX0_due_X0_isUser : GoodIn wsX0_due wsX0_isUser := goodIn_r _ [7] (by decide +kernel) (by decide +kernel)
set_option maxRecDepth 20000 in
theorem gX0_due_X0_isUser : GoodIn wsX0_due (va_wsS RX0 60 yX0_isUser wsX0_isUser) := goodIn_app (goodIn_of _ (by decide +kernel)) ggX0_due_X0_isUser
set_option maxRecDepth 20000 in
theorem ggX0_due_X0_lapsingIn : GoodIn wsX0_due wsX0_lapsingIn := goodIn_r _ [11, 12, 13, 14, 15, 16, 6, 17, 18, 19, 20, 21, 22, 23, 24, 25, 26, 27, 28, 29, 30, 31, 32, 33, 34, 35, 36] (by decide +kernel) (by decide +kernel)
set_option maxRecDepth 20000 in
theorem gX0_due_X0_lapsingIn : GoodIn wsX0_due (wsV RX0 118 RX0 yX0_lapsingIn wsX0_lapsingIn) := goodIn_app (goodIn_of _ (by decide +kernel)) ggX0_due_X0_lapsingIn
theorem dX0_due_0 : decode cX0_due 0 = .ok (.iload_n 1, 1) := by decide +kernel
theorem dX0_due_1 : decode cX0_due 1 = .ok (.invokestatic 60, 3) := by decide +kernel
theorem dX0_due_4 : decode cX0_due 4 = .ok (.ifCond .ne 13, 3) := by decide +kernel
theorem dX0_due_7 : decode cX0_due 7 = .ok (.new 67, 3) := by decide +kernel
theorem dX0_due_10 : decode cX0_due 10 = .ok (.dup, 1) := by decide +kernel
theorem dX0_due_11 : decode cX0_due 11 = .ok (.ldc 82, 2) := by decide +kernel
theorem dX0_due_13 : decode cX0_due 13 = .ok (.invokespecial 71, 3) := by decide +kernel
theorem dX0_due_16 : decode cX0_due 16 = .ok (.athrow, 1) := by decide +kernel
theorem dX0_due_17 : decode cX0_due 17 = .ok (.aload_n 0, 1) := by decide +kernel
theorem dX0_due_18 : decode cX0_due 18 = .ok (.aload_n 0, 1) := by decide +kernel
theorem dX0_due_19 : decode cX0_due 19 = .ok (.getfield 32, 3) := by decide +kernel
theorem dX0_due_22 : decode cX0_due 22 = .ok (.iconst 1, 1) := by decide +kernel
theorem dX0_due_23 : decode cX0_due 23 = .ok (.iadd, 1) := by decide +kernel
theorem dX0_due_24 : decode cX0_due 24 = .ok (.iload_n 1, 1) := by decide +kernel
theorem dX0_due_25 : decode cX0_due 25 = .ok (.invokevirtual 118, 3) := by decide +kernel
theorem dX0_due_28 : decode cX0_due 28 = .ok (.ireturn, 1) := by decide +kernel
set_option maxRecDepth 20000 in
theorem ggX0_candidates_X0_findCandidates : GoodIn wsX0_candidates wsX0_findCandidates := goodIn_r _ [6, 1, 7, 8, 9, 10, 11, 5, 12, 13, 14, 15, 16, 17, 18, 19, 20, 21, 22, 23, 24, 25, 26, 27, 28, 29, 30, 31, 32, 33, 34, 35, 36, 37, 38, 39, 40, 41, 42, 43, 44, 45, 46, 47, 48, 49, 50, 51, 52, 53, 54, 55, 56, 57, 58, 59, 60, 61, 62, 63, 64, 65, 66, 67, 68, 69, 70, 71, 72, 73] (by decide +kernel) (by decide +kernel)
set_option maxRecDepth 20000 in
theorem gX0_candidates_X0_findCandidates : GoodIn wsX0_candidates (wsV RX0 121 RX0 yX0_findCandidates wsX0_findCandidates) := goodIn_app (goodIn_of _ (by decide +kernel)) ggX0_candidates_X0_findCandidates
theorem dX0_candidates_0 : decode cX0_candidates 0 = .ok (.aload_n 0, 1) := by decide +kernel
theorem dX0_candidates_1 : decode cX0_candidates 1 = .ok (.invokevirtual 121, 3) := by decide +kernel
theorem dX0_candidates_4 : decode cX0_candidates 4 = .ok (.aload_n 0, 1) := by decide +kernel
theorem dX0_candidates_5 : decode cX0_candidates 5 = .ok (.getfield 44, 3) := by decide +kernel
theorem dX0_candidates_8 : decode cX0_candidates 8 = .ok (.ireturn, 1) := by decide +kernel
set_option maxRecDepth 20000 in
theorem ggX0_candidate_X0_findCandidates : GoodIn wsX0_candidate wsX0_findCandidates := goodIn_r _ [9, 3, 10, 4, 11, 12, 13, 8, 14, 15, 16, 17, 18, 19, 20, 21, 22, 23, 24, 25, 26, 27, 28, 29, 30, 31, 32, 33, 34, 35, 36, 37, 38, 39, 40, 41, 42, 43, 44, 45, 46, 47, 48, 49, 50, 51, 52, 53, 54, 55, 56, 57, 58, 59, 60, 61, 62, 63, 64, 65, 66, 67, 68, 69, 70, 71, 72, 73, 74, 75] (by decide +kernel) (by decide +kernel)
set_option maxRecDepth 20000 in
theorem gX0_candidate_X0_findCandidates : GoodIn wsX0_candidate (wsV RX0 121 RX0 yX0_findCandidates wsX0_findCandidates) := goodIn_app (goodIn_of _ (by decide +kernel)) ggX0_candidate_X0_findCandidates
theorem dX0_candidate_0 : decode cX0_candidate 0 = .ok (.aload_n 0, 1) := by decide +kernel
theorem dX0_candidate_1 : decode cX0_candidate 1 = .ok (.invokevirtual 121, 3) := by decide +kernel
theorem dX0_candidate_4 : decode cX0_candidate 4 = .ok (.iload_n 1, 1) := by decide +kernel
theorem dX0_candidate_5 : decode cX0_candidate 5 = .ok (.ifCond .lt 11, 3) := by decide +kernel
theorem dX0_candidate_8 : decode cX0_candidate 8 = .ok (.iload_n 1, 1) := by decide +kernel
theorem dX0_candidate_9 : decode cX0_candidate 9 = .ok (.aload_n 0, 1) := by decide +kernel
theorem dX0_candidate_10 : decode cX0_candidate 10 = .ok (.getfield 44, 3) := by decide +kernel
theorem dX0_candidate_13 : decode cX0_candidate 13 = .ok (.if_icmp .lt 13, 3) := by decide +kernel
theorem dX0_candidate_16 : decode cX0_candidate 16 = .ok (.new 67, 3) := by decide +kernel
theorem dX0_candidate_19 : decode cX0_candidate 19 = .ok (.dup, 1) := by decide +kernel
theorem dX0_candidate_20 : decode cX0_candidate 20 = .ok (.ldc 147, 2) := by decide +kernel
theorem dX0_candidate_22 : decode cX0_candidate 22 = .ok (.invokespecial 71, 3) := by decide +kernel
theorem dX0_candidate_25 : decode cX0_candidate 25 = .ok (.athrow, 1) := by decide +kernel
theorem dX0_candidate_26 : decode cX0_candidate 26 = .ok (.aload_n 0, 1) := by decide +kernel
theorem dX0_candidate_27 : decode cX0_candidate 27 = .ok (.getfield 41, 3) := by decide +kernel
theorem dX0_candidate_30 : decode cX0_candidate 30 = .ok (.iload_n 1, 1) := by decide +kernel
theorem dX0_candidate_31 : decode cX0_candidate 31 = .ok (.iaload, 1) := by decide +kernel
theorem dX0_candidate_32 : decode cX0_candidate 32 = .ok (.ireturn, 1) := by decide +kernel
set_option maxRecDepth 20000 in
theorem ggX0_holders_X0_isPermissionSet : GoodIn wsX0_holders wsX0_isPermissionSet := goodIn_r _ [6] (by decide +kernel) (by decide +kernel)
set_option maxRecDepth 20000 in
theorem gX0_holders_X0_isPermissionSet : GoodIn wsX0_holders (va_wsS RX0 84 yX0_isPermissionSet wsX0_isPermissionSet) := goodIn_app (goodIn_of _ (by decide +kernel)) ggX0_holders_X0_isPermissionSet
set_option maxRecDepth 20000 in
theorem ggX0_holders_X0_holdersOf : GoodIn wsX0_holders wsX0_holdersOf := goodIn_r _ [10, 11, 12, 13, 5, 14, 15, 16, 17, 18, 19, 20, 21, 22, 23, 24, 25, 26, 27, 28, 29, 30, 31] (by decide +kernel) (by decide +kernel)
set_option maxRecDepth 20000 in
theorem gX0_holders_X0_holdersOf : GoodIn wsX0_holders (wsV RX0 149 RX0 yX0_holdersOf wsX0_holdersOf) := goodIn_app (goodIn_of _ (by decide +kernel)) ggX0_holders_X0_holdersOf
theorem dX0_holders_0 : decode cX0_holders 0 = .ok (.iload_n 1, 1) := by decide +kernel
theorem dX0_holders_1 : decode cX0_holders 1 = .ok (.invokestatic 84, 3) := by decide +kernel
theorem dX0_holders_4 : decode cX0_holders 4 = .ok (.ifCond .ne 13, 3) := by decide +kernel
theorem dX0_holders_7 : decode cX0_holders 7 = .ok (.new 87, 3) := by decide +kernel
theorem dX0_holders_10 : decode cX0_holders 10 = .ok (.dup, 1) := by decide +kernel
theorem dX0_holders_11 : decode cX0_holders 11 = .ok (.ldc 89, 2) := by decide +kernel
theorem dX0_holders_13 : decode cX0_holders 13 = .ok (.invokespecial 91, 3) := by decide +kernel
theorem dX0_holders_16 : decode cX0_holders 16 = .ok (.athrow, 1) := by decide +kernel
theorem dX0_holders_17 : decode cX0_holders 17 = .ok (.aload_n 0, 1) := by decide +kernel
theorem dX0_holders_18 : decode cX0_holders 18 = .ok (.iload_n 1, 1) := by decide +kernel
theorem dX0_holders_19 : decode cX0_holders 19 = .ok (.invokevirtual 149, 3) := by decide +kernel
theorem dX0_holders_22 : decode cX0_holders 22 = .ok (.ireturn, 1) := by decide +kernel
set_option maxRecDepth 20000 in
theorem ggX0_costOf_X0_findCandidates : GoodIn wsX0_costOf wsX0_findCandidates := goodIn_r _ [10, 5, 11, 12, 13, 14, 15, 9, 16, 17, 18, 19, 20, 21, 22, 23, 24, 25, 26, 27, 28, 29, 30, 31, 32, 33, 34, 35, 36, 37, 38, 39, 40, 41, 42, 43, 44, 45, 46, 47, 48, 49, 50, 51, 52, 53, 54, 55, 56, 57, 58, 59, 60, 61, 80, 81, 82, 83, 84, 85, 86, 87, 88, 89, 90, 91, 92, 93, 94, 95] (by decide +kernel) (by decide +kernel)
set_option maxRecDepth 20000 in
theorem gX0_costOf_X0_findCandidates : GoodIn wsX0_costOf (wsV RX0 121 RX0 yX0_findCandidates wsX0_findCandidates) := goodIn_app (goodIn_of _ (by decide +kernel)) ggX0_costOf_X0_findCandidates
set_option maxRecDepth 20000 in
theorem ggX0_costOf_X0_costOfChoice : GoodIn wsX0_costOf wsX0_costOfChoice := goodIn_r _ [65, 60, 61, 5, 48, 66, 49, 18, 19, 9, 20, 29, 30, 31, 32, 33, 34, 35, 67, 68, 69, 70, 71, 72, 73, 74, 75, 76, 77, 78, 79, 80, 81, 82, 83, 84, 85, 86, 87, 88, 89, 90, 91, 92, 93, 94, 95] (by decide +kernel) (by decide +kernel)
set_option maxRecDepth 20000 in
theorem gX0_costOf_X0_costOfChoice : GoodIn wsX0_costOf (wsV RX0 144 RX0 yX0_costOfChoice wsX0_costOfChoice) := goodIn_app (goodIn_of _ (by decide +kernel)) ggX0_costOf_X0_costOfChoice
theorem dX0_costOf_0 : decode cX0_costOf 0 = .ok (.aload_n 0, 1) := by decide +kernel
theorem dX0_costOf_1 : decode cX0_costOf 1 = .ok (.invokevirtual 121, 3) := by decide +kernel
theorem dX0_costOf_4 : decode cX0_costOf 4 = .ok (.aload_n 0, 1) := by decide +kernel
theorem dX0_costOf_5 : decode cX0_costOf 5 = .ok (.getfield 44, 3) := by decide +kernel
theorem dX0_costOf_8 : decode cX0_costOf 8 = .ok (.bipush 14, 2) := by decide +kernel
theorem dX0_costOf_10 : decode cX0_costOf 10 = .ok (.if_icmp .le 13, 3) := by decide +kernel
theorem dX0_costOf_13 : decode cX0_costOf 13 = .ok (.new 111, 3) := by decide +kernel
theorem dX0_costOf_16 : decode cX0_costOf 16 = .ok (.dup, 1) := by decide +kernel
theorem dX0_costOf_17 : decode cX0_costOf 17 = .ok (.ldc 138, 2) := by decide +kernel
theorem dX0_costOf_19 : decode cX0_costOf 19 = .ok (.invokespecial 115, 3) := by decide +kernel
theorem dX0_costOf_22 : decode cX0_costOf 22 = .ok (.athrow, 1) := by decide +kernel
theorem dX0_costOf_23 : decode cX0_costOf 23 = .ok (.iload_n 1, 1) := by decide +kernel
theorem dX0_costOf_24 : decode cX0_costOf 24 = .ok (.ifCond .lt 13, 3) := by decide +kernel
theorem dX0_costOf_27 : decode cX0_costOf 27 = .ok (.iload_n 1, 1) := by decide +kernel
theorem dX0_costOf_28 : decode cX0_costOf 28 = .ok (.iconst 1, 1) := by decide +kernel
theorem dX0_costOf_29 : decode cX0_costOf 29 = .ok (.aload_n 0, 1) := by decide +kernel
theorem dX0_costOf_30 : decode cX0_costOf 30 = .ok (.getfield 44, 3) := by decide +kernel
theorem dX0_costOf_33 : decode cX0_costOf 33 = .ok (.ishl, 1) := by decide +kernel
theorem dX0_costOf_34 : decode cX0_costOf 34 = .ok (.if_icmp .lt 13, 3) := by decide +kernel
theorem dX0_costOf_37 : decode cX0_costOf 37 = .ok (.new 87, 3) := by decide +kernel
theorem dX0_costOf_40 : decode cX0_costOf 40 = .ok (.dup, 1) := by decide +kernel
theorem dX0_costOf_41 : decode cX0_costOf 41 = .ok (.ldc 152, 2) := by decide +kernel
theorem dX0_costOf_43 : decode cX0_costOf 43 = .ok (.invokespecial 91, 3) := by decide +kernel
theorem dX0_costOf_46 : decode cX0_costOf 46 = .ok (.athrow, 1) := by decide +kernel
theorem dX0_costOf_47 : decode cX0_costOf 47 = .ok (.aload_n 0, 1) := by decide +kernel
theorem dX0_costOf_48 : decode cX0_costOf 48 = .ok (.iload_n 1, 1) := by decide +kernel
theorem dX0_costOf_49 : decode cX0_costOf 49 = .ok (.invokevirtual 144, 3) := by decide +kernel
theorem dX0_costOf_52 : decode cX0_costOf 52 = .ok (.ireturn, 1) := by decide +kernel
set_option maxRecDepth 20000 in
theorem ggX0_leastCost_X0_findCandidates : GoodIn wsX0_leastCost wsX0_findCandidates := goodIn_r _ [8, 3, 9, 10, 11, 12, 13, 7, 14, 15, 16, 17, 18, 19, 20, 21, 22, 23, 24, 25, 26, 27, 28, 29, 30, 31, 32, 33, 34, 35, 36, 37, 38, 39, 40, 41, 42, 43, 44, 45, 46, 47, 48, 49, 50, 51, 52, 53, 54, 55, 56, 57, 58, 59, 96, 97, 98, 99, 100, 101, 102, 103, 104, 105, 106, 107, 108, 109, 110, 111] (by decide +kernel) (by decide +kernel)
set_option maxRecDepth 20000 in
theorem gX0_leastCost_X0_findCandidates : GoodIn wsX0_leastCost (wsV RX0 121 RX0 yX0_findCandidates wsX0_findCandidates) := goodIn_app (goodIn_of _ (by decide +kernel)) ggX0_leastCost_X0_findCandidates
set_option maxRecDepth 20000 in
theorem ggX0_leastCost_X0_bestChoice : GoodIn wsX0_leastCost wsX0_bestChoice := goodIn_r _ [63, 3, 64, 65, 66, 67, 58, 46, 68, 59, 47, 69, 70, 71, 7, 72, 16, 17, 18, 27, 28, 29, 30, 31, 32, 33, 73, 74, 75, 76, 77, 78, 79, 80, 81, 82, 83, 84, 85, 86, 87, 88, 89, 90, 91, 92, 93, 94, 95, 96, 97, 98, 99, 100, 101, 102, 103, 104, 105, 106, 107, 108, 109, 110, 111] (by decide +kernel) (by decide +kernel)
set_option maxRecDepth 20000 in
theorem gX0_leastCost_X0_bestChoice : GoodIn wsX0_leastCost (wsV RX0 140 RX0 yX0_bestChoice wsX0_bestChoice) := goodIn_app (goodIn_of _ (by decide +kernel)) ggX0_leastCost_X0_bestChoice
set_option maxRecDepth 20000 in
theorem ggX0_leastCost_X0_costOfChoice : GoodIn wsX0_leastCost wsX0_costOfChoice := goodIn_r _ [72, 58, 59, 3, 46, 68, 47, 16, 17, 7, 18, 27, 28, 29, 30, 31, 32, 33, 73, 74, 75, 76, 77, 78, 79, 80, 81, 82, 83, 84, 85, 96, 97, 98, 99, 100, 101, 102, 103, 104, 105, 106, 107, 108, 109, 110, 111] (by decide +kernel) (by decide +kernel)
set_option maxRecDepth 20000 in
theorem gX0_leastCost_X0_costOfChoice : GoodIn wsX0_leastCost (wsV RX0 144 RX0 yX0_costOfChoice wsX0_costOfChoice) := goodIn_app (goodIn_of _ (by decide +kernel)) ggX0_leastCost_X0_costOfChoice
theorem dX0_leastCost_0 : decode cX0_leastCost 0 = .ok (.aload_n 0, 1) := by decide +kernel
theorem dX0_leastCost_1 : decode cX0_leastCost 1 = .ok (.invokevirtual 121, 3) := by decide +kernel
theorem dX0_leastCost_4 : decode cX0_leastCost 4 = .ok (.aload_n 0, 1) := by decide +kernel
theorem dX0_leastCost_5 : decode cX0_leastCost 5 = .ok (.getfield 44, 3) := by decide +kernel
theorem dX0_leastCost_8 : decode cX0_leastCost 8 = .ok (.bipush 14, 2) := by decide +kernel
theorem dX0_leastCost_10 : decode cX0_leastCost 10 = .ok (.if_icmp .le 13, 3) := by decide +kernel
theorem dX0_leastCost_13 : decode cX0_leastCost 13 = .ok (.new 111, 3) := by decide +kernel
theorem dX0_leastCost_16 : decode cX0_leastCost 16 = .ok (.dup, 1) := by decide +kernel
theorem dX0_leastCost_17 : decode cX0_leastCost 17 = .ok (.ldc 138, 2) := by decide +kernel
theorem dX0_leastCost_19 : decode cX0_leastCost 19 = .ok (.invokespecial 115, 3) := by decide +kernel
theorem dX0_leastCost_22 : decode cX0_leastCost 22 = .ok (.athrow, 1) := by decide +kernel
theorem dX0_leastCost_23 : decode cX0_leastCost 23 = .ok (.aload_n 0, 1) := by decide +kernel
theorem dX0_leastCost_24 : decode cX0_leastCost 24 = .ok (.aload_n 0, 1) := by decide +kernel
theorem dX0_leastCost_25 : decode cX0_leastCost 25 = .ok (.invokevirtual 140, 3) := by decide +kernel
theorem dX0_leastCost_28 : decode cX0_leastCost 28 = .ok (.invokevirtual 144, 3) := by decide +kernel
theorem dX0_leastCost_31 : decode cX0_leastCost 31 = .ok (.ireturn, 1) := by decide +kernel
theorem dX0_roles_0 : decode cX0_roles 0 = .ok (.aload_n 0, 1) := by decide +kernel
theorem dX0_roles_1 : decode cX0_roles 1 = .ok (.getfield 38, 3) := by decide +kernel
theorem dX0_roles_4 : decode cX0_roles 4 = .ok (.ireturn, 1) := by decide +kernel
theorem dX0_role_0 : decode cX0_role 0 = .ok (.iload_n 1, 1) := by decide +kernel
theorem dX0_role_1 : decode cX0_role 1 = .ok (.ifCond .lt 11, 3) := by decide +kernel
theorem dX0_role_4 : decode cX0_role 4 = .ok (.iload_n 1, 1) := by decide +kernel
theorem dX0_role_5 : decode cX0_role 5 = .ok (.aload_n 0, 1) := by decide +kernel
theorem dX0_role_6 : decode cX0_role 6 = .ok (.getfield 38, 3) := by decide +kernel
theorem dX0_role_9 : decode cX0_role 9 = .ok (.if_icmp .lt 13, 3) := by decide +kernel
theorem dX0_role_12 : decode cX0_role 12 = .ok (.new 67, 3) := by decide +kernel
theorem dX0_role_15 : decode cX0_role 15 = .ok (.dup, 1) := by decide +kernel
theorem dX0_role_16 : decode cX0_role 16 = .ok (.ldc 154, 2) := by decide +kernel
theorem dX0_role_18 : decode cX0_role 18 = .ok (.invokespecial 71, 3) := by decide +kernel
theorem dX0_role_21 : decode cX0_role 21 = .ok (.athrow, 1) := by decide +kernel
theorem dX0_role_22 : decode cX0_role 22 = .ok (.aload_n 0, 1) := by decide +kernel
theorem dX0_role_23 : decode cX0_role 23 = .ok (.getfield 35, 3) := by decide +kernel
theorem dX0_role_26 : decode cX0_role 26 = .ok (.iload_n 1, 1) := by decide +kernel
theorem dX0_role_27 : decode cX0_role 27 = .ok (.iaload, 1) := by decide +kernel
theorem dX0_role_28 : decode cX0_role 28 = .ok (.ireturn, 1) := by decide +kernel
set_option maxRecDepth 20000 in
theorem ggX0_rolesOf_X0_isUser : GoodIn wsX0_rolesOf wsX0_isUser := goodIn_r _ [8] (by decide +kernel) (by decide +kernel)
set_option maxRecDepth 20000 in
theorem gX0_rolesOf_X0_isUser : GoodIn wsX0_rolesOf (va_wsS RX0 60 yX0_isUser wsX0_isUser) := goodIn_app (goodIn_of _ (by decide +kernel)) ggX0_rolesOf_X0_isUser
set_option maxRecDepth 20000 in
theorem ggX0_rolesOf_X0_holds : GoodIn wsX0_rolesOf wsX0_holds := goodIn_r _ [12, 13, 14, 15, 16, 17, 18, 19, 20, 21, 22, 23, 24, 25, 26, 27, 28, 29] (by decide +kernel) (by decide +kernel)
set_option maxRecDepth 20000 in
theorem gX0_rolesOf_X0_holds : GoodIn wsX0_rolesOf (wsV RX0 156 RX0 yX0_holds wsX0_holds) := goodIn_app (goodIn_of _ (by decide +kernel)) ggX0_rolesOf_X0_holds
theorem dX0_rolesOf_0 : decode cX0_rolesOf 0 = .ok (.iload_n 1, 1) := by decide +kernel
theorem dX0_rolesOf_1 : decode cX0_rolesOf 1 = .ok (.invokestatic 60, 3) := by decide +kernel
theorem dX0_rolesOf_4 : decode cX0_rolesOf 4 = .ok (.ifCond .ne 13, 3) := by decide +kernel
theorem dX0_rolesOf_7 : decode cX0_rolesOf 7 = .ok (.new 67, 3) := by decide +kernel
theorem dX0_rolesOf_10 : decode cX0_rolesOf 10 = .ok (.dup, 1) := by decide +kernel
theorem dX0_rolesOf_11 : decode cX0_rolesOf 11 = .ok (.ldc 82, 2) := by decide +kernel
theorem dX0_rolesOf_13 : decode cX0_rolesOf 13 = .ok (.invokespecial 71, 3) := by decide +kernel
theorem dX0_rolesOf_16 : decode cX0_rolesOf 16 = .ok (.athrow, 1) := by decide +kernel
theorem dX0_rolesOf_17 : decode cX0_rolesOf 17 = .ok (.iconst 0, 1) := by decide +kernel
theorem dX0_rolesOf_18 : decode cX0_rolesOf 18 = .ok (.istore_n 2, 1) := by decide +kernel
theorem dX0_rolesOf_19 : decode cX0_rolesOf 19 = .ok (.iconst 0, 1) := by decide +kernel
theorem dX0_rolesOf_20 : decode cX0_rolesOf 20 = .ok (.istore_n 3, 1) := by decide +kernel
theorem dX0_rolesOf_21 : decode cX0_rolesOf 21 = .ok (.iload_n 3, 1) := by decide +kernel
theorem dX0_rolesOf_22 : decode cX0_rolesOf 22 = .ok (.aload_n 0, 1) := by decide +kernel
theorem dX0_rolesOf_23 : decode cX0_rolesOf 23 = .ok (.getfield 38, 3) := by decide +kernel
theorem dX0_rolesOf_26 : decode cX0_rolesOf 26 = .ok (.if_icmp .ge 26, 3) := by decide +kernel
theorem dX0_rolesOf_29 : decode cX0_rolesOf 29 = .ok (.aload_n 0, 1) := by decide +kernel
theorem dX0_rolesOf_30 : decode cX0_rolesOf 30 = .ok (.iload_n 1, 1) := by decide +kernel
theorem dX0_rolesOf_31 : decode cX0_rolesOf 31 = .ok (.aload_n 0, 1) := by decide +kernel
theorem dX0_rolesOf_32 : decode cX0_rolesOf 32 = .ok (.getfield 35, 3) := by decide +kernel
theorem dX0_rolesOf_35 : decode cX0_rolesOf 35 = .ok (.iload_n 3, 1) := by decide +kernel
theorem dX0_rolesOf_36 : decode cX0_rolesOf 36 = .ok (.iaload, 1) := by decide +kernel
theorem dX0_rolesOf_37 : decode cX0_rolesOf 37 = .ok (.invokevirtual 156, 3) := by decide +kernel
theorem dX0_rolesOf_40 : decode cX0_rolesOf 40 = .ok (.ifCond .eq 6, 3) := by decide +kernel
theorem dX0_rolesOf_43 : decode cX0_rolesOf 43 = .ok (.iinc 2 1, 3) := by decide +kernel
theorem dX0_rolesOf_46 : decode cX0_rolesOf 46 = .ok (.iinc 3 1, 3) := by decide +kernel
theorem dX0_rolesOf_49 : decode cX0_rolesOf 49 = .ok (.goto (-28), 3) := by decide +kernel
theorem dX0_rolesOf_52 : decode cX0_rolesOf 52 = .ok (.iload_n 2, 1) := by decide +kernel
theorem dX0_rolesOf_53 : decode cX0_rolesOf 53 = .ok (.ireturn, 1) := by decide +kernel
set_option maxRecDepth 20000 in
theorem ggX0_byRoles_X0_isUser : GoodIn wsX0_byRoles wsX0_isUser := goodIn_r _ [6] (by decide +kernel) (by decide +kernel)
set_option maxRecDepth 20000 in
theorem gX0_byRoles_X0_isUser : GoodIn wsX0_byRoles (va_wsS RX0 60 yX0_isUser wsX0_isUser) := goodIn_app (goodIn_of _ (by decide +kernel)) ggX0_byRoles_X0_isUser
set_option maxRecDepth 20000 in
theorem ggX0_byRoles_X0_joinedRoles : GoodIn wsX0_byRoles wsX0_joinedRoles := goodIn_r _ [10, 11, 12, 13, 14, 15, 5, 16, 17, 18, 19, 20, 21, 22, 23, 24, 25, 26, 27, 28, 29, 30, 31, 32, 33] (by decide +kernel) (by decide +kernel)
set_option maxRecDepth 20000 in
theorem gX0_byRoles_X0_joinedRoles : GoodIn wsX0_byRoles (wsV RX0 159 RX0 yX0_joinedRoles wsX0_joinedRoles) := goodIn_app (goodIn_of _ (by decide +kernel)) ggX0_byRoles_X0_joinedRoles
theorem dX0_byRoles_0 : decode cX0_byRoles 0 = .ok (.iload_n 1, 1) := by decide +kernel
theorem dX0_byRoles_1 : decode cX0_byRoles 1 = .ok (.invokestatic 60, 3) := by decide +kernel
theorem dX0_byRoles_4 : decode cX0_byRoles 4 = .ok (.ifCond .ne 13, 3) := by decide +kernel
theorem dX0_byRoles_7 : decode cX0_byRoles 7 = .ok (.new 67, 3) := by decide +kernel
theorem dX0_byRoles_10 : decode cX0_byRoles 10 = .ok (.dup, 1) := by decide +kernel
theorem dX0_byRoles_11 : decode cX0_byRoles 11 = .ok (.ldc 82, 2) := by decide +kernel
theorem dX0_byRoles_13 : decode cX0_byRoles 13 = .ok (.invokespecial 71, 3) := by decide +kernel
theorem dX0_byRoles_16 : decode cX0_byRoles 16 = .ok (.athrow, 1) := by decide +kernel
theorem dX0_byRoles_17 : decode cX0_byRoles 17 = .ok (.aload_n 0, 1) := by decide +kernel
theorem dX0_byRoles_18 : decode cX0_byRoles 18 = .ok (.iload_n 1, 1) := by decide +kernel
theorem dX0_byRoles_19 : decode cX0_byRoles 19 = .ok (.invokevirtual 159, 3) := by decide +kernel
theorem dX0_byRoles_22 : decode cX0_byRoles 22 = .ok (.ireturn, 1) := by decide +kernel
set_option maxRecDepth 20000 in
theorem ggX0_exceptions_X0_isUser : GoodIn wsX0_exceptions wsX0_isUser := goodIn_r _ [7] (by decide +kernel) (by decide +kernel)
set_option maxRecDepth 20000 in
theorem gX0_exceptions_X0_isUser : GoodIn wsX0_exceptions (va_wsS RX0 60 yX0_isUser wsX0_isUser) := goodIn_app (goodIn_of _ (by decide +kernel)) ggX0_exceptions_X0_isUser
set_option maxRecDepth 20000 in
theorem ggX0_exceptions_X0_joinedRoles : GoodIn wsX0_exceptions wsX0_joinedRoles := goodIn_r _ [11, 12, 13, 14, 15, 16, 6, 17, 3, 18, 19, 20, 21, 22, 23, 24, 25, 26, 27, 28, 29, 30, 31, 32, 33] (by decide +kernel) (by decide +kernel)
set_option maxRecDepth 20000 in
theorem gX0_exceptions_X0_joinedRoles : GoodIn wsX0_exceptions (wsV RX0 159 RX0 yX0_joinedRoles wsX0_joinedRoles) := goodIn_app (goodIn_of _ (by decide +kernel)) ggX0_exceptions_X0_joinedRoles
theorem dX0_exceptions_0 : decode cX0_exceptions 0 = .ok (.iload_n 1, 1) := by decide +kernel
theorem dX0_exceptions_1 : decode cX0_exceptions 1 = .ok (.invokestatic 60, 3) := by decide +kernel
theorem dX0_exceptions_4 : decode cX0_exceptions 4 = .ok (.ifCond .ne 13, 3) := by decide +kernel
theorem dX0_exceptions_7 : decode cX0_exceptions 7 = .ok (.new 67, 3) := by decide +kernel
theorem dX0_exceptions_10 : decode cX0_exceptions 10 = .ok (.dup, 1) := by decide +kernel
theorem dX0_exceptions_11 : decode cX0_exceptions 11 = .ok (.ldc 82, 2) := by decide +kernel
theorem dX0_exceptions_13 : decode cX0_exceptions 13 = .ok (.invokespecial 71, 3) := by decide +kernel
theorem dX0_exceptions_16 : decode cX0_exceptions 16 = .ok (.athrow, 1) := by decide +kernel
theorem dX0_exceptions_17 : decode cX0_exceptions 17 = .ok (.aload_n 0, 1) := by decide +kernel
theorem dX0_exceptions_18 : decode cX0_exceptions 18 = .ok (.getfield 9, 3) := by decide +kernel
theorem dX0_exceptions_21 : decode cX0_exceptions 21 = .ok (.iload_n 1, 1) := by decide +kernel
theorem dX0_exceptions_22 : decode cX0_exceptions 22 = .ok (.iaload, 1) := by decide +kernel
theorem dX0_exceptions_23 : decode cX0_exceptions 23 = .ok (.aload_n 0, 1) := by decide +kernel
theorem dX0_exceptions_24 : decode cX0_exceptions 24 = .ok (.iload_n 1, 1) := by decide +kernel
theorem dX0_exceptions_25 : decode cX0_exceptions 25 = .ok (.invokevirtual 159, 3) := by decide +kernel
theorem dX0_exceptions_28 : decode cX0_exceptions 28 = .ok (.iconst (-1), 1) := by decide +kernel
theorem dX0_exceptions_29 : decode cX0_exceptions 29 = .ok (.ixor, 1) := by decide +kernel
theorem dX0_exceptions_30 : decode cX0_exceptions 30 = .ok (.iand, 1) := by decide +kernel
theorem dX0_exceptions_31 : decode cX0_exceptions 31 = .ok (.ireturn, 1) := by decide +kernel
set_option maxRecDepth 20000 in
theorem ggX0_cost_X0_joinedRoles : GoodIn wsX0_cost wsX0_joinedRoles := goodIn_r _ [9, 3, 10, 11, 12, 13, 8, 14, 1, 22, 23, 24, 25, 26, 27, 28, 29, 30, 31, 32, 33, 34, 35, 36, 37] (by decide +kernel) (by decide +kernel)
set_option maxRecDepth 20000 in
theorem gX0_cost_X0_joinedRoles : GoodIn wsX0_cost (wsV RX0 159 RX0 yX0_joinedRoles wsX0_joinedRoles) := goodIn_app (goodIn_of _ (by decide +kernel)) ggX0_cost_X0_joinedRoles
set_option maxRecDepth 20000 in
theorem ggX0_cost_J6_bitCount_0f7a4 : GoodIn wsX0_cost wsJ6_bitCount_0f7a4 := goodIn_r _ [18, 19, 20, 21] (by decide +kernel) (by decide +kernel)
set_option maxRecDepth 20000 in
theorem gX0_cost_J6_bitCount_0f7a4 : GoodIn wsX0_cost (va_wsS RX0 92 yJ6_bitCount_0f7a4 wsJ6_bitCount_0f7a4) := goodIn_app (goodIn_of _ (by decide +kernel)) ggX0_cost_J6_bitCount_0f7a4
theorem dX0_cost_0 : decode cX0_cost 0 = .ok (.iconst 0, 1) := by decide +kernel
theorem dX0_cost_1 : decode cX0_cost 1 = .ok (.istore_n 1, 1) := by decide +kernel
theorem dX0_cost_2 : decode cX0_cost 2 = .ok (.iconst 0, 1) := by decide +kernel
theorem dX0_cost_3 : decode cX0_cost 3 = .ok (.istore_n 2, 1) := by decide +kernel
theorem dX0_cost_4 : decode cX0_cost 4 = .ok (.iload_n 2, 1) := by decide +kernel
theorem dX0_cost_5 : decode cX0_cost 5 = .ok (.bipush 8, 2) := by decide +kernel
theorem dX0_cost_7 : decode cX0_cost 7 = .ok (.if_icmp .ge 29, 3) := by decide +kernel
theorem dX0_cost_10 : decode cX0_cost 10 = .ok (.iload_n 1, 1) := by decide +kernel
theorem dX0_cost_11 : decode cX0_cost 11 = .ok (.aload_n 0, 1) := by decide +kernel
theorem dX0_cost_12 : decode cX0_cost 12 = .ok (.getfield 9, 3) := by decide +kernel
theorem dX0_cost_15 : decode cX0_cost 15 = .ok (.iload_n 2, 1) := by decide +kernel
theorem dX0_cost_16 : decode cX0_cost 16 = .ok (.iaload, 1) := by decide +kernel
theorem dX0_cost_17 : decode cX0_cost 17 = .ok (.aload_n 0, 1) := by decide +kernel
theorem dX0_cost_18 : decode cX0_cost 18 = .ok (.iload_n 2, 1) := by decide +kernel
theorem dX0_cost_19 : decode cX0_cost 19 = .ok (.invokevirtual 159, 3) := by decide +kernel
theorem dX0_cost_22 : decode cX0_cost 22 = .ok (.iconst (-1), 1) := by decide +kernel
theorem dX0_cost_23 : decode cX0_cost 23 = .ok (.ixor, 1) := by decide +kernel
theorem dX0_cost_24 : decode cX0_cost 24 = .ok (.iand, 1) := by decide +kernel
theorem dX0_cost_25 : decode cX0_cost 25 = .ok (.invokestatic 92, 3) := by decide +kernel
theorem dX0_cost_28 : decode cX0_cost 28 = .ok (.iadd, 1) := by decide +kernel
theorem dX0_cost_29 : decode cX0_cost 29 = .ok (.istore_n 1, 1) := by decide +kernel
theorem dX0_cost_30 : decode cX0_cost 30 = .ok (.iinc 2 1, 3) := by decide +kernel
theorem dX0_cost_33 : decode cX0_cost 33 = .ok (.goto (-29), 3) := by decide +kernel
theorem dX0_cost_36 : decode cX0_cost 36 = .ok (.aload_n 0, 1) := by decide +kernel
theorem dX0_cost_37 : decode cX0_cost 37 = .ok (.getfield 19, 3) := by decide +kernel
theorem dX0_cost_40 : decode cX0_cost 40 = .ok (.aload_n 0, 1) := by decide +kernel
theorem dX0_cost_41 : decode cX0_cost 41 = .ok (.getfield 38, 3) := by decide +kernel
theorem dX0_cost_44 : decode cX0_cost 44 = .ok (.imul, 1) := by decide +kernel
theorem dX0_cost_45 : decode cX0_cost 45 = .ok (.aload_n 0, 1) := by decide +kernel
theorem dX0_cost_46 : decode cX0_cost 46 = .ok (.getfield 23, 3) := by decide +kernel
theorem dX0_cost_49 : decode cX0_cost 49 = .ok (.iload_n 1, 1) := by decide +kernel
theorem dX0_cost_50 : decode cX0_cost 50 = .ok (.imul, 1) := by decide +kernel
theorem dX0_cost_51 : decode cX0_cost 51 = .ok (.iadd, 1) := by decide +kernel
theorem dX0_cost_52 : decode cX0_cost 52 = .ok (.ireturn, 1) := by decide +kernel
set_option maxRecDepth 20000 in
theorem ggX0_isRisky_X0_isProper : GoodIn wsX0_isRisky wsX0_isProper := goodIn_r _ [9, 10, 11, 12, 8, 13, 23, 24, 25, 26, 27, 28, 29, 30, 31, 32, 33, 34, 35, 36, 37, 38] (by decide +kernel) (by decide +kernel)
set_option maxRecDepth 20000 in
theorem gX0_isRisky_X0_isProper : GoodIn wsX0_isRisky (wsV RX0 162 RX0 yX0_isProper wsX0_isProper) := goodIn_app (goodIn_of _ (by decide +kernel)) ggX0_isRisky_X0_isProper
set_option maxRecDepth 20000 in
theorem ggX0_isRisky_X0_holdersOf : GoodIn wsX0_isRisky wsX0_holdersOf := goodIn_r _ [17, 18, 19, 20, 8, 21, 22, 23, 24, 25, 26, 27, 28, 29, 30, 31, 32, 33, 34, 35, 36, 37, 38] (by decide +kernel) (by decide +kernel)
set_option maxRecDepth 20000 in
theorem gX0_isRisky_X0_holdersOf : GoodIn wsX0_isRisky (wsV RX0 149 RX0 yX0_holdersOf wsX0_holdersOf) := goodIn_app (goodIn_of _ (by decide +kernel)) ggX0_isRisky_X0_holdersOf
theorem dX0_isRisky_0 : decode cX0_isRisky 0 = .ok (.iload_n 1, 1) := by decide +kernel
theorem dX0_isRisky_1 : decode cX0_isRisky 1 = .ok (.ifCond .lt 11, 3) := by decide +kernel
theorem dX0_isRisky_4 : decode cX0_isRisky 4 = .ok (.iload_n 1, 1) := by decide +kernel
theorem dX0_isRisky_5 : decode cX0_isRisky 5 = .ok (.aload_n 0, 1) := by decide +kernel
theorem dX0_isRisky_6 : decode cX0_isRisky 6 = .ok (.getfield 38, 3) := by decide +kernel
theorem dX0_isRisky_9 : decode cX0_isRisky 9 = .ok (.if_icmp .lt 13, 3) := by decide +kernel
theorem dX0_isRisky_12 : decode cX0_isRisky 12 = .ok (.new 67, 3) := by decide +kernel
theorem dX0_isRisky_15 : decode cX0_isRisky 15 = .ok (.dup, 1) := by decide +kernel
theorem dX0_isRisky_16 : decode cX0_isRisky 16 = .ok (.ldc 154, 2) := by decide +kernel
theorem dX0_isRisky_18 : decode cX0_isRisky 18 = .ok (.invokespecial 71, 3) := by decide +kernel
theorem dX0_isRisky_21 : decode cX0_isRisky 21 = .ok (.athrow, 1) := by decide +kernel
theorem dX0_isRisky_22 : decode cX0_isRisky 22 = .ok (.iconst 0, 1) := by decide +kernel
theorem dX0_isRisky_23 : decode cX0_isRisky 23 = .ok (.istore_n 2, 1) := by decide +kernel
theorem dX0_isRisky_24 : decode cX0_isRisky 24 = .ok (.iload_n 2, 1) := by decide +kernel
theorem dX0_isRisky_25 : decode cX0_isRisky 25 = .ok (.aload_n 0, 1) := by decide +kernel
theorem dX0_isRisky_26 : decode cX0_isRisky 26 = .ok (.getfield 38, 3) := by decide +kernel
theorem dX0_isRisky_29 : decode cX0_isRisky 29 = .ok (.if_icmp .ge 46, 3) := by decide +kernel
theorem dX0_isRisky_32 : decode cX0_isRisky 32 = .ok (.aload_n 0, 1) := by decide +kernel
theorem dX0_isRisky_33 : decode cX0_isRisky 33 = .ok (.getfield 35, 3) := by decide +kernel
theorem dX0_isRisky_36 : decode cX0_isRisky 36 = .ok (.iload_n 1, 1) := by decide +kernel
theorem dX0_isRisky_37 : decode cX0_isRisky 37 = .ok (.iaload, 1) := by decide +kernel
theorem dX0_isRisky_38 : decode cX0_isRisky 38 = .ok (.aload_n 0, 1) := by decide +kernel
theorem dX0_isRisky_39 : decode cX0_isRisky 39 = .ok (.getfield 35, 3) := by decide +kernel
theorem dX0_isRisky_42 : decode cX0_isRisky 42 = .ok (.iload_n 2, 1) := by decide +kernel
theorem dX0_isRisky_43 : decode cX0_isRisky 43 = .ok (.iaload, 1) := by decide +kernel
theorem dX0_isRisky_44 : decode cX0_isRisky 44 = .ok (.ior, 1) := by decide +kernel
theorem dX0_isRisky_45 : decode cX0_isRisky 45 = .ok (.istore_n 3, 1) := by decide +kernel
theorem dX0_isRisky_46 : decode cX0_isRisky 46 = .ok (.iload_n 2, 1) := by decide +kernel
theorem dX0_isRisky_47 : decode cX0_isRisky 47 = .ok (.iload_n 1, 1) := by decide +kernel
theorem dX0_isRisky_48 : decode cX0_isRisky 48 = .ok (.if_icmp .eq 21, 3) := by decide +kernel
theorem dX0_isRisky_51 : decode cX0_isRisky 51 = .ok (.aload_n 0, 1) := by decide +kernel
theorem dX0_isRisky_52 : decode cX0_isRisky 52 = .ok (.iload_n 3, 1) := by decide +kernel
theorem dX0_isRisky_53 : decode cX0_isRisky 53 = .ok (.invokevirtual 162, 3) := by decide +kernel
theorem dX0_isRisky_56 : decode cX0_isRisky 56 = .ok (.ifCond .ne 13, 3) := by decide +kernel
theorem dX0_isRisky_59 : decode cX0_isRisky 59 = .ok (.aload_n 0, 1) := by decide +kernel
theorem dX0_isRisky_60 : decode cX0_isRisky 60 = .ok (.iload_n 3, 1) := by decide +kernel
theorem dX0_isRisky_61 : decode cX0_isRisky 61 = .ok (.invokevirtual 149, 3) := by decide +kernel
theorem dX0_isRisky_64 : decode cX0_isRisky 64 = .ok (.ifCond .eq 5, 3) := by decide +kernel
theorem dX0_isRisky_67 : decode cX0_isRisky 67 = .ok (.iconst 1, 1) := by decide +kernel
theorem dX0_isRisky_68 : decode cX0_isRisky 68 = .ok (.ireturn, 1) := by decide +kernel
theorem dX0_isRisky_69 : decode cX0_isRisky 69 = .ok (.iinc 2 1, 3) := by decide +kernel
theorem dX0_isRisky_72 : decode cX0_isRisky 72 = .ok (.goto (-48), 3) := by decide +kernel
theorem dX0_isRisky_75 : decode cX0_isRisky 75 = .ok (.iconst 0, 1) := by decide +kernel
theorem dX0_isRisky_76 : decode cX0_isRisky 76 = .ok (.ireturn, 1) := by decide +kernel
theorem dX0_isUser_0 : decode cX0_isUser 0 = .ok (.iload_n 0, 1) := by decide +kernel
theorem dX0_isUser_1 : decode cX0_isUser 1 = .ok (.ifCond .lt 13, 3) := by decide +kernel
theorem dX0_isUser_4 : decode cX0_isUser 4 = .ok (.iload_n 0, 1) := by decide +kernel
theorem dX0_isUser_5 : decode cX0_isUser 5 = .ok (.bipush 8, 2) := by decide +kernel
theorem dX0_isUser_7 : decode cX0_isUser 7 = .ok (.if_icmp .ge 7, 3) := by decide +kernel
theorem dX0_isUser_10 : decode cX0_isUser 10 = .ok (.iconst 1, 1) := by decide +kernel
theorem dX0_isUser_11 : decode cX0_isUser 11 = .ok (.goto 4, 3) := by decide +kernel
theorem dX0_isUser_14 : decode cX0_isUser 14 = .ok (.iconst 0, 1) := by decide +kernel
theorem dX0_isUser_15 : decode cX0_isUser 15 = .ok (.ireturn, 1) := by decide +kernel
theorem dX0_isPermission_0 : decode cX0_isPermission 0 = .ok (.iload_n 0, 1) := by decide +kernel
theorem dX0_isPermission_1 : decode cX0_isPermission 1 = .ok (.ifCond .lt 13, 3) := by decide +kernel
theorem dX0_isPermission_4 : decode cX0_isPermission 4 = .ok (.iload_n 0, 1) := by decide +kernel
theorem dX0_isPermission_5 : decode cX0_isPermission 5 = .ok (.bipush 12, 2) := by decide +kernel
theorem dX0_isPermission_7 : decode cX0_isPermission 7 = .ok (.if_icmp .ge 7, 3) := by decide +kernel
theorem dX0_isPermission_10 : decode cX0_isPermission 10 = .ok (.iconst 1, 1) := by decide +kernel
theorem dX0_isPermission_11 : decode cX0_isPermission 11 = .ok (.goto 4, 3) := by decide +kernel
theorem dX0_isPermission_14 : decode cX0_isPermission 14 = .ok (.iconst 0, 1) := by decide +kernel
theorem dX0_isPermission_15 : decode cX0_isPermission 15 = .ok (.ireturn, 1) := by decide +kernel
theorem dX0_isPermissionSet_0 : decode cX0_isPermissionSet 0 = .ok (.iload_n 0, 1) := by decide +kernel
theorem dX0_isPermissionSet_1 : decode cX0_isPermissionSet 1 = .ok (.ifCond .lt 14, 3) := by decide +kernel
theorem dX0_isPermissionSet_4 : decode cX0_isPermissionSet 4 = .ok (.iload_n 0, 1) := by decide +kernel
theorem dX0_isPermissionSet_5 : decode cX0_isPermissionSet 5 = .ok (.sipush 4095, 3) := by decide +kernel
theorem dX0_isPermissionSet_8 : decode cX0_isPermissionSet 8 = .ok (.if_icmp .gt 7, 3) := by decide +kernel
theorem dX0_isPermissionSet_11 : decode cX0_isPermissionSet 11 = .ok (.iconst 1, 1) := by decide +kernel
theorem dX0_isPermissionSet_12 : decode cX0_isPermissionSet 12 = .ok (.goto 4, 3) := by decide +kernel
theorem dX0_isPermissionSet_15 : decode cX0_isPermissionSet 15 = .ok (.iconst 0, 1) := by decide +kernel
theorem dX0_isPermissionSet_16 : decode cX0_isPermissionSet 16 = .ok (.ireturn, 1) := by decide +kernel
theorem dX0_isCost_0 : decode cX0_isCost 0 = .ok (.iload_n 0, 1) := by decide +kernel
theorem dX0_isCost_1 : decode cX0_isCost 1 = .ok (.ifCond .lt 13, 3) := by decide +kernel
theorem dX0_isCost_4 : decode cX0_isCost 4 = .ok (.iload_n 0, 1) := by decide +kernel
theorem dX0_isCost_5 : decode cX0_isCost 5 = .ok (.bipush 100, 2) := by decide +kernel
theorem dX0_isCost_7 : decode cX0_isCost 7 = .ok (.if_icmp .gt 7, 3) := by decide +kernel
theorem dX0_isCost_10 : decode cX0_isCost 10 = .ok (.iconst 1, 1) := by decide +kernel
theorem dX0_isCost_11 : decode cX0_isCost 11 = .ok (.goto 4, 3) := by decide +kernel
theorem dX0_isCost_14 : decode cX0_isCost 14 = .ok (.iconst 0, 1) := by decide +kernel
theorem dX0_isCost_15 : decode cX0_isCost 15 = .ok (.ireturn, 1) := by decide +kernel
theorem dX0_has_0 : decode cX0_has 0 = .ok (.iload_n 0, 1) := by decide +kernel
theorem dX0_has_1 : decode cX0_has 1 = .ok (.iload_n 1, 1) := by decide +kernel
theorem dX0_has_2 : decode cX0_has 2 = .ok (.ishr, 1) := by decide +kernel
theorem dX0_has_3 : decode cX0_has 3 = .ok (.iconst 1, 1) := by decide +kernel
theorem dX0_has_4 : decode cX0_has 4 = .ok (.iand, 1) := by decide +kernel
theorem dX0_has_5 : decode cX0_has 5 = .ok (.ifCond .eq 7, 3) := by decide +kernel
theorem dX0_has_8 : decode cX0_has 8 = .ok (.iconst 1, 1) := by decide +kernel
theorem dX0_has_9 : decode cX0_has 9 = .ok (.goto 4, 3) := by decide +kernel
theorem dX0_has_12 : decode cX0_has 12 = .ok (.iconst 0, 1) := by decide +kernel
theorem dX0_has_13 : decode cX0_has 13 = .ok (.ireturn, 1) := by decide +kernel
theorem dX0_grantIndex_0 : decode cX0_grantIndex 0 = .ok (.iload_n 0, 1) := by decide +kernel
theorem dX0_grantIndex_1 : decode cX0_grantIndex 1 = .ok (.bipush 12, 2) := by decide +kernel
theorem dX0_grantIndex_3 : decode cX0_grantIndex 3 = .ok (.imul, 1) := by decide +kernel
theorem dX0_grantIndex_4 : decode cX0_grantIndex 4 = .ok (.iload_n 1, 1) := by decide +kernel
theorem dX0_grantIndex_5 : decode cX0_grantIndex 5 = .ok (.iadd, 1) := by decide +kernel
theorem dX0_grantIndex_6 : decode cX0_grantIndex 6 = .ok (.ireturn, 1) := by decide +kernel
theorem dX0_insertInOrder_0 : decode cX0_insertInOrder 0 = .ok (.iload_n 1, 1) := by decide +kernel
theorem dX0_insertInOrder_1 : decode cX0_insertInOrder 1 = .ok (.ifCond .lt 9, 3) := by decide +kernel
theorem dX0_insertInOrder_4 : decode cX0_insertInOrder 4 = .ok (.iload_n 1, 1) := by decide +kernel
theorem dX0_insertInOrder_5 : decode cX0_insertInOrder 5 = .ok (.aload_n 0, 1) := by decide +kernel
theorem dX0_insertInOrder_6 : decode cX0_insertInOrder 6 = .ok (.arraylength, 1) := by decide +kernel
theorem dX0_insertInOrder_7 : decode cX0_insertInOrder 7 = .ok (.if_icmp .lt 5, 3) := by decide +kernel
theorem dX0_insertInOrder_10 : decode cX0_insertInOrder 10 = .ok (.iload_n 1, 1) := by decide +kernel
theorem dX0_insertInOrder_11 : decode cX0_insertInOrder 11 = .ok (.ireturn, 1) := by decide +kernel
theorem dX0_insertInOrder_12 : decode cX0_insertInOrder 12 = .ok (.iload_n 1, 1) := by decide +kernel
theorem dX0_insertInOrder_13 : decode cX0_insertInOrder 13 = .ok (.istore_n 3, 1) := by decide +kernel
theorem dX0_insertInOrder_14 : decode cX0_insertInOrder 14 = .ok (.iload_n 3, 1) := by decide +kernel
theorem dX0_insertInOrder_15 : decode cX0_insertInOrder 15 = .ok (.ifCond .le 26, 3) := by decide +kernel
theorem dX0_insertInOrder_18 : decode cX0_insertInOrder 18 = .ok (.aload_n 0, 1) := by decide +kernel
theorem dX0_insertInOrder_19 : decode cX0_insertInOrder 19 = .ok (.iload_n 3, 1) := by decide +kernel
theorem dX0_insertInOrder_20 : decode cX0_insertInOrder 20 = .ok (.iconst 1, 1) := by decide +kernel
theorem dX0_insertInOrder_21 : decode cX0_insertInOrder 21 = .ok (.isub, 1) := by decide +kernel
theorem dX0_insertInOrder_22 : decode cX0_insertInOrder 22 = .ok (.iaload, 1) := by decide +kernel
theorem dX0_insertInOrder_23 : decode cX0_insertInOrder 23 = .ok (.iload_n 2, 1) := by decide +kernel
theorem dX0_insertInOrder_24 : decode cX0_insertInOrder 24 = .ok (.if_icmp .le 17, 3) := by decide +kernel
theorem dX0_insertInOrder_27 : decode cX0_insertInOrder 27 = .ok (.aload_n 0, 1) := by decide +kernel
theorem dX0_insertInOrder_28 : decode cX0_insertInOrder 28 = .ok (.iload_n 3, 1) := by decide +kernel
theorem dX0_insertInOrder_29 : decode cX0_insertInOrder 29 = .ok (.aload_n 0, 1) := by decide +kernel
theorem dX0_insertInOrder_30 : decode cX0_insertInOrder 30 = .ok (.iload_n 3, 1) := by decide +kernel
theorem dX0_insertInOrder_31 : decode cX0_insertInOrder 31 = .ok (.iconst 1, 1) := by decide +kernel
theorem dX0_insertInOrder_32 : decode cX0_insertInOrder 32 = .ok (.isub, 1) := by decide +kernel
theorem dX0_insertInOrder_33 : decode cX0_insertInOrder 33 = .ok (.iaload, 1) := by decide +kernel
theorem dX0_insertInOrder_34 : decode cX0_insertInOrder 34 = .ok (.iastore, 1) := by decide +kernel
theorem dX0_insertInOrder_35 : decode cX0_insertInOrder 35 = .ok (.iinc 3 (-1), 3) := by decide +kernel
theorem dX0_insertInOrder_38 : decode cX0_insertInOrder 38 = .ok (.goto (-24), 3) := by decide +kernel
theorem dX0_insertInOrder_41 : decode cX0_insertInOrder 41 = .ok (.aload_n 0, 1) := by decide +kernel
theorem dX0_insertInOrder_42 : decode cX0_insertInOrder 42 = .ok (.iload_n 3, 1) := by decide +kernel
theorem dX0_insertInOrder_43 : decode cX0_insertInOrder 43 = .ok (.iload_n 2, 1) := by decide +kernel
theorem dX0_insertInOrder_44 : decode cX0_insertInOrder 44 = .ok (.iastore, 1) := by decide +kernel
theorem dX0_insertInOrder_45 : decode cX0_insertInOrder 45 = .ok (.iload_n 1, 1) := by decide +kernel
theorem dX0_insertInOrder_46 : decode cX0_insertInOrder 46 = .ok (.iconst 1, 1) := by decide +kernel
theorem dX0_insertInOrder_47 : decode cX0_insertInOrder 47 = .ok (.iadd, 1) := by decide +kernel
theorem dX0_insertInOrder_48 : decode cX0_insertInOrder 48 = .ok (.ireturn, 1) := by decide +kernel
theorem dX0_holds_0 : decode cX0_holds 0 = .ok (.aload_n 0, 1) := by decide +kernel
theorem dX0_holds_1 : decode cX0_holds 1 = .ok (.getfield 9, 3) := by decide +kernel
theorem dX0_holds_4 : decode cX0_holds 4 = .ok (.iload_n 1, 1) := by decide +kernel
theorem dX0_holds_5 : decode cX0_holds 5 = .ok (.iaload, 1) := by decide +kernel
theorem dX0_holds_6 : decode cX0_holds 6 = .ok (.iload_n 2, 1) := by decide +kernel
theorem dX0_holds_7 : decode cX0_holds 7 = .ok (.iand, 1) := by decide +kernel
theorem dX0_holds_8 : decode cX0_holds 8 = .ok (.iload_n 2, 1) := by decide +kernel
theorem dX0_holds_9 : decode cX0_holds 9 = .ok (.if_icmp .ne 7, 3) := by decide +kernel
theorem dX0_holds_12 : decode cX0_holds 12 = .ok (.iconst 1, 1) := by decide +kernel
theorem dX0_holds_13 : decode cX0_holds 13 = .ok (.goto 4, 3) := by decide +kernel
theorem dX0_holds_16 : decode cX0_holds 16 = .ok (.iconst 0, 1) := by decide +kernel
theorem dX0_holds_17 : decode cX0_holds 17 = .ok (.ireturn, 1) := by decide +kernel
set_option maxRecDepth 20000 in
theorem ggX0_holdersOf_X0_holds : GoodIn wsX0_holdersOf wsX0_holds := goodIn_r _ [5, 6, 7, 8, 9, 10, 11, 12, 13, 14, 15, 16, 17, 18, 19, 20, 21, 22] (by decide +kernel) (by decide +kernel)
set_option maxRecDepth 20000 in
theorem gX0_holdersOf_X0_holds : GoodIn wsX0_holdersOf (wsV RX0 156 RX0 yX0_holds wsX0_holds) := goodIn_app (goodIn_of _ (by decide +kernel)) ggX0_holdersOf_X0_holds
theorem dX0_holdersOf_0 : decode cX0_holdersOf 0 = .ok (.iconst 0, 1) := by decide +kernel
theorem dX0_holdersOf_1 : decode cX0_holdersOf 1 = .ok (.istore_n 2, 1) := by decide +kernel
theorem dX0_holdersOf_2 : decode cX0_holdersOf 2 = .ok (.iconst 0, 1) := by decide +kernel
theorem dX0_holdersOf_3 : decode cX0_holdersOf 3 = .ok (.istore_n 3, 1) := by decide +kernel
theorem dX0_holdersOf_4 : decode cX0_holdersOf 4 = .ok (.iload_n 3, 1) := by decide +kernel
theorem dX0_holdersOf_5 : decode cX0_holdersOf 5 = .ok (.bipush 8, 2) := by decide +kernel
theorem dX0_holdersOf_7 : decode cX0_holdersOf 7 = .ok (.if_icmp .ge 24, 3) := by decide +kernel
theorem dX0_holdersOf_10 : decode cX0_holdersOf 10 = .ok (.aload_n 0, 1) := by decide +kernel
theorem dX0_holdersOf_11 : decode cX0_holdersOf 11 = .ok (.iload_n 3, 1) := by decide +kernel
theorem dX0_holdersOf_12 : decode cX0_holdersOf 12 = .ok (.iload_n 1, 1) := by decide +kernel
theorem dX0_holdersOf_13 : decode cX0_holdersOf 13 = .ok (.invokevirtual 156, 3) := by decide +kernel
theorem dX0_holdersOf_16 : decode cX0_holdersOf 16 = .ok (.ifCond .eq 9, 3) := by decide +kernel
theorem dX0_holdersOf_19 : decode cX0_holdersOf 19 = .ok (.iload_n 2, 1) := by decide +kernel
theorem dX0_holdersOf_20 : decode cX0_holdersOf 20 = .ok (.iconst 1, 1) := by decide +kernel
theorem dX0_holdersOf_21 : decode cX0_holdersOf 21 = .ok (.iload_n 3, 1) := by decide +kernel
theorem dX0_holdersOf_22 : decode cX0_holdersOf 22 = .ok (.ishl, 1) := by decide +kernel
theorem dX0_holdersOf_23 : decode cX0_holdersOf 23 = .ok (.ior, 1) := by decide +kernel
theorem dX0_holdersOf_24 : decode cX0_holdersOf 24 = .ok (.istore_n 2, 1) := by decide +kernel
theorem dX0_holdersOf_25 : decode cX0_holdersOf 25 = .ok (.iinc 3 1, 3) := by decide +kernel
theorem dX0_holdersOf_28 : decode cX0_holdersOf 28 = .ok (.goto (-24), 3) := by decide +kernel
theorem dX0_holdersOf_31 : decode cX0_holdersOf 31 = .ok (.iload_n 2, 1) := by decide +kernel
theorem dX0_holdersOf_32 : decode cX0_holdersOf 32 = .ok (.ireturn, 1) := by decide +kernel
set_option maxRecDepth 20000 in
theorem ggX0_sharedBy_X0_has : GoodIn wsX0_sharedBy wsX0_has := goodIn_r _ [5] (by decide +kernel) (by decide +kernel)
set_option maxRecDepth 20000 in
theorem gX0_sharedBy_X0_has : GoodIn wsX0_sharedBy (va_wsS RX0 74 yX0_has wsX0_has) := goodIn_app (goodIn_of _ (by decide +kernel)) ggX0_sharedBy_X0_has
theorem dX0_sharedBy_0 : decode cX0_sharedBy 0 = .ok (.sipush 4095, 3) := by decide +kernel
theorem dX0_sharedBy_3 : decode cX0_sharedBy 3 = .ok (.istore_n 2, 1) := by decide +kernel
theorem dX0_sharedBy_4 : decode cX0_sharedBy 4 = .ok (.iconst 0, 1) := by decide +kernel
theorem dX0_sharedBy_5 : decode cX0_sharedBy 5 = .ok (.istore_n 3, 1) := by decide +kernel
theorem dX0_sharedBy_6 : decode cX0_sharedBy 6 = .ok (.iload_n 3, 1) := by decide +kernel
theorem dX0_sharedBy_7 : decode cX0_sharedBy 7 = .ok (.bipush 8, 2) := by decide +kernel
theorem dX0_sharedBy_9 : decode cX0_sharedBy 9 = .ok (.if_icmp .ge 26, 3) := by decide +kernel
theorem dX0_sharedBy_12 : decode cX0_sharedBy 12 = .ok (.iload_n 1, 1) := by decide +kernel
theorem dX0_sharedBy_13 : decode cX0_sharedBy 13 = .ok (.iload_n 3, 1) := by decide +kernel
theorem dX0_sharedBy_14 : decode cX0_sharedBy 14 = .ok (.invokestatic 74, 3) := by decide +kernel
theorem dX0_sharedBy_17 : decode cX0_sharedBy 17 = .ok (.ifCond .eq 12, 3) := by decide +kernel
theorem dX0_sharedBy_20 : decode cX0_sharedBy 20 = .ok (.iload_n 2, 1) := by decide +kernel
theorem dX0_sharedBy_21 : decode cX0_sharedBy 21 = .ok (.aload_n 0, 1) := by decide +kernel
theorem dX0_sharedBy_22 : decode cX0_sharedBy 22 = .ok (.getfield 9, 3) := by decide +kernel
theorem dX0_sharedBy_25 : decode cX0_sharedBy 25 = .ok (.iload_n 3, 1) := by decide +kernel
theorem dX0_sharedBy_26 : decode cX0_sharedBy 26 = .ok (.iaload, 1) := by decide +kernel
theorem dX0_sharedBy_27 : decode cX0_sharedBy 27 = .ok (.iand, 1) := by decide +kernel
theorem dX0_sharedBy_28 : decode cX0_sharedBy 28 = .ok (.istore_n 2, 1) := by decide +kernel
theorem dX0_sharedBy_29 : decode cX0_sharedBy 29 = .ok (.iinc 3 1, 3) := by decide +kernel
theorem dX0_sharedBy_32 : decode cX0_sharedBy 32 = .ok (.goto (-26), 3) := by decide +kernel
theorem dX0_sharedBy_35 : decode cX0_sharedBy 35 = .ok (.iload_n 2, 1) := by decide +kernel
theorem dX0_sharedBy_36 : decode cX0_sharedBy 36 = .ok (.ireturn, 1) := by decide +kernel
set_option maxRecDepth 20000 in
theorem ggX0_isProper_X0_has : GoodIn wsX0_isProper wsX0_has := goodIn_r _ [5] (by decide +kernel) (by decide +kernel)
set_option maxRecDepth 20000 in
theorem gX0_isProper_X0_has : GoodIn wsX0_isProper (va_wsS RX0 74 yX0_has wsX0_has) := goodIn_app (goodIn_of _ (by decide +kernel)) ggX0_isProper_X0_has
theorem dX0_isProper_0 : decode cX0_isProper 0 = .ok (.iconst 0, 1) := by decide +kernel
theorem dX0_isProper_1 : decode cX0_isProper 1 = .ok (.istore_n 2, 1) := by decide +kernel
theorem dX0_isProper_2 : decode cX0_isProper 2 = .ok (.iload_n 2, 1) := by decide +kernel
theorem dX0_isProper_3 : decode cX0_isProper 3 = .ok (.bipush 12, 2) := by decide +kernel
theorem dX0_isProper_5 : decode cX0_isProper 5 = .ok (.if_icmp .ge 30, 3) := by decide +kernel
theorem dX0_isProper_8 : decode cX0_isProper 8 = .ok (.iload_n 1, 1) := by decide +kernel
theorem dX0_isProper_9 : decode cX0_isProper 9 = .ok (.iload_n 2, 1) := by decide +kernel
theorem dX0_isProper_10 : decode cX0_isProper 10 = .ok (.invokestatic 74, 3) := by decide +kernel
theorem dX0_isProper_13 : decode cX0_isProper 13 = .ok (.ifCond .eq 16, 3) := by decide +kernel
theorem dX0_isProper_16 : decode cX0_isProper 16 = .ok (.aload_n 0, 1) := by decide +kernel
theorem dX0_isProper_17 : decode cX0_isProper 17 = .ok (.getfield 16, 3) := by decide +kernel
theorem dX0_isProper_20 : decode cX0_isProper 20 = .ok (.iload_n 2, 1) := by decide +kernel
theorem dX0_isProper_21 : decode cX0_isProper 21 = .ok (.iaload, 1) := by decide +kernel
theorem dX0_isProper_22 : decode cX0_isProper 22 = .ok (.iload_n 1, 1) := by decide +kernel
theorem dX0_isProper_23 : decode cX0_isProper 23 = .ok (.iand, 1) := by decide +kernel
theorem dX0_isProper_24 : decode cX0_isProper 24 = .ok (.ifCond .eq 5, 3) := by decide +kernel
theorem dX0_isProper_27 : decode cX0_isProper 27 = .ok (.iconst 0, 1) := by decide +kernel
theorem dX0_isProper_28 : decode cX0_isProper 28 = .ok (.ireturn, 1) := by decide +kernel
theorem dX0_isProper_29 : decode cX0_isProper 29 = .ok (.iinc 2 1, 3) := by decide +kernel
theorem dX0_isProper_32 : decode cX0_isProper 32 = .ok (.goto (-30), 3) := by decide +kernel
theorem dX0_isProper_35 : decode cX0_isProper 35 = .ok (.iconst 1, 1) := by decide +kernel
theorem dX0_isProper_36 : decode cX0_isProper 36 = .ok (.ireturn, 1) := by decide +kernel
set_option maxRecDepth 20000 in
theorem ggX0_lapsingIn_X0_grantIndex : GoodIn wsX0_lapsingIn wsX0_grantIndex := goodIn_r _ [7] (by decide +kernel) (by decide +kernel)
set_option maxRecDepth 20000 in
theorem gX0_lapsingIn_X0_grantIndex : GoodIn wsX0_lapsingIn (va_wsS RX0 78 yX0_grantIndex wsX0_grantIndex) := goodIn_app (goodIn_of _ (by decide +kernel)) ggX0_lapsingIn_X0_grantIndex
set_option maxRecDepth 20000 in
theorem ggX0_lapsingIn_X0_has : GoodIn wsX0_lapsingIn wsX0_has := goodIn_r _ [10] (by decide +kernel) (by decide +kernel)
set_option maxRecDepth 20000 in
theorem gX0_lapsingIn_X0_has : GoodIn wsX0_lapsingIn (va_wsS RX0 74 yX0_has wsX0_has) := goodIn_app (goodIn_of _ (by decide +kernel)) ggX0_lapsingIn_X0_has
theorem dX0_lapsingIn_0 : decode cX0_lapsingIn 0 = .ok (.iconst 0, 1) := by decide +kernel
theorem dX0_lapsingIn_1 : decode cX0_lapsingIn 1 = .ok (.istore_n 3, 1) := by decide +kernel
theorem dX0_lapsingIn_2 : decode cX0_lapsingIn 2 = .ok (.iconst 0, 1) := by decide +kernel
theorem dX0_lapsingIn_3 : decode cX0_lapsingIn 3 = .ok (.istore 4, 2) := by decide +kernel
theorem dX0_lapsingIn_5 : decode cX0_lapsingIn 5 = .ok (.iload 4, 2) := by decide +kernel
theorem dX0_lapsingIn_7 : decode cX0_lapsingIn 7 = .ok (.bipush 12, 2) := by decide +kernel
theorem dX0_lapsingIn_9 : decode cX0_lapsingIn 9 = .ok (.if_icmp .ge 54, 3) := by decide +kernel
theorem dX0_lapsingIn_12 : decode cX0_lapsingIn 12 = .ok (.iload_n 1, 1) := by decide +kernel
theorem dX0_lapsingIn_13 : decode cX0_lapsingIn 13 = .ok (.aload_n 0, 1) := by decide +kernel
theorem dX0_lapsingIn_14 : decode cX0_lapsingIn 14 = .ok (.getfield 13, 3) := by decide +kernel
theorem dX0_lapsingIn_17 : decode cX0_lapsingIn 17 = .ok (.iload_n 2, 1) := by decide +kernel
theorem dX0_lapsingIn_18 : decode cX0_lapsingIn 18 = .ok (.iload 4, 2) := by decide +kernel
theorem dX0_lapsingIn_20 : decode cX0_lapsingIn 20 = .ok (.invokestatic 78, 3) := by decide +kernel
theorem dX0_lapsingIn_23 : decode cX0_lapsingIn 23 = .ok (.iaload, 1) := by decide +kernel
theorem dX0_lapsingIn_24 : decode cX0_lapsingIn 24 = .ok (.isub, 1) := by decide +kernel
theorem dX0_lapsingIn_25 : decode cX0_lapsingIn 25 = .ok (.istore 5, 2) := by decide +kernel
theorem dX0_lapsingIn_27 : decode cX0_lapsingIn 27 = .ok (.aload_n 0, 1) := by decide +kernel
theorem dX0_lapsingIn_28 : decode cX0_lapsingIn 28 = .ok (.getfield 9, 3) := by decide +kernel
theorem dX0_lapsingIn_31 : decode cX0_lapsingIn 31 = .ok (.iload_n 2, 1) := by decide +kernel
theorem dX0_lapsingIn_32 : decode cX0_lapsingIn 32 = .ok (.iaload, 1) := by decide +kernel
theorem dX0_lapsingIn_33 : decode cX0_lapsingIn 33 = .ok (.iload 4, 2) := by decide +kernel
theorem dX0_lapsingIn_35 : decode cX0_lapsingIn 35 = .ok (.invokestatic 74, 3) := by decide +kernel
theorem dX0_lapsingIn_38 : decode cX0_lapsingIn 38 = .ok (.ifCond .eq 19, 3) := by decide +kernel
theorem dX0_lapsingIn_41 : decode cX0_lapsingIn 41 = .ok (.iload 5, 2) := by decide +kernel
theorem dX0_lapsingIn_43 : decode cX0_lapsingIn 43 = .ok (.aload_n 0, 1) := by decide +kernel
theorem dX0_lapsingIn_44 : decode cX0_lapsingIn 44 = .ok (.getfield 29, 3) := by decide +kernel
theorem dX0_lapsingIn_47 : decode cX0_lapsingIn 47 = .ok (.if_icmp .lt 10, 3) := by decide +kernel
theorem dX0_lapsingIn_50 : decode cX0_lapsingIn 50 = .ok (.iload_n 3, 1) := by decide +kernel
theorem dX0_lapsingIn_51 : decode cX0_lapsingIn 51 = .ok (.iconst 1, 1) := by decide +kernel
theorem dX0_lapsingIn_52 : decode cX0_lapsingIn 52 = .ok (.iload 4, 2) := by decide +kernel
theorem dX0_lapsingIn_54 : decode cX0_lapsingIn 54 = .ok (.ishl, 1) := by decide +kernel
theorem dX0_lapsingIn_55 : decode cX0_lapsingIn 55 = .ok (.ior, 1) := by decide +kernel
theorem dX0_lapsingIn_56 : decode cX0_lapsingIn 56 = .ok (.istore_n 3, 1) := by decide +kernel
theorem dX0_lapsingIn_57 : decode cX0_lapsingIn 57 = .ok (.iinc 4 1, 3) := by decide +kernel
theorem dX0_lapsingIn_60 : decode cX0_lapsingIn 60 = .ok (.goto (-55), 3) := by decide +kernel
theorem dX0_lapsingIn_63 : decode cX0_lapsingIn 63 = .ok (.iload_n 3, 1) := by decide +kernel
theorem dX0_lapsingIn_64 : decode cX0_lapsingIn 64 = .ok (.ireturn, 1) := by decide +kernel
set_option maxRecDepth 20000 in
theorem ggX0_joinedRoles_X0_holds : GoodIn wsX0_joinedRoles wsX0_holds := goodIn_r _ [7, 8, 9, 10, 11, 12, 13, 14, 15, 16, 17, 18, 19, 20, 21, 22, 23, 24] (by decide +kernel) (by decide +kernel)
set_option maxRecDepth 20000 in
theorem gX0_joinedRoles_X0_holds : GoodIn wsX0_joinedRoles (wsV RX0 156 RX0 yX0_holds wsX0_holds) := goodIn_app (goodIn_of _ (by decide +kernel)) ggX0_joinedRoles_X0_holds
theorem dX0_joinedRoles_0 : decode cX0_joinedRoles 0 = .ok (.iconst 0, 1) := by decide +kernel
theorem dX0_joinedRoles_1 : decode cX0_joinedRoles 1 = .ok (.istore_n 2, 1) := by decide +kernel
theorem dX0_joinedRoles_2 : decode cX0_joinedRoles 2 = .ok (.iconst 0, 1) := by decide +kernel
theorem dX0_joinedRoles_3 : decode cX0_joinedRoles 3 = .ok (.istore_n 3, 1) := by decide +kernel
theorem dX0_joinedRoles_4 : decode cX0_joinedRoles 4 = .ok (.iload_n 3, 1) := by decide +kernel
theorem dX0_joinedRoles_5 : decode cX0_joinedRoles 5 = .ok (.aload_n 0, 1) := by decide +kernel
theorem dX0_joinedRoles_6 : decode cX0_joinedRoles 6 = .ok (.getfield 38, 3) := by decide +kernel
theorem dX0_joinedRoles_9 : decode cX0_joinedRoles 9 = .ok (.if_icmp .ge 32, 3) := by decide +kernel
theorem dX0_joinedRoles_12 : decode cX0_joinedRoles 12 = .ok (.aload_n 0, 1) := by decide +kernel
theorem dX0_joinedRoles_13 : decode cX0_joinedRoles 13 = .ok (.iload_n 1, 1) := by decide +kernel
theorem dX0_joinedRoles_14 : decode cX0_joinedRoles 14 = .ok (.aload_n 0, 1) := by decide +kernel
theorem dX0_joinedRoles_15 : decode cX0_joinedRoles 15 = .ok (.getfield 35, 3) := by decide +kernel
theorem dX0_joinedRoles_18 : decode cX0_joinedRoles 18 = .ok (.iload_n 3, 1) := by decide +kernel
theorem dX0_joinedRoles_19 : decode cX0_joinedRoles 19 = .ok (.iaload, 1) := by decide +kernel
theorem dX0_joinedRoles_20 : decode cX0_joinedRoles 20 = .ok (.invokevirtual 156, 3) := by decide +kernel
theorem dX0_joinedRoles_23 : decode cX0_joinedRoles 23 = .ok (.ifCond .eq 12, 3) := by decide +kernel
theorem dX0_joinedRoles_26 : decode cX0_joinedRoles 26 = .ok (.iload_n 2, 1) := by decide +kernel
theorem dX0_joinedRoles_27 : decode cX0_joinedRoles 27 = .ok (.aload_n 0, 1) := by decide +kernel
theorem dX0_joinedRoles_28 : decode cX0_joinedRoles 28 = .ok (.getfield 35, 3) := by decide +kernel
theorem dX0_joinedRoles_31 : decode cX0_joinedRoles 31 = .ok (.iload_n 3, 1) := by decide +kernel
theorem dX0_joinedRoles_32 : decode cX0_joinedRoles 32 = .ok (.iaload, 1) := by decide +kernel
theorem dX0_joinedRoles_33 : decode cX0_joinedRoles 33 = .ok (.ior, 1) := by decide +kernel
theorem dX0_joinedRoles_34 : decode cX0_joinedRoles 34 = .ok (.istore_n 2, 1) := by decide +kernel
theorem dX0_joinedRoles_35 : decode cX0_joinedRoles 35 = .ok (.iinc 3 1, 3) := by decide +kernel
theorem dX0_joinedRoles_38 : decode cX0_joinedRoles 38 = .ok (.goto (-34), 3) := by decide +kernel
theorem dX0_joinedRoles_41 : decode cX0_joinedRoles 41 = .ok (.iload_n 2, 1) := by decide +kernel
theorem dX0_joinedRoles_42 : decode cX0_joinedRoles 42 = .ok (.ireturn, 1) := by decide +kernel
set_option maxRecDepth 20000 in
theorem ggX0_findCandidates_X0_sharedBy : GoodIn wsX0_findCandidates wsX0_sharedBy := goodIn_r _ [8, 9, 10, 11, 7, 12, 54, 55, 56, 57, 58, 59, 60, 61, 62, 63, 64, 65, 66, 67, 68, 69] (by decide +kernel) (by decide +kernel)
set_option maxRecDepth 20000 in
theorem gX0_findCandidates_X0_sharedBy : GoodIn wsX0_findCandidates (wsV RX0 165 RX0 yX0_sharedBy wsX0_sharedBy) := goodIn_app (goodIn_of _ (by decide +kernel)) ggX0_findCandidates_X0_sharedBy
set_option maxRecDepth 20000 in
theorem ggX0_findCandidates_X0_holdersOf : GoodIn wsX0_findCandidates wsX0_holdersOf := goodIn_r _ [16, 17, 18, 19, 7, 20, 9, 54, 55, 56, 57, 58, 59, 60, 61, 62, 63, 64, 65, 66, 67, 68, 69] (by decide +kernel) (by decide +kernel)
set_option maxRecDepth 20000 in
theorem gX0_findCandidates_X0_holdersOf : GoodIn wsX0_findCandidates (wsV RX0 149 RX0 yX0_holdersOf wsX0_holdersOf) := goodIn_app (goodIn_of _ (by decide +kernel)) ggX0_findCandidates_X0_holdersOf
set_option maxRecDepth 20000 in
theorem ggX0_findCandidates_J6_bitCount_0f7a4 : GoodIn wsX0_findCandidates wsJ6_bitCount_0f7a4 := goodIn_r _ [24, 25, 26, 27] (by decide +kernel) (by decide +kernel)
set_option maxRecDepth 20000 in
theorem gX0_findCandidates_J6_bitCount_0f7a4 : GoodIn wsX0_findCandidates (va_wsS RX0 92 yJ6_bitCount_0f7a4 wsJ6_bitCount_0f7a4) := goodIn_app (goodIn_of _ (by decide +kernel)) ggX0_findCandidates_J6_bitCount_0f7a4
set_option maxRecDepth 20000 in
theorem ggX0_findCandidates_X0_isProper : GoodIn wsX0_findCandidates wsX0_isProper := goodIn_r _ [31, 32, 10, 11, 7, 12, 54, 55, 56, 57, 58, 59, 60, 61, 62, 63, 64, 65, 66, 67, 68, 69] (by decide +kernel) (by decide +kernel)
set_option maxRecDepth 20000 in
theorem gX0_findCandidates_X0_isProper : GoodIn wsX0_findCandidates (wsV RX0 162 RX0 yX0_isProper wsX0_isProper) := goodIn_app (goodIn_of _ (by decide +kernel)) ggX0_findCandidates_X0_isProper
set_option maxRecDepth 20000 in
theorem ggX0_findCandidates_X0_insertInOrder : GoodIn wsX0_findCandidates wsX0_insertInOrder := goodIn_r _ [35] (by decide +kernel) (by decide +kernel)
set_option maxRecDepth 20000 in
theorem gX0_findCandidates_X0_insertInOrder : GoodIn wsX0_findCandidates (va_wsS RX0 128 yX0_insertInOrder wsX0_insertInOrder) := goodIn_app (goodIn_of _ (by decide +kernel)) ggX0_findCandidates_X0_insertInOrder
set_option maxRecDepth 20000 in
theorem ggX0_findCandidates_X0_findCover : GoodIn wsX0_findCandidates wsX0_findCover := goodIn_r _ [39, 3, 40, 41, 17, 18, 19, 7, 20, 9, 42, 43, 44, 45, 46, 47, 54, 55, 56, 57, 58, 59, 60, 61, 62, 63, 64, 65, 66, 67, 68, 69] (by decide +kernel) (by decide +kernel)
set_option maxRecDepth 20000 in
theorem gX0_findCandidates_X0_findCover : GoodIn wsX0_findCandidates (wsV RX0 168 RX0 yX0_findCover wsX0_findCover) := goodIn_app (goodIn_of _ (by decide +kernel)) ggX0_findCandidates_X0_findCover
set_option maxRecDepth 20000 in
theorem ggX0_findCandidates_X0_findAllLeft : GoodIn wsX0_findCandidates wsX0_findAllLeft := goodIn_r _ [51, 9, 52, 53, 42, 43, 7, 44, 45, 46, 47, 54, 55, 56, 57, 58, 59, 60, 61, 62, 63, 64, 65, 66, 67, 68, 69] (by decide +kernel) (by decide +kernel)
set_option maxRecDepth 20000 in
theorem gX0_findCandidates_X0_findAllLeft : GoodIn wsX0_findCandidates (wsV RX0 172 RX0 yX0_findAllLeft wsX0_findAllLeft) := goodIn_app (goodIn_of _ (by decide +kernel)) ggX0_findCandidates_X0_findAllLeft
theorem dX0_findCandidates_0 : decode cX0_findCandidates 0 = .ok (.aload_n 0, 1) := by decide +kernel
theorem dX0_findCandidates_1 : decode cX0_findCandidates 1 = .ok (.iconst 0, 1) := by decide +kernel
theorem dX0_findCandidates_2 : decode cX0_findCandidates 2 = .ok (.putfield 44, 3) := by decide +kernel
theorem dX0_findCandidates_5 : decode cX0_findCandidates 5 = .ok (.iconst 1, 1) := by decide +kernel
theorem dX0_findCandidates_6 : decode cX0_findCandidates 6 = .ok (.istore_n 1, 1) := by decide +kernel
theorem dX0_findCandidates_7 : decode cX0_findCandidates 7 = .ok (.iload_n 1, 1) := by decide +kernel
theorem dX0_findCandidates_8 : decode cX0_findCandidates 8 = .ok (.sipush 255, 3) := by decide +kernel
theorem dX0_findCandidates_11 : decode cX0_findCandidates 11 = .ok (.if_icmp .gt 73, 3) := by decide +kernel
theorem dX0_findCandidates_14 : decode cX0_findCandidates 14 = .ok (.aload_n 0, 1) := by decide +kernel
theorem dX0_findCandidates_15 : decode cX0_findCandidates 15 = .ok (.iload_n 1, 1) := by decide +kernel
theorem dX0_findCandidates_16 : decode cX0_findCandidates 16 = .ok (.invokevirtual 165, 3) := by decide +kernel
theorem dX0_findCandidates_19 : decode cX0_findCandidates 19 = .ok (.istore_n 2, 1) := by decide +kernel
theorem dX0_findCandidates_20 : decode cX0_findCandidates 20 = .ok (.aload_n 0, 1) := by decide +kernel
theorem dX0_findCandidates_21 : decode cX0_findCandidates 21 = .ok (.iload_n 2, 1) := by decide +kernel
theorem dX0_findCandidates_22 : decode cX0_findCandidates 22 = .ok (.invokevirtual 149, 3) := by decide +kernel
theorem dX0_findCandidates_25 : decode cX0_findCandidates 25 = .ok (.iload_n 1, 1) := by decide +kernel
theorem dX0_findCandidates_26 : decode cX0_findCandidates 26 = .ok (.if_icmp .ne 7, 3) := by decide +kernel
theorem dX0_findCandidates_29 : decode cX0_findCandidates 29 = .ok (.iconst 1, 1) := by decide +kernel
theorem dX0_findCandidates_30 : decode cX0_findCandidates 30 = .ok (.goto 4, 3) := by decide +kernel
theorem dX0_findCandidates_33 : decode cX0_findCandidates 33 = .ok (.iconst 0, 1) := by decide +kernel
theorem dX0_findCandidates_34 : decode cX0_findCandidates 34 = .ok (.istore_n 3, 1) := by decide +kernel
theorem dX0_findCandidates_35 : decode cX0_findCandidates 35 = .ok (.iload_n 3, 1) := by decide +kernel
theorem dX0_findCandidates_36 : decode cX0_findCandidates 36 = .ok (.ifCond .eq 42, 3) := by decide +kernel
theorem dX0_findCandidates_39 : decode cX0_findCandidates 39 = .ok (.iload_n 2, 1) := by decide +kernel
theorem dX0_findCandidates_40 : decode cX0_findCandidates 40 = .ok (.ifCond .eq 38, 3) := by decide +kernel
theorem dX0_findCandidates_43 : decode cX0_findCandidates 43 = .ok (.iload_n 1, 1) := by decide +kernel
theorem dX0_findCandidates_44 : decode cX0_findCandidates 44 = .ok (.invokestatic 92, 3) := by decide +kernel
theorem dX0_findCandidates_47 : decode cX0_findCandidates 47 = .ok (.aload_n 0, 1) := by decide +kernel
theorem dX0_findCandidates_48 : decode cX0_findCandidates 48 = .ok (.getfield 26, 3) := by decide +kernel
theorem dX0_findCandidates_51 : decode cX0_findCandidates 51 = .ok (.if_icmp .lt 27, 3) := by decide +kernel
theorem dX0_findCandidates_54 : decode cX0_findCandidates 54 = .ok (.aload_n 0, 1) := by decide +kernel
theorem dX0_findCandidates_55 : decode cX0_findCandidates 55 = .ok (.iload_n 2, 1) := by decide +kernel
theorem dX0_findCandidates_56 : decode cX0_findCandidates 56 = .ok (.invokevirtual 162, 3) := by decide +kernel
theorem dX0_findCandidates_59 : decode cX0_findCandidates 59 = .ok (.ifCond .eq 19, 3) := by decide +kernel
theorem dX0_findCandidates_62 : decode cX0_findCandidates 62 = .ok (.aload_n 0, 1) := by decide +kernel
theorem dX0_findCandidates_63 : decode cX0_findCandidates 63 = .ok (.aload_n 0, 1) := by decide +kernel
theorem dX0_findCandidates_64 : decode cX0_findCandidates 64 = .ok (.getfield 41, 3) := by decide +kernel
theorem dX0_findCandidates_67 : decode cX0_findCandidates 67 = .ok (.aload_n 0, 1) := by decide +kernel
theorem dX0_findCandidates_68 : decode cX0_findCandidates 68 = .ok (.getfield 44, 3) := by decide +kernel
theorem dX0_findCandidates_71 : decode cX0_findCandidates 71 = .ok (.iload_n 2, 1) := by decide +kernel
theorem dX0_findCandidates_72 : decode cX0_findCandidates 72 = .ok (.invokestatic 128, 3) := by decide +kernel
theorem dX0_findCandidates_75 : decode cX0_findCandidates 75 = .ok (.putfield 44, 3) := by decide +kernel
theorem dX0_findCandidates_78 : decode cX0_findCandidates 78 = .ok (.iinc 1 1, 3) := by decide +kernel
theorem dX0_findCandidates_81 : decode cX0_findCandidates 81 = .ok (.goto (-74), 3) := by decide +kernel
theorem dX0_findCandidates_84 : decode cX0_findCandidates 84 = .ok (.iconst 0, 1) := by decide +kernel
theorem dX0_findCandidates_85 : decode cX0_findCandidates 85 = .ok (.istore_n 1, 1) := by decide +kernel
theorem dX0_findCandidates_86 : decode cX0_findCandidates 86 = .ok (.iload_n 1, 1) := by decide +kernel
theorem dX0_findCandidates_87 : decode cX0_findCandidates 87 = .ok (.aload_n 0, 1) := by decide +kernel
theorem dX0_findCandidates_88 : decode cX0_findCandidates 88 = .ok (.getfield 44, 3) := by decide +kernel
theorem dX0_findCandidates_91 : decode cX0_findCandidates 91 = .ok (.if_icmp .ge 14, 3) := by decide +kernel
theorem dX0_findCandidates_94 : decode cX0_findCandidates 94 = .ok (.aload_n 0, 1) := by decide +kernel
theorem dX0_findCandidates_95 : decode cX0_findCandidates 95 = .ok (.iload_n 1, 1) := by decide +kernel
theorem dX0_findCandidates_96 : decode cX0_findCandidates 96 = .ok (.invokevirtual 168, 3) := by decide +kernel
theorem dX0_findCandidates_99 : decode cX0_findCandidates 99 = .ok (.iinc 1 1, 3) := by decide +kernel
theorem dX0_findCandidates_102 : decode cX0_findCandidates 102 = .ok (.goto (-16), 3) := by decide +kernel
theorem dX0_findCandidates_105 : decode cX0_findCandidates 105 = .ok (.aload_n 0, 1) := by decide +kernel
theorem dX0_findCandidates_106 : decode cX0_findCandidates 106 = .ok (.invokevirtual 172, 3) := by decide +kernel
theorem dX0_findCandidates_109 : decode cX0_findCandidates 109 = .ok (.return_, 1) := by decide +kernel
set_option maxRecDepth 20000 in
theorem ggX0_findCover_X0_holds : GoodIn wsX0_findCover wsX0_holds := goodIn_r _ [8, 9, 16, 17, 18, 19, 20, 21, 22, 23, 24, 25, 26, 27, 28, 29, 30, 31] (by decide +kernel) (by decide +kernel)
set_option maxRecDepth 20000 in
theorem gX0_findCover_X0_holds : GoodIn wsX0_findCover (wsV RX0 156 RX0 yX0_holds wsX0_holds) := goodIn_app (goodIn_of _ (by decide +kernel)) ggX0_findCover_X0_holds
set_option maxRecDepth 20000 in
theorem ggX0_findCover_X0_lowPart : GoodIn wsX0_findCover wsX0_lowPart := goodIn_r _ [12] (by decide +kernel) (by decide +kernel)
set_option maxRecDepth 20000 in
theorem gX0_findCover_X0_lowPart : GoodIn wsX0_findCover (va_wsS RX0 175 yX0_lowPart wsX0_lowPart) := goodIn_app (goodIn_of _ (by decide +kernel)) ggX0_findCover_X0_lowPart
set_option maxRecDepth 20000 in
theorem ggX0_findCover_X0_highPart : GoodIn wsX0_findCover wsX0_highPart := goodIn_r _ [15] (by decide +kernel) (by decide +kernel)
set_option maxRecDepth 20000 in
theorem gX0_findCover_X0_highPart : GoodIn wsX0_findCover (va_wsS RX0 179 yX0_highPart wsX0_highPart) := goodIn_app (goodIn_of _ (by decide +kernel)) ggX0_findCover_X0_highPart
theorem dX0_findCover_0 : decode cX0_findCover 0 = .ok (.aload_n 0, 1) := by decide +kernel
theorem dX0_findCover_1 : decode cX0_findCover 1 = .ok (.getfield 41, 3) := by decide +kernel
theorem dX0_findCover_4 : decode cX0_findCover 4 = .ok (.iload_n 1, 1) := by decide +kernel
theorem dX0_findCover_5 : decode cX0_findCover 5 = .ok (.iaload, 1) := by decide +kernel
theorem dX0_findCover_6 : decode cX0_findCover 6 = .ok (.istore_n 2, 1) := by decide +kernel
theorem dX0_findCover_7 : decode cX0_findCover 7 = .ok (.lconst 0, 1) := by decide +kernel
theorem dX0_findCover_8 : decode cX0_findCover 8 = .ok (.lstore_n 3, 1) := by decide +kernel
theorem dX0_findCover_9 : decode cX0_findCover 9 = .ok (.lconst 0, 1) := by decide +kernel
theorem dX0_findCover_10 : decode cX0_findCover 10 = .ok (.lstore 5, 2) := by decide +kernel
theorem dX0_findCover_12 : decode cX0_findCover 12 = .ok (.iconst 0, 1) := by decide +kernel
theorem dX0_findCover_13 : decode cX0_findCover 13 = .ok (.istore 7, 2) := by decide +kernel
theorem dX0_findCover_15 : decode cX0_findCover 15 = .ok (.iload 7, 2) := by decide +kernel
theorem dX0_findCover_17 : decode cX0_findCover 17 = .ok (.bipush 8, 2) := by decide +kernel
theorem dX0_findCover_19 : decode cX0_findCover 19 = .ok (.if_icmp .ge 39, 3) := by decide +kernel
theorem dX0_findCover_22 : decode cX0_findCover 22 = .ok (.aload_n 0, 1) := by decide +kernel
theorem dX0_findCover_23 : decode cX0_findCover 23 = .ok (.iload 7, 2) := by decide +kernel
theorem dX0_findCover_25 : decode cX0_findCover 25 = .ok (.iload_n 2, 1) := by decide +kernel
theorem dX0_findCover_26 : decode cX0_findCover 26 = .ok (.invokevirtual 156, 3) := by decide +kernel
theorem dX0_findCover_29 : decode cX0_findCover 29 = .ok (.ifCond .eq 23, 3) := by decide +kernel
theorem dX0_findCover_32 : decode cX0_findCover 32 = .ok (.lload_n 3, 1) := by decide +kernel
theorem dX0_findCover_33 : decode cX0_findCover 33 = .ok (.iload 7, 2) := by decide +kernel
theorem dX0_findCover_35 : decode cX0_findCover 35 = .ok (.iload_n 2, 1) := by decide +kernel
theorem dX0_findCover_36 : decode cX0_findCover 36 = .ok (.invokestatic 175, 3) := by decide +kernel
theorem dX0_findCover_39 : decode cX0_findCover 39 = .ok (.lor, 1) := by decide +kernel
theorem dX0_findCover_40 : decode cX0_findCover 40 = .ok (.lstore_n 3, 1) := by decide +kernel
theorem dX0_findCover_41 : decode cX0_findCover 41 = .ok (.lload 5, 2) := by decide +kernel
theorem dX0_findCover_43 : decode cX0_findCover 43 = .ok (.iload 7, 2) := by decide +kernel
theorem dX0_findCover_45 : decode cX0_findCover 45 = .ok (.iload_n 2, 1) := by decide +kernel
theorem dX0_findCover_46 : decode cX0_findCover 46 = .ok (.invokestatic 179, 3) := by decide +kernel
theorem dX0_findCover_49 : decode cX0_findCover 49 = .ok (.lor, 1) := by decide +kernel
theorem dX0_findCover_50 : decode cX0_findCover 50 = .ok (.lstore 5, 2) := by decide +kernel
theorem dX0_findCover_52 : decode cX0_findCover 52 = .ok (.iinc 7 1, 3) := by decide +kernel
theorem dX0_findCover_55 : decode cX0_findCover 55 = .ok (.goto (-40), 3) := by decide +kernel
theorem dX0_findCover_58 : decode cX0_findCover 58 = .ok (.aload_n 0, 1) := by decide +kernel
theorem dX0_findCover_59 : decode cX0_findCover 59 = .ok (.getfield 47, 3) := by decide +kernel
theorem dX0_findCover_62 : decode cX0_findCover 62 = .ok (.iload_n 1, 1) := by decide +kernel
theorem dX0_findCover_63 : decode cX0_findCover 63 = .ok (.lload_n 3, 1) := by decide +kernel
theorem dX0_findCover_64 : decode cX0_findCover 64 = .ok (.lastore, 1) := by decide +kernel
theorem dX0_findCover_65 : decode cX0_findCover 65 = .ok (.aload_n 0, 1) := by decide +kernel
theorem dX0_findCover_66 : decode cX0_findCover 66 = .ok (.getfield 51, 3) := by decide +kernel
theorem dX0_findCover_69 : decode cX0_findCover 69 = .ok (.iload_n 1, 1) := by decide +kernel
theorem dX0_findCover_70 : decode cX0_findCover 70 = .ok (.lload 5, 2) := by decide +kernel
theorem dX0_findCover_72 : decode cX0_findCover 72 = .ok (.lastore, 1) := by decide +kernel
theorem dX0_findCover_73 : decode cX0_findCover 73 = .ok (.return_, 1) := by decide +kernel
set_option maxRecDepth 20000 in
theorem ggX0_findAllLeft_X0_lowPart : GoodIn wsX0_findAllLeft wsX0_lowPart := goodIn_r _ [7] (by decide +kernel) (by decide +kernel)
set_option maxRecDepth 20000 in
theorem gX0_findAllLeft_X0_lowPart : GoodIn wsX0_findAllLeft (va_wsS RX0 175 yX0_lowPart wsX0_lowPart) := goodIn_app (goodIn_of _ (by decide +kernel)) ggX0_findAllLeft_X0_lowPart
set_option maxRecDepth 20000 in
theorem ggX0_findAllLeft_X0_highPart : GoodIn wsX0_findAllLeft wsX0_highPart := goodIn_r _ [10] (by decide +kernel) (by decide +kernel)
set_option maxRecDepth 20000 in
theorem gX0_findAllLeft_X0_highPart : GoodIn wsX0_findAllLeft (va_wsS RX0 179 yX0_highPart wsX0_highPart) := goodIn_app (goodIn_of _ (by decide +kernel)) ggX0_findAllLeft_X0_highPart
theorem dX0_findAllLeft_0 : decode cX0_findAllLeft 0 = .ok (.lconst 0, 1) := by decide +kernel
theorem dX0_findAllLeft_1 : decode cX0_findAllLeft 1 = .ok (.lstore_n 1, 1) := by decide +kernel
theorem dX0_findAllLeft_2 : decode cX0_findAllLeft 2 = .ok (.lconst 0, 1) := by decide +kernel
theorem dX0_findAllLeft_3 : decode cX0_findAllLeft 3 = .ok (.lstore_n 3, 1) := by decide +kernel
theorem dX0_findAllLeft_4 : decode cX0_findAllLeft 4 = .ok (.iconst 0, 1) := by decide +kernel
theorem dX0_findAllLeft_5 : decode cX0_findAllLeft 5 = .ok (.istore 5, 2) := by decide +kernel
theorem dX0_findAllLeft_7 : decode cX0_findAllLeft 7 = .ok (.iload 5, 2) := by decide +kernel
theorem dX0_findAllLeft_9 : decode cX0_findAllLeft 9 = .ok (.bipush 8, 2) := by decide +kernel
theorem dX0_findAllLeft_11 : decode cX0_findAllLeft 11 = .ok (.if_icmp .ge 39, 3) := by decide +kernel
theorem dX0_findAllLeft_14 : decode cX0_findAllLeft 14 = .ok (.lload_n 1, 1) := by decide +kernel
theorem dX0_findAllLeft_15 : decode cX0_findAllLeft 15 = .ok (.iload 5, 2) := by decide +kernel
theorem dX0_findAllLeft_17 : decode cX0_findAllLeft 17 = .ok (.aload_n 0, 1) := by decide +kernel
theorem dX0_findAllLeft_18 : decode cX0_findAllLeft 18 = .ok (.getfield 9, 3) := by decide +kernel
theorem dX0_findAllLeft_21 : decode cX0_findAllLeft 21 = .ok (.iload 5, 2) := by decide +kernel
theorem dX0_findAllLeft_23 : decode cX0_findAllLeft 23 = .ok (.iaload, 1) := by decide +kernel
theorem dX0_findAllLeft_24 : decode cX0_findAllLeft 24 = .ok (.invokestatic 175, 3) := by decide +kernel
theorem dX0_findAllLeft_27 : decode cX0_findAllLeft 27 = .ok (.lor, 1) := by decide +kernel
theorem dX0_findAllLeft_28 : decode cX0_findAllLeft 28 = .ok (.lstore_n 1, 1) := by decide +kernel
theorem dX0_findAllLeft_29 : decode cX0_findAllLeft 29 = .ok (.lload_n 3, 1) := by decide +kernel
theorem dX0_findAllLeft_30 : decode cX0_findAllLeft 30 = .ok (.iload 5, 2) := by decide +kernel
theorem dX0_findAllLeft_32 : decode cX0_findAllLeft 32 = .ok (.aload_n 0, 1) := by decide +kernel
theorem dX0_findAllLeft_33 : decode cX0_findAllLeft 33 = .ok (.getfield 9, 3) := by decide +kernel
theorem dX0_findAllLeft_36 : decode cX0_findAllLeft 36 = .ok (.iload 5, 2) := by decide +kernel
theorem dX0_findAllLeft_38 : decode cX0_findAllLeft 38 = .ok (.iaload, 1) := by decide +kernel
theorem dX0_findAllLeft_39 : decode cX0_findAllLeft 39 = .ok (.invokestatic 179, 3) := by decide +kernel
theorem dX0_findAllLeft_42 : decode cX0_findAllLeft 42 = .ok (.lor, 1) := by decide +kernel
theorem dX0_findAllLeft_43 : decode cX0_findAllLeft 43 = .ok (.lstore_n 3, 1) := by decide +kernel
theorem dX0_findAllLeft_44 : decode cX0_findAllLeft 44 = .ok (.iinc 5 1, 3) := by decide +kernel
theorem dX0_findAllLeft_47 : decode cX0_findAllLeft 47 = .ok (.goto (-40), 3) := by decide +kernel
theorem dX0_findAllLeft_50 : decode cX0_findAllLeft 50 = .ok (.aload_n 0, 1) := by decide +kernel
theorem dX0_findAllLeft_51 : decode cX0_findAllLeft 51 = .ok (.getfield 54, 3) := by decide +kernel
theorem dX0_findAllLeft_54 : decode cX0_findAllLeft 54 = .ok (.bipush 14, 2) := by decide +kernel
theorem dX0_findAllLeft_56 : decode cX0_findAllLeft 56 = .ok (.lload_n 1, 1) := by decide +kernel
theorem dX0_findAllLeft_57 : decode cX0_findAllLeft 57 = .ok (.lastore, 1) := by decide +kernel
theorem dX0_findAllLeft_58 : decode cX0_findAllLeft 58 = .ok (.aload_n 0, 1) := by decide +kernel
theorem dX0_findAllLeft_59 : decode cX0_findAllLeft 59 = .ok (.getfield 57, 3) := by decide +kernel
theorem dX0_findAllLeft_62 : decode cX0_findAllLeft 62 = .ok (.bipush 14, 2) := by decide +kernel
theorem dX0_findAllLeft_64 : decode cX0_findAllLeft 64 = .ok (.lload_n 3, 1) := by decide +kernel
theorem dX0_findAllLeft_65 : decode cX0_findAllLeft 65 = .ok (.lastore, 1) := by decide +kernel
theorem dX0_findAllLeft_66 : decode cX0_findAllLeft 66 = .ok (.return_, 1) := by decide +kernel
theorem dX0_lowPart_0 : decode cX0_lowPart 0 = .ok (.iload_n 0, 1) := by decide +kernel
theorem dX0_lowPart_1 : decode cX0_lowPart 1 = .ok (.iconst 4, 1) := by decide +kernel
theorem dX0_lowPart_2 : decode cX0_lowPart 2 = .ok (.if_icmp .ge 13, 3) := by decide +kernel
theorem dX0_lowPart_5 : decode cX0_lowPart 5 = .ok (.iload_n 1, 1) := by decide +kernel
theorem dX0_lowPart_6 : decode cX0_lowPart 6 = .ok (.i2l, 1) := by decide +kernel
theorem dX0_lowPart_7 : decode cX0_lowPart 7 = .ok (.bipush 12, 2) := by decide +kernel
theorem dX0_lowPart_9 : decode cX0_lowPart 9 = .ok (.iload_n 0, 1) := by decide +kernel
theorem dX0_lowPart_10 : decode cX0_lowPart 10 = .ok (.imul, 1) := by decide +kernel
theorem dX0_lowPart_11 : decode cX0_lowPart 11 = .ok (.lshl, 1) := by decide +kernel
theorem dX0_lowPart_12 : decode cX0_lowPart 12 = .ok (.goto 4, 3) := by decide +kernel
theorem dX0_lowPart_15 : decode cX0_lowPart 15 = .ok (.lconst 0, 1) := by decide +kernel
theorem dX0_lowPart_16 : decode cX0_lowPart 16 = .ok (.lreturn, 1) := by decide +kernel
theorem dX0_highPart_0 : decode cX0_highPart 0 = .ok (.iload_n 0, 1) := by decide +kernel
theorem dX0_highPart_1 : decode cX0_highPart 1 = .ok (.iconst 4, 1) := by decide +kernel
theorem dX0_highPart_2 : decode cX0_highPart 2 = .ok (.if_icmp .lt 15, 3) := by decide +kernel
theorem dX0_highPart_5 : decode cX0_highPart 5 = .ok (.iload_n 1, 1) := by decide +kernel
theorem dX0_highPart_6 : decode cX0_highPart 6 = .ok (.i2l, 1) := by decide +kernel
theorem dX0_highPart_7 : decode cX0_highPart 7 = .ok (.bipush 12, 2) := by decide +kernel
theorem dX0_highPart_9 : decode cX0_highPart 9 = .ok (.iload_n 0, 1) := by decide +kernel
theorem dX0_highPart_10 : decode cX0_highPart 10 = .ok (.iconst 4, 1) := by decide +kernel
theorem dX0_highPart_11 : decode cX0_highPart 11 = .ok (.isub, 1) := by decide +kernel
theorem dX0_highPart_12 : decode cX0_highPart 12 = .ok (.imul, 1) := by decide +kernel
theorem dX0_highPart_13 : decode cX0_highPart 13 = .ok (.lshl, 1) := by decide +kernel
theorem dX0_highPart_14 : decode cX0_highPart 14 = .ok (.goto 4, 3) := by decide +kernel
theorem dX0_highPart_17 : decode cX0_highPart 17 = .ok (.lconst 0, 1) := by decide +kernel
theorem dX0_highPart_18 : decode cX0_highPart 18 = .ok (.lreturn, 1) := by decide +kernel
set_option maxRecDepth 20000 in
theorem ggX0_costWith_J13_bitCount_95d88 : GoodIn wsX0_costWith wsJ13_bitCount_95d88 := goodIn_r _ [6, 7, 8, 9] (by decide +kernel) (by decide +kernel)
set_option maxRecDepth 20000 in
theorem gX0_costWith_J13_bitCount_95d88 : GoodIn wsX0_costWith (va_wsS RX0 182 yJ13_bitCount_95d88 wsJ13_bitCount_95d88) := goodIn_app (goodIn_of _ (by decide +kernel)) ggX0_costWith_J13_bitCount_95d88
theorem dX0_costWith_0 : decode cX0_costWith 0 = .ok (.aload_n 0, 1) := by decide +kernel
theorem dX0_costWith_1 : decode cX0_costWith 1 = .ok (.getfield 19, 3) := by decide +kernel
theorem dX0_costWith_4 : decode cX0_costWith 4 = .ok (.iload_n 1, 1) := by decide +kernel
theorem dX0_costWith_5 : decode cX0_costWith 5 = .ok (.imul, 1) := by decide +kernel
theorem dX0_costWith_6 : decode cX0_costWith 6 = .ok (.aload_n 0, 1) := by decide +kernel
theorem dX0_costWith_7 : decode cX0_costWith 7 = .ok (.getfield 23, 3) := by decide +kernel
theorem dX0_costWith_10 : decode cX0_costWith 10 = .ok (.lload_n 2, 1) := by decide +kernel
theorem dX0_costWith_11 : decode cX0_costWith 11 = .ok (.invokestatic 182, 3) := by decide +kernel
theorem dX0_costWith_14 : decode cX0_costWith 14 = .ok (.lload 4, 2) := by decide +kernel
theorem dX0_costWith_16 : decode cX0_costWith 16 = .ok (.invokestatic 182, 3) := by decide +kernel
theorem dX0_costWith_19 : decode cX0_costWith 19 = .ok (.iadd, 1) := by decide +kernel
theorem dX0_costWith_20 : decode cX0_costWith 20 = .ok (.imul, 1) := by decide +kernel
theorem dX0_costWith_21 : decode cX0_costWith 21 = .ok (.iadd, 1) := by decide +kernel
theorem dX0_costWith_22 : decode cX0_costWith 22 = .ok (.ireturn, 1) := by decide +kernel
set_option maxRecDepth 20000 in
theorem ggX0_costOfChoice_X0_has : GoodIn wsX0_costOfChoice wsX0_has := goodIn_r _ [10] (by decide +kernel) (by decide +kernel)
set_option maxRecDepth 20000 in
theorem gX0_costOfChoice_X0_has : GoodIn wsX0_costOfChoice (va_wsS RX0 74 yX0_has wsX0_has) := goodIn_app (goodIn_of _ (by decide +kernel)) ggX0_costOfChoice_X0_has
set_option maxRecDepth 20000 in
theorem ggX0_costOfChoice_J6_bitCount_0f7a4 : GoodIn wsX0_costOfChoice wsJ6_bitCount_0f7a4 := goodIn_r _ [14, 15, 16, 17] (by decide +kernel) (by decide +kernel)
set_option maxRecDepth 20000 in
theorem gX0_costOfChoice_J6_bitCount_0f7a4 : GoodIn wsX0_costOfChoice (va_wsS RX0 92 yJ6_bitCount_0f7a4 wsJ6_bitCount_0f7a4) := goodIn_app (goodIn_of _ (by decide +kernel)) ggX0_costOfChoice_J6_bitCount_0f7a4
set_option maxRecDepth 20000 in
theorem ggX0_costOfChoice_X0_costWith : GoodIn wsX0_costOfChoice wsX0_costWith := goodIn_r _ [21, 22, 23, 24, 25, 26, 27, 28, 29, 30, 31, 32, 33, 34, 35, 36, 37, 38, 39, 40, 41, 42, 43, 44, 45, 46] (by decide +kernel) (by decide +kernel)
set_option maxRecDepth 20000 in
theorem gX0_costOfChoice_X0_costWith : GoodIn wsX0_costOfChoice (wsV RX0 134 RX0 yX0_costWith wsX0_costWith) := goodIn_app (goodIn_of _ (by decide +kernel)) ggX0_costOfChoice_X0_costWith
theorem dX0_costOfChoice_0 : decode cX0_costOfChoice 0 = .ok (.aload_n 0, 1) := by decide +kernel
theorem dX0_costOfChoice_1 : decode cX0_costOfChoice 1 = .ok (.getfield 54, 3) := by decide +kernel
theorem dX0_costOfChoice_4 : decode cX0_costOfChoice 4 = .ok (.bipush 14, 2) := by decide +kernel
theorem dX0_costOfChoice_6 : decode cX0_costOfChoice 6 = .ok (.laload, 1) := by decide +kernel
theorem dX0_costOfChoice_7 : decode cX0_costOfChoice 7 = .ok (.lstore_n 2, 1) := by decide +kernel
theorem dX0_costOfChoice_8 : decode cX0_costOfChoice 8 = .ok (.aload_n 0, 1) := by decide +kernel
theorem dX0_costOfChoice_9 : decode cX0_costOfChoice 9 = .ok (.getfield 57, 3) := by decide +kernel
theorem dX0_costOfChoice_12 : decode cX0_costOfChoice 12 = .ok (.bipush 14, 2) := by decide +kernel
theorem dX0_costOfChoice_14 : decode cX0_costOfChoice 14 = .ok (.laload, 1) := by decide +kernel
theorem dX0_costOfChoice_15 : decode cX0_costOfChoice 15 = .ok (.lstore 4, 2) := by decide +kernel
theorem dX0_costOfChoice_17 : decode cX0_costOfChoice 17 = .ok (.iconst 0, 1) := by decide +kernel
theorem dX0_costOfChoice_18 : decode cX0_costOfChoice 18 = .ok (.istore 6, 2) := by decide +kernel
theorem dX0_costOfChoice_20 : decode cX0_costOfChoice 20 = .ok (.iload 6, 2) := by decide +kernel
theorem dX0_costOfChoice_22 : decode cX0_costOfChoice 22 = .ok (.aload_n 0, 1) := by decide +kernel
theorem dX0_costOfChoice_23 : decode cX0_costOfChoice 23 = .ok (.getfield 44, 3) := by decide +kernel
theorem dX0_costOfChoice_26 : decode cX0_costOfChoice 26 = .ok (.if_icmp .ge 55, 3) := by decide +kernel
theorem dX0_costOfChoice_29 : decode cX0_costOfChoice 29 = .ok (.iload 6, 2) := by decide +kernel
theorem dX0_costOfChoice_31 : decode cX0_costOfChoice 31 = .ok (.bipush 14, 2) := by decide +kernel
theorem dX0_costOfChoice_33 : decode cX0_costOfChoice 33 = .ok (.if_icmp .ge 48, 3) := by decide +kernel
theorem dX0_costOfChoice_36 : decode cX0_costOfChoice 36 = .ok (.iload_n 1, 1) := by decide +kernel
theorem dX0_costOfChoice_37 : decode cX0_costOfChoice 37 = .ok (.iload 6, 2) := by decide +kernel
theorem dX0_costOfChoice_39 : decode cX0_costOfChoice 39 = .ok (.invokestatic 74, 3) := by decide +kernel
theorem dX0_costOfChoice_42 : decode cX0_costOfChoice 42 = .ok (.ifCond .eq 33, 3) := by decide +kernel
theorem dX0_costOfChoice_45 : decode cX0_costOfChoice 45 = .ok (.lload_n 2, 1) := by decide +kernel
theorem dX0_costOfChoice_46 : decode cX0_costOfChoice 46 = .ok (.aload_n 0, 1) := by decide +kernel
theorem dX0_costOfChoice_47 : decode cX0_costOfChoice 47 = .ok (.getfield 47, 3) := by decide +kernel
theorem dX0_costOfChoice_50 : decode cX0_costOfChoice 50 = .ok (.iload 6, 2) := by decide +kernel
theorem dX0_costOfChoice_52 : decode cX0_costOfChoice 52 = .ok (.laload, 1) := by decide +kernel
theorem dX0_costOfChoice_53 : decode cX0_costOfChoice 53 = .ok (.ldc2_w 132, 3) := by decide +kernel
theorem dX0_costOfChoice_56 : decode cX0_costOfChoice 56 = .ok (.lxor, 1) := by decide +kernel
theorem dX0_costOfChoice_57 : decode cX0_costOfChoice 57 = .ok (.land, 1) := by decide +kernel
theorem dX0_costOfChoice_58 : decode cX0_costOfChoice 58 = .ok (.lstore_n 2, 1) := by decide +kernel
theorem dX0_costOfChoice_59 : decode cX0_costOfChoice 59 = .ok (.lload 4, 2) := by decide +kernel
theorem dX0_costOfChoice_61 : decode cX0_costOfChoice 61 = .ok (.aload_n 0, 1) := by decide +kernel
theorem dX0_costOfChoice_62 : decode cX0_costOfChoice 62 = .ok (.getfield 51, 3) := by decide +kernel
theorem dX0_costOfChoice_65 : decode cX0_costOfChoice 65 = .ok (.iload 6, 2) := by decide +kernel
theorem dX0_costOfChoice_67 : decode cX0_costOfChoice 67 = .ok (.laload, 1) := by decide +kernel
theorem dX0_costOfChoice_68 : decode cX0_costOfChoice 68 = .ok (.ldc2_w 132, 3) := by decide +kernel
theorem dX0_costOfChoice_71 : decode cX0_costOfChoice 71 = .ok (.lxor, 1) := by decide +kernel
theorem dX0_costOfChoice_72 : decode cX0_costOfChoice 72 = .ok (.land, 1) := by decide +kernel
theorem dX0_costOfChoice_73 : decode cX0_costOfChoice 73 = .ok (.lstore 4, 2) := by decide +kernel
theorem dX0_costOfChoice_75 : decode cX0_costOfChoice 75 = .ok (.iinc 6 1, 3) := by decide +kernel
theorem dX0_costOfChoice_78 : decode cX0_costOfChoice 78 = .ok (.goto (-58), 3) := by decide +kernel
theorem dX0_costOfChoice_81 : decode cX0_costOfChoice 81 = .ok (.aload_n 0, 1) := by decide +kernel
theorem dX0_costOfChoice_82 : decode cX0_costOfChoice 82 = .ok (.iload_n 1, 1) := by decide +kernel
theorem dX0_costOfChoice_83 : decode cX0_costOfChoice 83 = .ok (.invokestatic 92, 3) := by decide +kernel
theorem dX0_costOfChoice_86 : decode cX0_costOfChoice 86 = .ok (.lload_n 2, 1) := by decide +kernel
theorem dX0_costOfChoice_87 : decode cX0_costOfChoice 87 = .ok (.lload 4, 2) := by decide +kernel
theorem dX0_costOfChoice_89 : decode cX0_costOfChoice 89 = .ok (.invokevirtual 134, 3) := by decide +kernel
theorem dX0_costOfChoice_92 : decode cX0_costOfChoice 92 = .ok (.ireturn, 1) := by decide +kernel
set_option maxRecDepth 20000 in
theorem ggX0_mostSavingCandidate_J13_bitCount_95d88 : GoodIn wsX0_mostSavingCandidate wsJ13_bitCount_95d88 := goodIn_r _ [9, 10, 11, 12] (by decide +kernel) (by decide +kernel)
set_option maxRecDepth 20000 in
theorem gX0_mostSavingCandidate_J13_bitCount_95d88 : GoodIn wsX0_mostSavingCandidate (va_wsS RX0 182 yJ13_bitCount_95d88 wsJ13_bitCount_95d88) := goodIn_app (goodIn_of _ (by decide +kernel)) ggX0_mostSavingCandidate_J13_bitCount_95d88
theorem dX0_mostSavingCandidate_0 : decode cX0_mostSavingCandidate 0 = .ok (.iconst (-1), 1) := by decide +kernel
theorem dX0_mostSavingCandidate_1 : decode cX0_mostSavingCandidate 1 = .ok (.istore 5, 2) := by decide +kernel
theorem dX0_mostSavingCandidate_3 : decode cX0_mostSavingCandidate 3 = .ok (.iconst 0, 1) := by decide +kernel
theorem dX0_mostSavingCandidate_4 : decode cX0_mostSavingCandidate 4 = .ok (.istore 6, 2) := by decide +kernel
theorem dX0_mostSavingCandidate_6 : decode cX0_mostSavingCandidate 6 = .ok (.iconst 0, 1) := by decide +kernel
theorem dX0_mostSavingCandidate_7 : decode cX0_mostSavingCandidate 7 = .ok (.istore 7, 2) := by decide +kernel
theorem dX0_mostSavingCandidate_9 : decode cX0_mostSavingCandidate 9 = .ok (.iload 7, 2) := by decide +kernel
theorem dX0_mostSavingCandidate_11 : decode cX0_mostSavingCandidate 11 = .ok (.aload_n 0, 1) := by decide +kernel
theorem dX0_mostSavingCandidate_12 : decode cX0_mostSavingCandidate 12 = .ok (.getfield 44, 3) := by decide +kernel
theorem dX0_mostSavingCandidate_15 : decode cX0_mostSavingCandidate 15 = .ok (.if_icmp .ge 65, 3) := by decide +kernel
theorem dX0_mostSavingCandidate_18 : decode cX0_mostSavingCandidate 18 = .ok (.lload_n 1, 1) := by decide +kernel
theorem dX0_mostSavingCandidate_19 : decode cX0_mostSavingCandidate 19 = .ok (.aload_n 0, 1) := by decide +kernel
theorem dX0_mostSavingCandidate_20 : decode cX0_mostSavingCandidate 20 = .ok (.getfield 47, 3) := by decide +kernel
theorem dX0_mostSavingCandidate_23 : decode cX0_mostSavingCandidate 23 = .ok (.iload 7, 2) := by decide +kernel
theorem dX0_mostSavingCandidate_25 : decode cX0_mostSavingCandidate 25 = .ok (.laload, 1) := by decide +kernel
theorem dX0_mostSavingCandidate_26 : decode cX0_mostSavingCandidate 26 = .ok (.land, 1) := by decide +kernel
theorem dX0_mostSavingCandidate_27 : decode cX0_mostSavingCandidate 27 = .ok (.invokestatic 182, 3) := by decide +kernel
theorem dX0_mostSavingCandidate_30 : decode cX0_mostSavingCandidate 30 = .ok (.lload_n 3, 1) := by decide +kernel
theorem dX0_mostSavingCandidate_31 : decode cX0_mostSavingCandidate 31 = .ok (.aload_n 0, 1) := by decide +kernel
theorem dX0_mostSavingCandidate_32 : decode cX0_mostSavingCandidate 32 = .ok (.getfield 51, 3) := by decide +kernel
theorem dX0_mostSavingCandidate_35 : decode cX0_mostSavingCandidate 35 = .ok (.iload 7, 2) := by decide +kernel
theorem dX0_mostSavingCandidate_37 : decode cX0_mostSavingCandidate 37 = .ok (.laload, 1) := by decide +kernel
theorem dX0_mostSavingCandidate_38 : decode cX0_mostSavingCandidate 38 = .ok (.land, 1) := by decide +kernel
theorem dX0_mostSavingCandidate_39 : decode cX0_mostSavingCandidate 39 = .ok (.invokestatic 182, 3) := by decide +kernel
theorem dX0_mostSavingCandidate_42 : decode cX0_mostSavingCandidate 42 = .ok (.iadd, 1) := by decide +kernel
theorem dX0_mostSavingCandidate_43 : decode cX0_mostSavingCandidate 43 = .ok (.istore 8, 2) := by decide +kernel
theorem dX0_mostSavingCandidate_45 : decode cX0_mostSavingCandidate 45 = .ok (.aload_n 0, 1) := by decide +kernel
theorem dX0_mostSavingCandidate_46 : decode cX0_mostSavingCandidate 46 = .ok (.getfield 23, 3) := by decide +kernel
theorem dX0_mostSavingCandidate_49 : decode cX0_mostSavingCandidate 49 = .ok (.iload 8, 2) := by decide +kernel
theorem dX0_mostSavingCandidate_51 : decode cX0_mostSavingCandidate 51 = .ok (.imul, 1) := by decide +kernel
theorem dX0_mostSavingCandidate_52 : decode cX0_mostSavingCandidate 52 = .ok (.aload_n 0, 1) := by decide +kernel
theorem dX0_mostSavingCandidate_53 : decode cX0_mostSavingCandidate 53 = .ok (.getfield 19, 3) := by decide +kernel
theorem dX0_mostSavingCandidate_56 : decode cX0_mostSavingCandidate 56 = .ok (.isub, 1) := by decide +kernel
theorem dX0_mostSavingCandidate_57 : decode cX0_mostSavingCandidate 57 = .ok (.istore 9, 2) := by decide +kernel
theorem dX0_mostSavingCandidate_59 : decode cX0_mostSavingCandidate 59 = .ok (.iload 9, 2) := by decide +kernel
theorem dX0_mostSavingCandidate_61 : decode cX0_mostSavingCandidate 61 = .ok (.iload 6, 2) := by decide +kernel
theorem dX0_mostSavingCandidate_63 : decode cX0_mostSavingCandidate 63 = .ok (.if_icmp .le 11, 3) := by decide +kernel
theorem dX0_mostSavingCandidate_66 : decode cX0_mostSavingCandidate 66 = .ok (.iload 7, 2) := by decide +kernel
theorem dX0_mostSavingCandidate_68 : decode cX0_mostSavingCandidate 68 = .ok (.istore 5, 2) := by decide +kernel
theorem dX0_mostSavingCandidate_70 : decode cX0_mostSavingCandidate 70 = .ok (.iload 9, 2) := by decide +kernel
theorem dX0_mostSavingCandidate_72 : decode cX0_mostSavingCandidate 72 = .ok (.istore 6, 2) := by decide +kernel
theorem dX0_mostSavingCandidate_74 : decode cX0_mostSavingCandidate 74 = .ok (.iinc 7 1, 3) := by decide +kernel
theorem dX0_mostSavingCandidate_77 : decode cX0_mostSavingCandidate 77 = .ok (.goto (-68), 3) := by decide +kernel
theorem dX0_mostSavingCandidate_80 : decode cX0_mostSavingCandidate 80 = .ok (.iload 5, 2) := by decide +kernel
theorem dX0_mostSavingCandidate_82 : decode cX0_mostSavingCandidate 82 = .ok (.ireturn, 1) := by decide +kernel
set_option maxRecDepth 20000 in
theorem ggX0_bestChoice_X0_costOfChoice : GoodIn wsX0_bestChoice wsX0_costOfChoice := goodIn_r _ [15, 6, 9, 1, 7, 8, 10, 16, 17, 14, 18, 19, 20, 21, 22, 23, 24, 25, 26, 27, 28, 29, 30, 31, 32, 33, 34, 35, 36, 37, 38, 49, 50, 51, 52, 53, 54, 55, 56, 57, 58, 59, 60, 61, 62, 63, 64] (by decide +kernel) (by decide +kernel)
set_option maxRecDepth 20000 in
theorem gX0_bestChoice_X0_costOfChoice : GoodIn wsX0_bestChoice (wsV RX0 144 RX0 yX0_costOfChoice wsX0_costOfChoice) := goodIn_app (goodIn_of _ (by decide +kernel)) ggX0_bestChoice_X0_costOfChoice
set_option maxRecDepth 20000 in
theorem ggX0_bestChoice_J6_numberOfTrailingZeros_0f7a4 : GoodIn wsX0_bestChoice wsJ6_numberOfTrailingZeros_0f7a4 := goodIn_r _ [41, 42] (by decide +kernel) (by decide +kernel)
set_option maxRecDepth 20000 in
theorem gX0_bestChoice_J6_numberOfTrailingZeros_0f7a4 : GoodIn wsX0_bestChoice (va_wsS RX0 192 yJ6_numberOfTrailingZeros_0f7a4 wsJ6_numberOfTrailingZeros_0f7a4) := goodIn_app (goodIn_of _ (by decide +kernel)) ggX0_bestChoice_J6_numberOfTrailingZeros_0f7a4
set_option maxRecDepth 20000 in
theorem ggX0_bestChoice_J6_bitCount_0f7a4 : GoodIn wsX0_bestChoice wsJ6_bitCount_0f7a4 := goodIn_r _ [22, 23, 24, 25] (by decide +kernel) (by decide +kernel)
set_option maxRecDepth 20000 in
theorem gX0_bestChoice_J6_bitCount_0f7a4 : GoodIn wsX0_bestChoice (va_wsS RX0 92 yJ6_bitCount_0f7a4 wsJ6_bitCount_0f7a4) := goodIn_app (goodIn_of _ (by decide +kernel)) ggX0_bestChoice_J6_bitCount_0f7a4
set_option maxRecDepth 20000 in
theorem ggX0_bestChoice_X0_costWith : GoodIn wsX0_bestChoice wsX0_costWith := goodIn_r _ [29, 30, 31, 32, 33, 34, 35, 36, 37, 38, 49, 50, 51, 52, 53, 54, 55, 56, 57, 58, 59, 60, 61, 62, 63, 64] (by decide +kernel) (by decide +kernel)
set_option maxRecDepth 20000 in
theorem gX0_bestChoice_X0_costWith : GoodIn wsX0_bestChoice (wsV RX0 134 RX0 yX0_costWith wsX0_costWith) := goodIn_app (goodIn_of _ (by decide +kernel)) ggX0_bestChoice_X0_costWith
set_option maxRecDepth 20000 in
theorem ggX0_bestChoice_X0_comesBefore : GoodIn wsX0_bestChoice wsX0_comesBefore := goodIn_r _ [45, 19, 20, 21, 22, 23, 24, 25, 46, 47, 48] (by decide +kernel) (by decide +kernel)
set_option maxRecDepth 20000 in
theorem gX0_bestChoice_X0_comesBefore : GoodIn wsX0_bestChoice (va_wsS RX0 195 yX0_comesBefore wsX0_comesBefore) := goodIn_app (goodIn_of _ (by decide +kernel)) ggX0_bestChoice_X0_comesBefore
theorem dX0_bestChoice_0 : decode cX0_bestChoice 0 = .ok (.iconst 1, 1) := by decide +kernel
theorem dX0_bestChoice_1 : decode cX0_bestChoice 1 = .ok (.aload_n 0, 1) := by decide +kernel
theorem dX0_bestChoice_2 : decode cX0_bestChoice 2 = .ok (.getfield 44, 3) := by decide +kernel
theorem dX0_bestChoice_5 : decode cX0_bestChoice 5 = .ok (.bipush 14, 2) := by decide +kernel
theorem dX0_bestChoice_7 : decode cX0_bestChoice 7 = .ok (.invokestatic 187, 3) := by decide +kernel
theorem dX0_bestChoice_10 : decode cX0_bestChoice 10 = .ok (.ishl, 1) := by decide +kernel
theorem dX0_bestChoice_11 : decode cX0_bestChoice 11 = .ok (.istore_n 1, 1) := by decide +kernel
theorem dX0_bestChoice_12 : decode cX0_bestChoice 12 = .ok (.iconst 0, 1) := by decide +kernel
theorem dX0_bestChoice_13 : decode cX0_bestChoice 13 = .ok (.istore_n 2, 1) := by decide +kernel
theorem dX0_bestChoice_14 : decode cX0_bestChoice 14 = .ok (.aload_n 0, 1) := by decide +kernel
theorem dX0_bestChoice_15 : decode cX0_bestChoice 15 = .ok (.iconst 0, 1) := by decide +kernel
theorem dX0_bestChoice_16 : decode cX0_bestChoice 16 = .ok (.invokevirtual 144, 3) := by decide +kernel
theorem dX0_bestChoice_19 : decode cX0_bestChoice 19 = .ok (.istore_n 3, 1) := by decide +kernel
theorem dX0_bestChoice_20 : decode cX0_bestChoice 20 = .ok (.iconst 1, 1) := by decide +kernel
theorem dX0_bestChoice_21 : decode cX0_bestChoice 21 = .ok (.istore 4, 2) := by decide +kernel
theorem dX0_bestChoice_23 : decode cX0_bestChoice 23 = .ok (.iload 4, 2) := by decide +kernel
theorem dX0_bestChoice_25 : decode cX0_bestChoice 25 = .ok (.iload_n 1, 1) := by decide +kernel
theorem dX0_bestChoice_26 : decode cX0_bestChoice 26 = .ok (.if_icmp .ge 142, 3) := by decide +kernel
theorem dX0_bestChoice_29 : decode cX0_bestChoice 29 = .ok (.iload 4, 2) := by decide +kernel
theorem dX0_bestChoice_31 : decode cX0_bestChoice 31 = .ok (.invokestatic 192, 3) := by decide +kernel
theorem dX0_bestChoice_34 : decode cX0_bestChoice 34 = .ok (.bipush 13, 2) := by decide +kernel
theorem dX0_bestChoice_36 : decode cX0_bestChoice 36 = .ok (.invokestatic 187, 3) := by decide +kernel
theorem dX0_bestChoice_39 : decode cX0_bestChoice 39 = .ok (.istore 5, 2) := by decide +kernel
theorem dX0_bestChoice_41 : decode cX0_bestChoice 41 = .ok (.iload 4, 2) := by decide +kernel
theorem dX0_bestChoice_43 : decode cX0_bestChoice 43 = .ok (.iload 4, 2) := by decide +kernel
theorem dX0_bestChoice_45 : decode cX0_bestChoice 45 = .ok (.iconst 1, 1) := by decide +kernel
theorem dX0_bestChoice_46 : decode cX0_bestChoice 46 = .ok (.isub, 1) := by decide +kernel
theorem dX0_bestChoice_47 : decode cX0_bestChoice 47 = .ok (.iand, 1) := by decide +kernel
theorem dX0_bestChoice_48 : decode cX0_bestChoice 48 = .ok (.invokestatic 192, 3) := by decide +kernel
theorem dX0_bestChoice_51 : decode cX0_bestChoice 51 = .ok (.bipush 14, 2) := by decide +kernel
theorem dX0_bestChoice_53 : decode cX0_bestChoice 53 = .ok (.invokestatic 187, 3) := by decide +kernel
theorem dX0_bestChoice_56 : decode cX0_bestChoice 56 = .ok (.istore 6, 2) := by decide +kernel
theorem dX0_bestChoice_58 : decode cX0_bestChoice 58 = .ok (.aload_n 0, 1) := by decide +kernel
theorem dX0_bestChoice_59 : decode cX0_bestChoice 59 = .ok (.getfield 54, 3) := by decide +kernel
theorem dX0_bestChoice_62 : decode cX0_bestChoice 62 = .ok (.iload 5, 2) := by decide +kernel
theorem dX0_bestChoice_64 : decode cX0_bestChoice 64 = .ok (.aload_n 0, 1) := by decide +kernel
theorem dX0_bestChoice_65 : decode cX0_bestChoice 65 = .ok (.getfield 54, 3) := by decide +kernel
theorem dX0_bestChoice_68 : decode cX0_bestChoice 68 = .ok (.iload 6, 2) := by decide +kernel
theorem dX0_bestChoice_70 : decode cX0_bestChoice 70 = .ok (.laload, 1) := by decide +kernel
theorem dX0_bestChoice_71 : decode cX0_bestChoice 71 = .ok (.aload_n 0, 1) := by decide +kernel
theorem dX0_bestChoice_72 : decode cX0_bestChoice 72 = .ok (.getfield 47, 3) := by decide +kernel
theorem dX0_bestChoice_75 : decode cX0_bestChoice 75 = .ok (.iload 5, 2) := by decide +kernel
theorem dX0_bestChoice_77 : decode cX0_bestChoice 77 = .ok (.laload, 1) := by decide +kernel
theorem dX0_bestChoice_78 : decode cX0_bestChoice 78 = .ok (.ldc2_w 132, 3) := by decide +kernel
theorem dX0_bestChoice_81 : decode cX0_bestChoice 81 = .ok (.lxor, 1) := by decide +kernel
theorem dX0_bestChoice_82 : decode cX0_bestChoice 82 = .ok (.land, 1) := by decide +kernel
theorem dX0_bestChoice_83 : decode cX0_bestChoice 83 = .ok (.lastore, 1) := by decide +kernel
theorem dX0_bestChoice_84 : decode cX0_bestChoice 84 = .ok (.aload_n 0, 1) := by decide +kernel
theorem dX0_bestChoice_85 : decode cX0_bestChoice 85 = .ok (.getfield 57, 3) := by decide +kernel
theorem dX0_bestChoice_88 : decode cX0_bestChoice 88 = .ok (.iload 5, 2) := by decide +kernel
theorem dX0_bestChoice_90 : decode cX0_bestChoice 90 = .ok (.aload_n 0, 1) := by decide +kernel
theorem dX0_bestChoice_91 : decode cX0_bestChoice 91 = .ok (.getfield 57, 3) := by decide +kernel
theorem dX0_bestChoice_94 : decode cX0_bestChoice 94 = .ok (.iload 6, 2) := by decide +kernel
theorem dX0_bestChoice_96 : decode cX0_bestChoice 96 = .ok (.laload, 1) := by decide +kernel
theorem dX0_bestChoice_97 : decode cX0_bestChoice 97 = .ok (.aload_n 0, 1) := by decide +kernel
theorem dX0_bestChoice_98 : decode cX0_bestChoice 98 = .ok (.getfield 51, 3) := by decide +kernel
theorem dX0_bestChoice_101 : decode cX0_bestChoice 101 = .ok (.iload 5, 2) := by decide +kernel
theorem dX0_bestChoice_103 : decode cX0_bestChoice 103 = .ok (.laload, 1) := by decide +kernel
theorem dX0_bestChoice_104 : decode cX0_bestChoice 104 = .ok (.ldc2_w 132, 3) := by decide +kernel
theorem dX0_bestChoice_107 : decode cX0_bestChoice 107 = .ok (.lxor, 1) := by decide +kernel
theorem dX0_bestChoice_108 : decode cX0_bestChoice 108 = .ok (.land, 1) := by decide +kernel
theorem dX0_bestChoice_109 : decode cX0_bestChoice 109 = .ok (.lastore, 1) := by decide +kernel
theorem dX0_bestChoice_110 : decode cX0_bestChoice 110 = .ok (.aload_n 0, 1) := by decide +kernel
theorem dX0_bestChoice_111 : decode cX0_bestChoice 111 = .ok (.iload 4, 2) := by decide +kernel
theorem dX0_bestChoice_113 : decode cX0_bestChoice 113 = .ok (.invokestatic 92, 3) := by decide +kernel
theorem dX0_bestChoice_116 : decode cX0_bestChoice 116 = .ok (.aload_n 0, 1) := by decide +kernel
theorem dX0_bestChoice_117 : decode cX0_bestChoice 117 = .ok (.getfield 54, 3) := by decide +kernel
theorem dX0_bestChoice_120 : decode cX0_bestChoice 120 = .ok (.iload 5, 2) := by decide +kernel
theorem dX0_bestChoice_122 : decode cX0_bestChoice 122 = .ok (.laload, 1) := by decide +kernel
theorem dX0_bestChoice_123 : decode cX0_bestChoice 123 = .ok (.aload_n 0, 1) := by decide +kernel
theorem dX0_bestChoice_124 : decode cX0_bestChoice 124 = .ok (.getfield 57, 3) := by decide +kernel
theorem dX0_bestChoice_127 : decode cX0_bestChoice 127 = .ok (.iload 5, 2) := by decide +kernel
theorem dX0_bestChoice_129 : decode cX0_bestChoice 129 = .ok (.laload, 1) := by decide +kernel
theorem dX0_bestChoice_130 : decode cX0_bestChoice 130 = .ok (.invokevirtual 134, 3) := by decide +kernel
theorem dX0_bestChoice_133 : decode cX0_bestChoice 133 = .ok (.istore 7, 2) := by decide +kernel
theorem dX0_bestChoice_135 : decode cX0_bestChoice 135 = .ok (.iload 7, 2) := by decide +kernel
theorem dX0_bestChoice_137 : decode cX0_bestChoice 137 = .ok (.iload_n 3, 1) := by decide +kernel
theorem dX0_bestChoice_138 : decode cX0_bestChoice 138 = .ok (.if_icmp .lt 18, 3) := by decide +kernel
theorem dX0_bestChoice_141 : decode cX0_bestChoice 141 = .ok (.iload 7, 2) := by decide +kernel
theorem dX0_bestChoice_143 : decode cX0_bestChoice 143 = .ok (.iload_n 3, 1) := by decide +kernel
theorem dX0_bestChoice_144 : decode cX0_bestChoice 144 = .ok (.if_icmp .ne 18, 3) := by decide +kernel
theorem dX0_bestChoice_147 : decode cX0_bestChoice 147 = .ok (.iload 4, 2) := by decide +kernel
theorem dX0_bestChoice_149 : decode cX0_bestChoice 149 = .ok (.iload_n 2, 1) := by decide +kernel
theorem dX0_bestChoice_150 : decode cX0_bestChoice 150 = .ok (.invokestatic 195, 3) := by decide +kernel
theorem dX0_bestChoice_153 : decode cX0_bestChoice 153 = .ok (.ifCond .eq 9, 3) := by decide +kernel
theorem dX0_bestChoice_156 : decode cX0_bestChoice 156 = .ok (.iload 4, 2) := by decide +kernel
theorem dX0_bestChoice_158 : decode cX0_bestChoice 158 = .ok (.istore_n 2, 1) := by decide +kernel
theorem dX0_bestChoice_159 : decode cX0_bestChoice 159 = .ok (.iload 7, 2) := by decide +kernel
theorem dX0_bestChoice_161 : decode cX0_bestChoice 161 = .ok (.istore_n 3, 1) := by decide +kernel
theorem dX0_bestChoice_162 : decode cX0_bestChoice 162 = .ok (.iinc 4 1, 3) := by decide +kernel
theorem dX0_bestChoice_165 : decode cX0_bestChoice 165 = .ok (.goto (-142), 3) := by decide +kernel
theorem dX0_bestChoice_168 : decode cX0_bestChoice 168 = .ok (.iload_n 2, 1) := by decide +kernel
theorem dX0_bestChoice_169 : decode cX0_bestChoice 169 = .ok (.ireturn, 1) := by decide +kernel
set_option maxRecDepth 20000 in
theorem ggX0_comesBefore_J6_bitCount_0f7a4 : GoodIn wsX0_comesBefore wsJ6_bitCount_0f7a4 := goodIn_r _ [4, 5, 6, 7] (by decide +kernel) (by decide +kernel)
set_option maxRecDepth 20000 in
theorem gX0_comesBefore_J6_bitCount_0f7a4 : GoodIn wsX0_comesBefore (va_wsS RX0 92 yJ6_bitCount_0f7a4 wsJ6_bitCount_0f7a4) := goodIn_app (goodIn_of _ (by decide +kernel)) ggX0_comesBefore_J6_bitCount_0f7a4
set_option maxRecDepth 20000 in
theorem ggX0_comesBefore_J6_lowestOneBit_0f7a4 : GoodIn wsX0_comesBefore wsJ6_lowestOneBit_0f7a4 := goodIn_r _ [10] (by decide +kernel) (by decide +kernel)
set_option maxRecDepth 20000 in
theorem gX0_comesBefore_J6_lowestOneBit_0f7a4 : GoodIn wsX0_comesBefore (va_wsS RX0 198 yJ6_lowestOneBit_0f7a4 wsJ6_lowestOneBit_0f7a4) := goodIn_app (goodIn_of _ (by decide +kernel)) ggX0_comesBefore_J6_lowestOneBit_0f7a4
theorem dX0_comesBefore_0 : decode cX0_comesBefore 0 = .ok (.iload_n 1, 1) := by decide +kernel
theorem dX0_comesBefore_1 : decode cX0_comesBefore 1 = .ok (.invokestatic 92, 3) := by decide +kernel
theorem dX0_comesBefore_4 : decode cX0_comesBefore 4 = .ok (.iload_n 0, 1) := by decide +kernel
theorem dX0_comesBefore_5 : decode cX0_comesBefore 5 = .ok (.invokestatic 92, 3) := by decide +kernel
theorem dX0_comesBefore_8 : decode cX0_comesBefore 8 = .ok (.isub, 1) := by decide +kernel
theorem dX0_comesBefore_9 : decode cX0_comesBefore 9 = .ok (.istore_n 2, 1) := by decide +kernel
theorem dX0_comesBefore_10 : decode cX0_comesBefore 10 = .ok (.iload_n 2, 1) := by decide +kernel
theorem dX0_comesBefore_11 : decode cX0_comesBefore 11 = .ok (.ifCond .eq 13, 3) := by decide +kernel
theorem dX0_comesBefore_14 : decode cX0_comesBefore 14 = .ok (.iload_n 2, 1) := by decide +kernel
theorem dX0_comesBefore_15 : decode cX0_comesBefore 15 = .ok (.ifCond .le 7, 3) := by decide +kernel
theorem dX0_comesBefore_18 : decode cX0_comesBefore 18 = .ok (.iconst 1, 1) := by decide +kernel
theorem dX0_comesBefore_19 : decode cX0_comesBefore 19 = .ok (.goto 4, 3) := by decide +kernel
theorem dX0_comesBefore_22 : decode cX0_comesBefore 22 = .ok (.iconst 0, 1) := by decide +kernel
theorem dX0_comesBefore_23 : decode cX0_comesBefore 23 = .ok (.ireturn, 1) := by decide +kernel
theorem dX0_comesBefore_24 : decode cX0_comesBefore 24 = .ok (.iload_n 0, 1) := by decide +kernel
theorem dX0_comesBefore_25 : decode cX0_comesBefore 25 = .ok (.iload_n 1, 1) := by decide +kernel
theorem dX0_comesBefore_26 : decode cX0_comesBefore 26 = .ok (.ixor, 1) := by decide +kernel
theorem dX0_comesBefore_27 : decode cX0_comesBefore 27 = .ok (.istore_n 3, 1) := by decide +kernel
theorem dX0_comesBefore_28 : decode cX0_comesBefore 28 = .ok (.iload_n 3, 1) := by decide +kernel
theorem dX0_comesBefore_29 : decode cX0_comesBefore 29 = .ok (.invokestatic 198, 3) := by decide +kernel
theorem dX0_comesBefore_32 : decode cX0_comesBefore 32 = .ok (.iload_n 0, 1) := by decide +kernel
theorem dX0_comesBefore_33 : decode cX0_comesBefore 33 = .ok (.iand, 1) := by decide +kernel
theorem dX0_comesBefore_34 : decode cX0_comesBefore 34 = .ok (.ifCond .eq 7, 3) := by decide +kernel
theorem dX0_comesBefore_37 : decode cX0_comesBefore 37 = .ok (.iconst 1, 1) := by decide +kernel
theorem dX0_comesBefore_38 : decode cX0_comesBefore 38 = .ok (.goto 4, 3) := by decide +kernel
theorem dX0_comesBefore_41 : decode cX0_comesBefore 41 = .ok (.iconst 0, 1) := by decide +kernel
theorem dX0_comesBefore_42 : decode cX0_comesBefore 42 = .ok (.ireturn, 1) := by decide +kernel
end
section
theorem dX1_init_0 : decode cX1_init 0 = .ok (.aload_n 0, 1) := by decide +kernel
theorem dX1_init_1 : decode cX1_init 1 = .ok (.invokespecial 1, 3) := by decide +kernel
theorem dX1_init_4 : decode cX1_init 4 = .ok (.aload_n 0, 1) := by decide +kernel
theorem dX1_init_5 : decode cX1_init 5 = .ok (.bipush 8, 2) := by decide +kernel
theorem dX1_init_7 : decode cX1_init 7 = .ok (.newarray .int, 2) := by decide +kernel
theorem dX1_init_9 : decode cX1_init 9 = .ok (.putfield 7, 3) := by decide +kernel
theorem dX1_init_12 : decode cX1_init 12 = .ok (.aload_n 0, 1) := by decide +kernel
theorem dX1_init_13 : decode cX1_init 13 = .ok (.bipush 96, 2) := by decide +kernel
theorem dX1_init_15 : decode cX1_init 15 = .ok (.newarray .int, 2) := by decide +kernel
theorem dX1_init_17 : decode cX1_init 17 = .ok (.putfield 13, 3) := by decide +kernel
theorem dX1_init_20 : decode cX1_init 20 = .ok (.aload_n 0, 1) := by decide +kernel
theorem dX1_init_21 : decode cX1_init 21 = .ok (.bipush 12, 2) := by decide +kernel
theorem dX1_init_23 : decode cX1_init 23 = .ok (.newarray .int, 2) := by decide +kernel
theorem dX1_init_25 : decode cX1_init 25 = .ok (.putfield 16, 3) := by decide +kernel
theorem dX1_init_28 : decode cX1_init 28 = .ok (.aload_n 0, 1) := by decide +kernel
theorem dX1_init_29 : decode cX1_init 29 = .ok (.sipush 256, 3) := by decide +kernel
theorem dX1_init_32 : decode cX1_init 32 = .ok (.newarray .int, 2) := by decide +kernel
theorem dX1_init_34 : decode cX1_init 34 = .ok (.putfield 19, 3) := by decide +kernel
theorem dX1_init_37 : decode cX1_init 37 = .ok (.aload_n 0, 1) := by decide +kernel
theorem dX1_init_38 : decode cX1_init 38 = .ok (.sipush 256, 3) := by decide +kernel
theorem dX1_init_41 : decode cX1_init 41 = .ok (.newarray .int, 2) := by decide +kernel
theorem dX1_init_43 : decode cX1_init 43 = .ok (.putfield 22, 3) := by decide +kernel
theorem dX1_init_46 : decode cX1_init 46 = .ok (.aload_n 0, 1) := by decide +kernel
theorem dX1_init_47 : decode cX1_init 47 = .ok (.sipush 4096, 3) := by decide +kernel
theorem dX1_init_50 : decode cX1_init 50 = .ok (.newarray .int, 2) := by decide +kernel
theorem dX1_init_52 : decode cX1_init 52 = .ok (.putfield 25, 3) := by decide +kernel
theorem dX1_init_55 : decode cX1_init 55 = .ok (.aload_n 0, 1) := by decide +kernel
theorem dX1_init_56 : decode cX1_init 56 = .ok (.bipush 8, 2) := by decide +kernel
theorem dX1_init_58 : decode cX1_init 58 = .ok (.newarray .int, 2) := by decide +kernel
theorem dX1_init_60 : decode cX1_init 60 = .ok (.putfield 28, 3) := by decide +kernel
theorem dX1_init_63 : decode cX1_init 63 = .ok (.aload_n 0, 1) := by decide +kernel
theorem dX1_init_64 : decode cX1_init 64 = .ok (.sipush 256, 3) := by decide +kernel
theorem dX1_init_67 : decode cX1_init 67 = .ok (.newarray .int, 2) := by decide +kernel
theorem dX1_init_69 : decode cX1_init 69 = .ok (.putfield 31, 3) := by decide +kernel
theorem dX1_init_72 : decode cX1_init 72 = .ok (.aload_n 0, 1) := by decide +kernel
theorem dX1_init_73 : decode cX1_init 73 = .ok (.iconst 5, 1) := by decide +kernel
theorem dX1_init_74 : decode cX1_init 74 = .ok (.putfield 34, 3) := by decide +kernel
theorem dX1_init_77 : decode cX1_init 77 = .ok (.aload_n 0, 1) := by decide +kernel
theorem dX1_init_78 : decode cX1_init 78 = .ok (.iconst 2, 1) := by decide +kernel
theorem dX1_init_79 : decode cX1_init 79 = .ok (.putfield 38, 3) := by decide +kernel
theorem dX1_init_82 : decode cX1_init 82 = .ok (.aload_n 0, 1) := by decide +kernel
theorem dX1_init_83 : decode cX1_init 83 = .ok (.iconst 1, 1) := by decide +kernel
theorem dX1_init_84 : decode cX1_init 84 = .ok (.putfield 41, 3) := by decide +kernel
theorem dX1_init_87 : decode cX1_init 87 = .ok (.aload_n 0, 1) := by decide +kernel
theorem dX1_init_88 : decode cX1_init 88 = .ok (.iconst 4, 1) := by decide +kernel
theorem dX1_init_89 : decode cX1_init 89 = .ok (.putfield 44, 3) := by decide +kernel
theorem dX1_init_92 : decode cX1_init 92 = .ok (.return_, 1) := by decide +kernel
theorem dX1_thrown_0 : decode cX1_thrown 0 = .ok (.aload_n 0, 1) := by decide +kernel
theorem dX1_thrown_1 : decode cX1_thrown 1 = .ok (.getfield 47, 3) := by decide +kernel
theorem dX1_thrown_4 : decode cX1_thrown 4 = .ok (.ireturn, 1) := by decide +kernel
theorem dX1_holds_0 : decode cX1_holds 0 = .ok (.aload_n 0, 1) := by decide +kernel
theorem dX1_holds_1 : decode cX1_holds 1 = .ok (.iload_n 1, 1) := by decide +kernel
theorem dX1_holds_2 : decode cX1_holds 2 = .ok (.putfield 47, 3) := by decide +kernel
theorem dX1_holds_5 : decode cX1_holds 5 = .ok (.iload_n 1, 1) := by decide +kernel
theorem dX1_holds_6 : decode cX1_holds 6 = .ok (.ifCond .le 7, 3) := by decide +kernel
theorem dX1_holds_9 : decode cX1_holds 9 = .ok (.iconst 1, 1) := by decide +kernel
theorem dX1_holds_10 : decode cX1_holds 10 = .ok (.goto 4, 3) := by decide +kernel
theorem dX1_holds_13 : decode cX1_holds 13 = .ok (.iconst 0, 1) := by decide +kernel
theorem dX1_holds_14 : decode cX1_holds 14 = .ok (.ireturn, 1) := by decide +kernel
theorem dX1_plain_0 : decode cX1_plain 0 = .ok (.aload_n 0, 1) := by decide +kernel
theorem dX1_plain_1 : decode cX1_plain 1 = .ok (.iconst 0, 1) := by decide +kernel
theorem dX1_plain_2 : decode cX1_plain 2 = .ok (.putfield 47, 3) := by decide +kernel
theorem dX1_plain_5 : decode cX1_plain 5 = .ok (.iload_n 1, 1) := by decide +kernel
theorem dX1_plain_6 : decode cX1_plain 6 = .ok (.ireturn, 1) := by decide +kernel
theorem dX1_between_0 : decode cX1_between 0 = .ok (.iload_n 1, 1) := by decide +kernel
theorem dX1_between_1 : decode cX1_between 1 = .ok (.iload_n 2, 1) := by decide +kernel
theorem dX1_between_2 : decode cX1_between 2 = .ok (.if_icmp .lt 12, 3) := by decide +kernel
theorem dX1_between_5 : decode cX1_between 5 = .ok (.iload_n 1, 1) := by decide +kernel
theorem dX1_between_6 : decode cX1_between 6 = .ok (.iload_n 3, 1) := by decide +kernel
theorem dX1_between_7 : decode cX1_between 7 = .ok (.if_icmp .gt 7, 3) := by decide +kernel
theorem dX1_between_10 : decode cX1_between 10 = .ok (.iconst 1, 1) := by decide +kernel
theorem dX1_between_11 : decode cX1_between 11 = .ok (.goto 4, 3) := by decide +kernel
theorem dX1_between_14 : decode cX1_between 14 = .ok (.iconst 0, 1) := by decide +kernel
theorem dX1_between_15 : decode cX1_between 15 = .ok (.ireturn, 1) := by decide +kernel
set_option maxRecDepth 20000 in
theorem ggX1_isUser_X1_between : GoodIn wsX1_isUser wsX1_between := goodIn_r _ [5] (by decide +kernel) (by decide +kernel)
set_option maxRecDepth 20000 in
theorem gX1_isUser_X1_between : GoodIn wsX1_isUser (wsV RX1 50 RX1 yX1_between wsX1_between) := goodIn_app (goodIn_of _ (by decide +kernel)) ggX1_isUser_X1_between
theorem dX1_isUser_0 : decode cX1_isUser 0 = .ok (.aload_n 0, 1) := by decide +kernel
theorem dX1_isUser_1 : decode cX1_isUser 1 = .ok (.iload_n 1, 1) := by decide +kernel
theorem dX1_isUser_2 : decode cX1_isUser 2 = .ok (.iconst 0, 1) := by decide +kernel
theorem dX1_isUser_3 : decode cX1_isUser 3 = .ok (.bipush 7, 2) := by decide +kernel
theorem dX1_isUser_5 : decode cX1_isUser 5 = .ok (.invokevirtual 50, 3) := by decide +kernel
theorem dX1_isUser_8 : decode cX1_isUser 8 = .ok (.ireturn, 1) := by decide +kernel
set_option maxRecDepth 20000 in
theorem ggX1_isPermission_X1_between : GoodIn wsX1_isPermission wsX1_between := goodIn_r _ [5] (by decide +kernel) (by decide +kernel)
set_option maxRecDepth 20000 in
theorem gX1_isPermission_X1_between : GoodIn wsX1_isPermission (wsV RX1 50 RX1 yX1_between wsX1_between) := goodIn_app (goodIn_of _ (by decide +kernel)) ggX1_isPermission_X1_between
theorem dX1_isPermission_0 : decode cX1_isPermission 0 = .ok (.aload_n 0, 1) := by decide +kernel
theorem dX1_isPermission_1 : decode cX1_isPermission 1 = .ok (.iload_n 1, 1) := by decide +kernel
theorem dX1_isPermission_2 : decode cX1_isPermission 2 = .ok (.iconst 0, 1) := by decide +kernel
theorem dX1_isPermission_3 : decode cX1_isPermission 3 = .ok (.bipush 11, 2) := by decide +kernel
theorem dX1_isPermission_5 : decode cX1_isPermission 5 = .ok (.invokevirtual 50, 3) := by decide +kernel
theorem dX1_isPermission_8 : decode cX1_isPermission 8 = .ok (.ireturn, 1) := by decide +kernel
theorem dX1_size_0 : decode cX1_size 0 = .ok (.iconst 0, 1) := by decide +kernel
theorem dX1_size_1 : decode cX1_size 1 = .ok (.istore_n 2, 1) := by decide +kernel
theorem dX1_size_2 : decode cX1_size 2 = .ok (.iload_n 1, 1) := by decide +kernel
theorem dX1_size_3 : decode cX1_size 3 = .ok (.istore_n 3, 1) := by decide +kernel
theorem dX1_size_4 : decode cX1_size 4 = .ok (.iload_n 3, 1) := by decide +kernel
theorem dX1_size_5 : decode cX1_size 5 = .ok (.ifCond .eq 15, 3) := by decide +kernel
theorem dX1_size_8 : decode cX1_size 8 = .ok (.iinc 2 1, 3) := by decide +kernel
theorem dX1_size_11 : decode cX1_size 11 = .ok (.iload_n 3, 1) := by decide +kernel
theorem dX1_size_12 : decode cX1_size 12 = .ok (.iload_n 3, 1) := by decide +kernel
theorem dX1_size_13 : decode cX1_size 13 = .ok (.iconst 1, 1) := by decide +kernel
theorem dX1_size_14 : decode cX1_size 14 = .ok (.isub, 1) := by decide +kernel
theorem dX1_size_15 : decode cX1_size 15 = .ok (.iand, 1) := by decide +kernel
theorem dX1_size_16 : decode cX1_size 16 = .ok (.istore_n 3, 1) := by decide +kernel
theorem dX1_size_17 : decode cX1_size 17 = .ok (.goto (-13), 3) := by decide +kernel
theorem dX1_size_20 : decode cX1_size 20 = .ok (.iload_n 2, 1) := by decide +kernel
theorem dX1_size_21 : decode cX1_size 21 = .ok (.ireturn, 1) := by decide +kernel
theorem dX1_isIn_0 : decode cX1_isIn 0 = .ok (.iload_n 1, 1) := by decide +kernel
theorem dX1_isIn_1 : decode cX1_isIn 1 = .ok (.iload_n 2, 1) := by decide +kernel
theorem dX1_isIn_2 : decode cX1_isIn 2 = .ok (.ishr, 1) := by decide +kernel
theorem dX1_isIn_3 : decode cX1_isIn 3 = .ok (.iconst 1, 1) := by decide +kernel
theorem dX1_isIn_4 : decode cX1_isIn 4 = .ok (.iand, 1) := by decide +kernel
theorem dX1_isIn_5 : decode cX1_isIn 5 = .ok (.iconst 1, 1) := by decide +kernel
theorem dX1_isIn_6 : decode cX1_isIn 6 = .ok (.if_icmp .ne 7, 3) := by decide +kernel
theorem dX1_isIn_9 : decode cX1_isIn 9 = .ok (.iconst 1, 1) := by decide +kernel
theorem dX1_isIn_10 : decode cX1_isIn 10 = .ok (.goto 4, 3) := by decide +kernel
theorem dX1_isIn_13 : decode cX1_isIn 13 = .ok (.iconst 0, 1) := by decide +kernel
theorem dX1_isIn_14 : decode cX1_isIn 14 = .ok (.ireturn, 1) := by decide +kernel
theorem dX1_isWithin_0 : decode cX1_isWithin 0 = .ok (.iload_n 1, 1) := by decide +kernel
theorem dX1_isWithin_1 : decode cX1_isWithin 1 = .ok (.aload_n 0, 1) := by decide +kernel
theorem dX1_isWithin_2 : decode cX1_isWithin 2 = .ok (.getfield 7, 3) := by decide +kernel
theorem dX1_isWithin_5 : decode cX1_isWithin 5 = .ok (.iload_n 2, 1) := by decide +kernel
theorem dX1_isWithin_6 : decode cX1_isWithin 6 = .ok (.iaload, 1) := by decide +kernel
theorem dX1_isWithin_7 : decode cX1_isWithin 7 = .ok (.iconst (-1), 1) := by decide +kernel
theorem dX1_isWithin_8 : decode cX1_isWithin 8 = .ok (.ixor, 1) := by decide +kernel
theorem dX1_isWithin_9 : decode cX1_isWithin 9 = .ok (.iand, 1) := by decide +kernel
theorem dX1_isWithin_10 : decode cX1_isWithin 10 = .ok (.ifCond .ne 7, 3) := by decide +kernel
theorem dX1_isWithin_13 : decode cX1_isWithin 13 = .ok (.iconst 1, 1) := by decide +kernel
theorem dX1_isWithin_14 : decode cX1_isWithin 14 = .ok (.goto 4, 3) := by decide +kernel
theorem dX1_isWithin_17 : decode cX1_isWithin 17 = .ok (.iconst 0, 1) := by decide +kernel
theorem dX1_isWithin_18 : decode cX1_isWithin 18 = .ok (.ireturn, 1) := by decide +kernel
set_option maxRecDepth 20000 in
theorem ggX1_isProper_X1_isIn : GoodIn wsX1_isProper wsX1_isIn := goodIn_r _ [6] (by decide +kernel) (by decide +kernel)
set_option maxRecDepth 20000 in
theorem gX1_isProper_X1_isIn : GoodIn wsX1_isProper (wsV RX1 54 RX1 yX1_isIn wsX1_isIn) := goodIn_app (goodIn_of _ (by decide +kernel)) ggX1_isProper_X1_isIn
theorem dX1_isProper_0 : decode cX1_isProper 0 = .ok (.iconst 0, 1) := by decide +kernel
theorem dX1_isProper_1 : decode cX1_isProper 1 = .ok (.istore_n 2, 1) := by decide +kernel
theorem dX1_isProper_2 : decode cX1_isProper 2 = .ok (.iload_n 2, 1) := by decide +kernel
theorem dX1_isProper_3 : decode cX1_isProper 3 = .ok (.bipush 12, 2) := by decide +kernel
theorem dX1_isProper_5 : decode cX1_isProper 5 = .ok (.if_icmp .ge 31, 3) := by decide +kernel
theorem dX1_isProper_8 : decode cX1_isProper 8 = .ok (.aload_n 0, 1) := by decide +kernel
theorem dX1_isProper_9 : decode cX1_isProper 9 = .ok (.iload_n 1, 1) := by decide +kernel
theorem dX1_isProper_10 : decode cX1_isProper 10 = .ok (.iload_n 2, 1) := by decide +kernel
theorem dX1_isProper_11 : decode cX1_isProper 11 = .ok (.invokevirtual 54, 3) := by decide +kernel
theorem dX1_isProper_14 : decode cX1_isProper 14 = .ok (.ifCond .eq 16, 3) := by decide +kernel
theorem dX1_isProper_17 : decode cX1_isProper 17 = .ok (.aload_n 0, 1) := by decide +kernel
theorem dX1_isProper_18 : decode cX1_isProper 18 = .ok (.getfield 16, 3) := by decide +kernel
theorem dX1_isProper_21 : decode cX1_isProper 21 = .ok (.iload_n 2, 1) := by decide +kernel
theorem dX1_isProper_22 : decode cX1_isProper 22 = .ok (.iaload, 1) := by decide +kernel
theorem dX1_isProper_23 : decode cX1_isProper 23 = .ok (.iload_n 1, 1) := by decide +kernel
theorem dX1_isProper_24 : decode cX1_isProper 24 = .ok (.iand, 1) := by decide +kernel
theorem dX1_isProper_25 : decode cX1_isProper 25 = .ok (.ifCond .eq 5, 3) := by decide +kernel
theorem dX1_isProper_28 : decode cX1_isProper 28 = .ok (.iconst 0, 1) := by decide +kernel
theorem dX1_isProper_29 : decode cX1_isProper 29 = .ok (.ireturn, 1) := by decide +kernel
theorem dX1_isProper_30 : decode cX1_isProper 30 = .ok (.iinc 2 1, 3) := by decide +kernel
theorem dX1_isProper_33 : decode cX1_isProper 33 = .ok (.goto (-31), 3) := by decide +kernel
theorem dX1_isProper_36 : decode cX1_isProper 36 = .ok (.iconst 1, 1) := by decide +kernel
theorem dX1_isProper_37 : decode cX1_isProper 37 = .ok (.ireturn, 1) := by decide +kernel
set_option maxRecDepth 20000 in
theorem ggX1_whoHas_X1_isWithin : GoodIn wsX1_whoHas wsX1_isWithin := goodIn_r _ [5, 6, 7, 8, 9, 10, 11, 12, 13, 14, 15, 16, 17, 18, 19, 20, 21, 22] (by decide +kernel) (by decide +kernel)
set_option maxRecDepth 20000 in
theorem gX1_whoHas_X1_isWithin : GoodIn wsX1_whoHas (wsV RX1 58 RX1 yX1_isWithin wsX1_isWithin) := goodIn_app (goodIn_of _ (by decide +kernel)) ggX1_whoHas_X1_isWithin
theorem dX1_whoHas_0 : decode cX1_whoHas 0 = .ok (.iconst 0, 1) := by decide +kernel
theorem dX1_whoHas_1 : decode cX1_whoHas 1 = .ok (.istore_n 2, 1) := by decide +kernel
theorem dX1_whoHas_2 : decode cX1_whoHas 2 = .ok (.bipush 7, 2) := by decide +kernel
theorem dX1_whoHas_4 : decode cX1_whoHas 4 = .ok (.istore_n 3, 1) := by decide +kernel
theorem dX1_whoHas_5 : decode cX1_whoHas 5 = .ok (.iload_n 3, 1) := by decide +kernel
theorem dX1_whoHas_6 : decode cX1_whoHas 6 = .ok (.ifCond .lt 28, 3) := by decide +kernel
theorem dX1_whoHas_9 : decode cX1_whoHas 9 = .ok (.iconst 2, 1) := by decide +kernel
theorem dX1_whoHas_10 : decode cX1_whoHas 10 = .ok (.iload_n 2, 1) := by decide +kernel
theorem dX1_whoHas_11 : decode cX1_whoHas 11 = .ok (.imul, 1) := by decide +kernel
theorem dX1_whoHas_12 : decode cX1_whoHas 12 = .ok (.aload_n 0, 1) := by decide +kernel
theorem dX1_whoHas_13 : decode cX1_whoHas 13 = .ok (.iload_n 1, 1) := by decide +kernel
theorem dX1_whoHas_14 : decode cX1_whoHas 14 = .ok (.iload_n 3, 1) := by decide +kernel
theorem dX1_whoHas_15 : decode cX1_whoHas 15 = .ok (.invokevirtual 58, 3) := by decide +kernel
theorem dX1_whoHas_18 : decode cX1_whoHas 18 = .ok (.ifCond .eq 7, 3) := by decide +kernel
theorem dX1_whoHas_21 : decode cX1_whoHas 21 = .ok (.iconst 1, 1) := by decide +kernel
theorem dX1_whoHas_22 : decode cX1_whoHas 22 = .ok (.goto 4, 3) := by decide +kernel
theorem dX1_whoHas_25 : decode cX1_whoHas 25 = .ok (.iconst 0, 1) := by decide +kernel
theorem dX1_whoHas_26 : decode cX1_whoHas 26 = .ok (.iadd, 1) := by decide +kernel
theorem dX1_whoHas_27 : decode cX1_whoHas 27 = .ok (.istore_n 2, 1) := by decide +kernel
theorem dX1_whoHas_28 : decode cX1_whoHas 28 = .ok (.iinc 3 (-1), 3) := by decide +kernel
theorem dX1_whoHas_31 : decode cX1_whoHas 31 = .ok (.goto (-26), 3) := by decide +kernel
theorem dX1_whoHas_34 : decode cX1_whoHas 34 = .ok (.iload_n 2, 1) := by decide +kernel
theorem dX1_whoHas_35 : decode cX1_whoHas 35 = .ok (.ireturn, 1) := by decide +kernel
theorem dX1_give_0 : decode cX1_give 0 = .ok (.aload_n 0, 1) := by decide +kernel
theorem dX1_give_1 : decode cX1_give 1 = .ok (.getfield 7, 3) := by decide +kernel
theorem dX1_give_4 : decode cX1_give 4 = .ok (.iload_n 1, 1) := by decide +kernel
theorem dX1_give_5 : decode cX1_give 5 = .ok (.dup2, 1) := by decide +kernel
theorem dX1_give_6 : decode cX1_give 6 = .ok (.iaload, 1) := by decide +kernel
theorem dX1_give_7 : decode cX1_give 7 = .ok (.iconst 1, 1) := by decide +kernel
theorem dX1_give_8 : decode cX1_give 8 = .ok (.iload_n 2, 1) := by decide +kernel
theorem dX1_give_9 : decode cX1_give 9 = .ok (.ishl, 1) := by decide +kernel
theorem dX1_give_10 : decode cX1_give 10 = .ok (.ior, 1) := by decide +kernel
theorem dX1_give_11 : decode cX1_give 11 = .ok (.iastore, 1) := by decide +kernel
theorem dX1_give_12 : decode cX1_give 12 = .ok (.aload_n 0, 1) := by decide +kernel
theorem dX1_give_13 : decode cX1_give 13 = .ok (.getfield 13, 3) := by decide +kernel
theorem dX1_give_16 : decode cX1_give 16 = .ok (.bipush 12, 2) := by decide +kernel
theorem dX1_give_18 : decode cX1_give 18 = .ok (.iload_n 1, 1) := by decide +kernel
theorem dX1_give_19 : decode cX1_give 19 = .ok (.imul, 1) := by decide +kernel
theorem dX1_give_20 : decode cX1_give 20 = .ok (.iload_n 2, 1) := by decide +kernel
theorem dX1_give_21 : decode cX1_give 21 = .ok (.iadd, 1) := by decide +kernel
theorem dX1_give_22 : decode cX1_give 22 = .ok (.aload_n 0, 1) := by decide +kernel
theorem dX1_give_23 : decode cX1_give 23 = .ok (.getfield 61, 3) := by decide +kernel
theorem dX1_give_26 : decode cX1_give 26 = .ok (.iastore, 1) := by decide +kernel
theorem dX1_give_27 : decode cX1_give 27 = .ok (.return_, 1) := by decide +kernel
set_option maxRecDepth 20000 in
theorem ggX1_grant_X1_isUser : GoodIn wsX1_grant wsX1_isUser := goodIn_r _ [6, 7, 8, 9, 5, 10] (by decide +kernel) (by decide +kernel)
set_option maxRecDepth 20000 in
theorem gX1_grant_X1_isUser : GoodIn wsX1_grant (wsV RX1 64 RX1 yX1_isUser wsX1_isUser) := goodIn_app (goodIn_of _ (by decide +kernel)) ggX1_grant_X1_isUser
set_option maxRecDepth 20000 in
theorem ggX1_grant_X1_isPermission : GoodIn wsX1_grant wsX1_isPermission := goodIn_r _ [14, 7, 8, 9, 5, 10] (by decide +kernel) (by decide +kernel)
set_option maxRecDepth 20000 in
theorem gX1_grant_X1_isPermission : GoodIn wsX1_grant (wsV RX1 68 RX1 yX1_isPermission wsX1_isPermission) := goodIn_app (goodIn_of _ (by decide +kernel)) ggX1_grant_X1_isPermission
set_option maxRecDepth 20000 in
theorem ggX1_grant_X1_holds : GoodIn wsX1_grant wsX1_holds := goodIn_r _ [18, 19, 30, 31, 32, 33, 34, 35, 36, 37, 38, 39, 40, 41, 42, 43, 44, 45] (by decide +kernel) (by decide +kernel)
set_option maxRecDepth 20000 in
theorem gX1_grant_X1_holds : GoodIn wsX1_grant (wsV RX1 71 RX1 yX1_holds wsX1_holds) := goodIn_app (goodIn_of _ (by decide +kernel)) ggX1_grant_X1_holds
set_option maxRecDepth 20000 in
theorem ggX1_grant_X1_isIn : GoodIn wsX1_grant wsX1_isIn := goodIn_r _ [23] (by decide +kernel) (by decide +kernel)
set_option maxRecDepth 20000 in
theorem gX1_grant_X1_isIn : GoodIn wsX1_grant (wsV RX1 54 RX1 yX1_isIn wsX1_isIn) := goodIn_app (goodIn_of _ (by decide +kernel)) ggX1_grant_X1_isIn
set_option maxRecDepth 20000 in
theorem ggX1_grant_X1_give : GoodIn wsX1_grant wsX1_give := goodIn_r _ [27, 1, 28, 29, 30, 31, 32, 33, 34, 35, 36, 37, 38, 39, 40, 41, 42, 43, 44, 45] (by decide +kernel) (by decide +kernel)
set_option maxRecDepth 20000 in
theorem gX1_grant_X1_give : GoodIn wsX1_grant (wsV RX1 74 RX1 yX1_give wsX1_give) := goodIn_app (goodIn_of _ (by decide +kernel)) ggX1_grant_X1_give
theorem dX1_grant_0 : decode cX1_grant 0 = .ok (.aload_n 0, 1) := by decide +kernel
theorem dX1_grant_1 : decode cX1_grant 1 = .ok (.aload_n 0, 1) := by decide +kernel
theorem dX1_grant_2 : decode cX1_grant 2 = .ok (.iload_n 1, 1) := by decide +kernel
theorem dX1_grant_3 : decode cX1_grant 3 = .ok (.invokevirtual 64, 3) := by decide +kernel
theorem dX1_grant_6 : decode cX1_grant 6 = .ok (.ifCond .eq 15, 3) := by decide +kernel
theorem dX1_grant_9 : decode cX1_grant 9 = .ok (.aload_n 0, 1) := by decide +kernel
theorem dX1_grant_10 : decode cX1_grant 10 = .ok (.iload_n 2, 1) := by decide +kernel
theorem dX1_grant_11 : decode cX1_grant 11 = .ok (.invokevirtual 68, 3) := by decide +kernel
theorem dX1_grant_14 : decode cX1_grant 14 = .ok (.ifCond .eq 7, 3) := by decide +kernel
theorem dX1_grant_17 : decode cX1_grant 17 = .ok (.iconst 0, 1) := by decide +kernel
theorem dX1_grant_18 : decode cX1_grant 18 = .ok (.goto 4, 3) := by decide +kernel
theorem dX1_grant_21 : decode cX1_grant 21 = .ok (.iconst 1, 1) := by decide +kernel
theorem dX1_grant_22 : decode cX1_grant 22 = .ok (.invokevirtual 71, 3) := by decide +kernel
theorem dX1_grant_25 : decode cX1_grant 25 = .ok (.ifCond .ne 17, 3) := by decide +kernel
theorem dX1_grant_28 : decode cX1_grant 28 = .ok (.aload_n 0, 1) := by decide +kernel
theorem dX1_grant_29 : decode cX1_grant 29 = .ok (.aload_n 0, 1) := by decide +kernel
theorem dX1_grant_30 : decode cX1_grant 30 = .ok (.getfield 7, 3) := by decide +kernel
theorem dX1_grant_33 : decode cX1_grant 33 = .ok (.iload_n 1, 1) := by decide +kernel
theorem dX1_grant_34 : decode cX1_grant 34 = .ok (.iaload, 1) := by decide +kernel
theorem dX1_grant_35 : decode cX1_grant 35 = .ok (.iload_n 2, 1) := by decide +kernel
theorem dX1_grant_36 : decode cX1_grant 36 = .ok (.invokevirtual 54, 3) := by decide +kernel
theorem dX1_grant_39 : decode cX1_grant 39 = .ok (.ifCond .eq 5, 3) := by decide +kernel
theorem dX1_grant_42 : decode cX1_grant 42 = .ok (.iconst 0, 1) := by decide +kernel
theorem dX1_grant_43 : decode cX1_grant 43 = .ok (.ireturn, 1) := by decide +kernel
theorem dX1_grant_44 : decode cX1_grant 44 = .ok (.aload_n 0, 1) := by decide +kernel
theorem dX1_grant_45 : decode cX1_grant 45 = .ok (.iload_n 1, 1) := by decide +kernel
theorem dX1_grant_46 : decode cX1_grant 46 = .ok (.iload_n 2, 1) := by decide +kernel
theorem dX1_grant_47 : decode cX1_grant 47 = .ok (.invokevirtual 74, 3) := by decide +kernel
theorem dX1_grant_50 : decode cX1_grant 50 = .ok (.iconst 1, 1) := by decide +kernel
theorem dX1_grant_51 : decode cX1_grant 51 = .ok (.ireturn, 1) := by decide +kernel
set_option maxRecDepth 20000 in
theorem ggX1_revoke_X1_isUser : GoodIn wsX1_revoke wsX1_isUser := goodIn_r _ [6, 7, 8, 9, 5, 10] (by decide +kernel) (by decide +kernel)
set_option maxRecDepth 20000 in
theorem gX1_revoke_X1_isUser : GoodIn wsX1_revoke (wsV RX1 64 RX1 yX1_isUser wsX1_isUser) := goodIn_app (goodIn_of _ (by decide +kernel)) ggX1_revoke_X1_isUser
set_option maxRecDepth 20000 in
theorem ggX1_revoke_X1_isPermission : GoodIn wsX1_revoke wsX1_isPermission := goodIn_r _ [14, 7, 8, 9, 5, 10] (by decide +kernel) (by decide +kernel)
set_option maxRecDepth 20000 in
theorem gX1_revoke_X1_isPermission : GoodIn wsX1_revoke (wsV RX1 68 RX1 yX1_isPermission wsX1_isPermission) := goodIn_app (goodIn_of _ (by decide +kernel)) ggX1_revoke_X1_isPermission
set_option maxRecDepth 20000 in
theorem ggX1_revoke_X1_holds : GoodIn wsX1_revoke wsX1_holds := goodIn_r _ [18, 19, 24, 25, 26, 27, 28, 29, 30, 31, 32, 33, 34, 35, 36, 37, 38, 39] (by decide +kernel) (by decide +kernel)
set_option maxRecDepth 20000 in
theorem gX1_revoke_X1_holds : GoodIn wsX1_revoke (wsV RX1 71 RX1 yX1_holds wsX1_holds) := goodIn_app (goodIn_of _ (by decide +kernel)) ggX1_revoke_X1_holds
set_option maxRecDepth 20000 in
theorem ggX1_revoke_X1_isIn : GoodIn wsX1_revoke wsX1_isIn := goodIn_r _ [23] (by decide +kernel) (by decide +kernel)
set_option maxRecDepth 20000 in
theorem gX1_revoke_X1_isIn : GoodIn wsX1_revoke (wsV RX1 54 RX1 yX1_isIn wsX1_isIn) := goodIn_app (goodIn_of _ (by decide +kernel)) ggX1_revoke_X1_isIn
theorem dX1_revoke_0 : decode cX1_revoke 0 = .ok (.aload_n 0, 1) := by decide +kernel
theorem dX1_revoke_1 : decode cX1_revoke 1 = .ok (.aload_n 0, 1) := by decide +kernel
theorem dX1_revoke_2 : decode cX1_revoke 2 = .ok (.iload_n 1, 1) := by decide +kernel
theorem dX1_revoke_3 : decode cX1_revoke 3 = .ok (.invokevirtual 64, 3) := by decide +kernel
theorem dX1_revoke_6 : decode cX1_revoke 6 = .ok (.ifCond .eq 15, 3) := by decide +kernel
theorem dX1_revoke_9 : decode cX1_revoke 9 = .ok (.aload_n 0, 1) := by decide +kernel
theorem dX1_revoke_10 : decode cX1_revoke 10 = .ok (.iload_n 2, 1) := by decide +kernel
theorem dX1_revoke_11 : decode cX1_revoke 11 = .ok (.invokevirtual 68, 3) := by decide +kernel
theorem dX1_revoke_14 : decode cX1_revoke 14 = .ok (.ifCond .eq 7, 3) := by decide +kernel
theorem dX1_revoke_17 : decode cX1_revoke 17 = .ok (.iconst 0, 1) := by decide +kernel
theorem dX1_revoke_18 : decode cX1_revoke 18 = .ok (.goto 4, 3) := by decide +kernel
theorem dX1_revoke_21 : decode cX1_revoke 21 = .ok (.iconst 1, 1) := by decide +kernel
theorem dX1_revoke_22 : decode cX1_revoke 22 = .ok (.invokevirtual 71, 3) := by decide +kernel
theorem dX1_revoke_25 : decode cX1_revoke 25 = .ok (.ifCond .eq 5, 3) := by decide +kernel
theorem dX1_revoke_28 : decode cX1_revoke 28 = .ok (.iconst 0, 1) := by decide +kernel
theorem dX1_revoke_29 : decode cX1_revoke 29 = .ok (.ireturn, 1) := by decide +kernel
theorem dX1_revoke_30 : decode cX1_revoke 30 = .ok (.aload_n 0, 1) := by decide +kernel
theorem dX1_revoke_31 : decode cX1_revoke 31 = .ok (.aload_n 0, 1) := by decide +kernel
theorem dX1_revoke_32 : decode cX1_revoke 32 = .ok (.getfield 7, 3) := by decide +kernel
theorem dX1_revoke_35 : decode cX1_revoke 35 = .ok (.iload_n 1, 1) := by decide +kernel
theorem dX1_revoke_36 : decode cX1_revoke 36 = .ok (.iaload, 1) := by decide +kernel
theorem dX1_revoke_37 : decode cX1_revoke 37 = .ok (.iload_n 2, 1) := by decide +kernel
theorem dX1_revoke_38 : decode cX1_revoke 38 = .ok (.invokevirtual 54, 3) := by decide +kernel
theorem dX1_revoke_41 : decode cX1_revoke 41 = .ok (.istore_n 3, 1) := by decide +kernel
theorem dX1_revoke_42 : decode cX1_revoke 42 = .ok (.aload_n 0, 1) := by decide +kernel
theorem dX1_revoke_43 : decode cX1_revoke 43 = .ok (.getfield 7, 3) := by decide +kernel
theorem dX1_revoke_46 : decode cX1_revoke 46 = .ok (.iload_n 1, 1) := by decide +kernel
theorem dX1_revoke_47 : decode cX1_revoke 47 = .ok (.dup2, 1) := by decide +kernel
theorem dX1_revoke_48 : decode cX1_revoke 48 = .ok (.iaload, 1) := by decide +kernel
theorem dX1_revoke_49 : decode cX1_revoke 49 = .ok (.iconst 1, 1) := by decide +kernel
theorem dX1_revoke_50 : decode cX1_revoke 50 = .ok (.iload_n 2, 1) := by decide +kernel
theorem dX1_revoke_51 : decode cX1_revoke 51 = .ok (.ishl, 1) := by decide +kernel
theorem dX1_revoke_52 : decode cX1_revoke 52 = .ok (.iconst (-1), 1) := by decide +kernel
theorem dX1_revoke_53 : decode cX1_revoke 53 = .ok (.ixor, 1) := by decide +kernel
theorem dX1_revoke_54 : decode cX1_revoke 54 = .ok (.iand, 1) := by decide +kernel
theorem dX1_revoke_55 : decode cX1_revoke 55 = .ok (.iastore, 1) := by decide +kernel
theorem dX1_revoke_56 : decode cX1_revoke 56 = .ok (.iload_n 3, 1) := by decide +kernel
theorem dX1_revoke_57 : decode cX1_revoke 57 = .ok (.ireturn, 1) := by decide +kernel
set_option maxRecDepth 20000 in
theorem ggX1_setGrants_X1_isUser : GoodIn wsX1_setGrants wsX1_isUser := goodIn_r _ [6, 7, 8, 9, 5, 10] (by decide +kernel) (by decide +kernel)
set_option maxRecDepth 20000 in
theorem gX1_setGrants_X1_isUser : GoodIn wsX1_setGrants (wsV RX1 64 RX1 yX1_isUser wsX1_isUser) := goodIn_app (goodIn_of _ (by decide +kernel)) ggX1_setGrants_X1_isUser
set_option maxRecDepth 20000 in
theorem ggX1_setGrants_X1_between : GoodIn wsX1_setGrants wsX1_between := goodIn_r _ [10] (by decide +kernel) (by decide +kernel)
set_option maxRecDepth 20000 in
theorem gX1_setGrants_X1_between : GoodIn wsX1_setGrants (wsV RX1 50 RX1 yX1_between wsX1_between) := goodIn_app (goodIn_of _ (by decide +kernel)) ggX1_setGrants_X1_between
set_option maxRecDepth 20000 in
theorem ggX1_setGrants_X1_holds : GoodIn wsX1_setGrants wsX1_holds := goodIn_r _ [14, 15, 30, 31, 32, 33, 34, 35, 36, 37, 38, 39, 40, 41, 42, 43, 44, 45] (by decide +kernel) (by decide +kernel)
set_option maxRecDepth 20000 in
theorem gX1_setGrants_X1_holds : GoodIn wsX1_setGrants (wsV RX1 71 RX1 yX1_holds wsX1_holds) := goodIn_app (goodIn_of _ (by decide +kernel)) ggX1_setGrants_X1_holds
set_option maxRecDepth 20000 in
theorem ggX1_setGrants_X1_size : GoodIn wsX1_setGrants wsX1_size := goodIn_r _ [19] (by decide +kernel) (by decide +kernel)
set_option maxRecDepth 20000 in
theorem gX1_setGrants_X1_size : GoodIn wsX1_setGrants (wsV RX1 78 RX1 yX1_size wsX1_size) := goodIn_app (goodIn_of _ (by decide +kernel)) ggX1_setGrants_X1_size
set_option maxRecDepth 20000 in
theorem ggX1_setGrants_X1_isIn : GoodIn wsX1_setGrants wsX1_isIn := goodIn_r _ [23] (by decide +kernel) (by decide +kernel)
set_option maxRecDepth 20000 in
theorem gX1_setGrants_X1_isIn : GoodIn wsX1_setGrants (wsV RX1 54 RX1 yX1_isIn wsX1_isIn) := goodIn_app (goodIn_of _ (by decide +kernel)) ggX1_setGrants_X1_isIn
set_option maxRecDepth 20000 in
theorem ggX1_setGrants_X1_give : GoodIn wsX1_setGrants wsX1_give := goodIn_r _ [27, 1, 28, 29, 30, 31, 32, 33, 34, 35, 36, 37, 38, 39, 40, 41, 42, 43, 44, 45] (by decide +kernel) (by decide +kernel)
set_option maxRecDepth 20000 in
theorem gX1_setGrants_X1_give : GoodIn wsX1_setGrants (wsV RX1 74 RX1 yX1_give wsX1_give) := goodIn_app (goodIn_of _ (by decide +kernel)) ggX1_setGrants_X1_give
theorem dX1_setGrants_0 : decode cX1_setGrants 0 = .ok (.aload_n 0, 1) := by decide +kernel
theorem dX1_setGrants_1 : decode cX1_setGrants 1 = .ok (.aload_n 0, 1) := by decide +kernel
theorem dX1_setGrants_2 : decode cX1_setGrants 2 = .ok (.iload_n 1, 1) := by decide +kernel
theorem dX1_setGrants_3 : decode cX1_setGrants 3 = .ok (.invokevirtual 64, 3) := by decide +kernel
theorem dX1_setGrants_6 : decode cX1_setGrants 6 = .ok (.ifCond .ne 7, 3) := by decide +kernel
theorem dX1_setGrants_9 : decode cX1_setGrants 9 = .ok (.iconst 1, 1) := by decide +kernel
theorem dX1_setGrants_10 : decode cX1_setGrants 10 = .ok (.goto 20, 3) := by decide +kernel
theorem dX1_setGrants_13 : decode cX1_setGrants 13 = .ok (.aload_n 0, 1) := by decide +kernel
theorem dX1_setGrants_14 : decode cX1_setGrants 14 = .ok (.iload_n 2, 1) := by decide +kernel
theorem dX1_setGrants_15 : decode cX1_setGrants 15 = .ok (.iconst 0, 1) := by decide +kernel
theorem dX1_setGrants_16 : decode cX1_setGrants 16 = .ok (.sipush 4095, 3) := by decide +kernel
theorem dX1_setGrants_19 : decode cX1_setGrants 19 = .ok (.invokevirtual 50, 3) := by decide +kernel
theorem dX1_setGrants_22 : decode cX1_setGrants 22 = .ok (.ifCond .eq 7, 3) := by decide +kernel
theorem dX1_setGrants_25 : decode cX1_setGrants 25 = .ok (.iconst 0, 1) := by decide +kernel
theorem dX1_setGrants_26 : decode cX1_setGrants 26 = .ok (.goto 4, 3) := by decide +kernel
theorem dX1_setGrants_29 : decode cX1_setGrants 29 = .ok (.iconst 2, 1) := by decide +kernel
theorem dX1_setGrants_30 : decode cX1_setGrants 30 = .ok (.invokevirtual 71, 3) := by decide +kernel
theorem dX1_setGrants_33 : decode cX1_setGrants 33 = .ok (.ifCond .eq 5, 3) := by decide +kernel
theorem dX1_setGrants_36 : decode cX1_setGrants 36 = .ok (.iconst (-1), 1) := by decide +kernel
theorem dX1_setGrants_37 : decode cX1_setGrants 37 = .ok (.ireturn, 1) := by decide +kernel
theorem dX1_setGrants_38 : decode cX1_setGrants 38 = .ok (.aload_n 0, 1) := by decide +kernel
theorem dX1_setGrants_39 : decode cX1_setGrants 39 = .ok (.aload_n 0, 1) := by decide +kernel
theorem dX1_setGrants_40 : decode cX1_setGrants 40 = .ok (.getfield 7, 3) := by decide +kernel
theorem dX1_setGrants_43 : decode cX1_setGrants 43 = .ok (.iload_n 1, 1) := by decide +kernel
theorem dX1_setGrants_44 : decode cX1_setGrants 44 = .ok (.iaload, 1) := by decide +kernel
theorem dX1_setGrants_45 : decode cX1_setGrants 45 = .ok (.iload_n 2, 1) := by decide +kernel
theorem dX1_setGrants_46 : decode cX1_setGrants 46 = .ok (.ixor, 1) := by decide +kernel
theorem dX1_setGrants_47 : decode cX1_setGrants 47 = .ok (.invokevirtual 78, 3) := by decide +kernel
theorem dX1_setGrants_50 : decode cX1_setGrants 50 = .ok (.istore_n 3, 1) := by decide +kernel
theorem dX1_setGrants_51 : decode cX1_setGrants 51 = .ok (.iconst 0, 1) := by decide +kernel
theorem dX1_setGrants_52 : decode cX1_setGrants 52 = .ok (.istore 4, 2) := by decide +kernel
theorem dX1_setGrants_54 : decode cX1_setGrants 54 = .ok (.iload 4, 2) := by decide +kernel
theorem dX1_setGrants_56 : decode cX1_setGrants 56 = .ok (.bipush 12, 2) := by decide +kernel
theorem dX1_setGrants_58 : decode cX1_setGrants 58 = .ok (.if_icmp .ge 35, 3) := by decide +kernel
theorem dX1_setGrants_61 : decode cX1_setGrants 61 = .ok (.aload_n 0, 1) := by decide +kernel
theorem dX1_setGrants_62 : decode cX1_setGrants 62 = .ok (.iload_n 2, 1) := by decide +kernel
theorem dX1_setGrants_63 : decode cX1_setGrants 63 = .ok (.aload_n 0, 1) := by decide +kernel
theorem dX1_setGrants_64 : decode cX1_setGrants 64 = .ok (.getfield 7, 3) := by decide +kernel
theorem dX1_setGrants_67 : decode cX1_setGrants 67 = .ok (.iload_n 1, 1) := by decide +kernel
theorem dX1_setGrants_68 : decode cX1_setGrants 68 = .ok (.iaload, 1) := by decide +kernel
theorem dX1_setGrants_69 : decode cX1_setGrants 69 = .ok (.iconst (-1), 1) := by decide +kernel
theorem dX1_setGrants_70 : decode cX1_setGrants 70 = .ok (.ixor, 1) := by decide +kernel
theorem dX1_setGrants_71 : decode cX1_setGrants 71 = .ok (.iand, 1) := by decide +kernel
theorem dX1_setGrants_72 : decode cX1_setGrants 72 = .ok (.iload 4, 2) := by decide +kernel
theorem dX1_setGrants_74 : decode cX1_setGrants 74 = .ok (.invokevirtual 54, 3) := by decide +kernel
theorem dX1_setGrants_77 : decode cX1_setGrants 77 = .ok (.ifCond .eq 10, 3) := by decide +kernel
theorem dX1_setGrants_80 : decode cX1_setGrants 80 = .ok (.aload_n 0, 1) := by decide +kernel
theorem dX1_setGrants_81 : decode cX1_setGrants 81 = .ok (.iload_n 1, 1) := by decide +kernel
theorem dX1_setGrants_82 : decode cX1_setGrants 82 = .ok (.iload 4, 2) := by decide +kernel
theorem dX1_setGrants_84 : decode cX1_setGrants 84 = .ok (.invokevirtual 74, 3) := by decide +kernel
theorem dX1_setGrants_87 : decode cX1_setGrants 87 = .ok (.iinc 4 1, 3) := by decide +kernel
theorem dX1_setGrants_90 : decode cX1_setGrants 90 = .ok (.goto (-36), 3) := by decide +kernel
theorem dX1_setGrants_93 : decode cX1_setGrants 93 = .ok (.aload_n 0, 1) := by decide +kernel
theorem dX1_setGrants_94 : decode cX1_setGrants 94 = .ok (.getfield 7, 3) := by decide +kernel
theorem dX1_setGrants_97 : decode cX1_setGrants 97 = .ok (.iload_n 1, 1) := by decide +kernel
theorem dX1_setGrants_98 : decode cX1_setGrants 98 = .ok (.iload_n 2, 1) := by decide +kernel
theorem dX1_setGrants_99 : decode cX1_setGrants 99 = .ok (.iastore, 1) := by decide +kernel
theorem dX1_setGrants_100 : decode cX1_setGrants 100 = .ok (.iload_n 3, 1) := by decide +kernel
theorem dX1_setGrants_101 : decode cX1_setGrants 101 = .ok (.ireturn, 1) := by decide +kernel
set_option maxRecDepth 20000 in
theorem ggX1_setConflict_X1_isPermission : GoodIn wsX1_setConflict wsX1_isPermission := goodIn_r _ [6, 7, 8, 9, 5, 10] (by decide +kernel) (by decide +kernel)
set_option maxRecDepth 20000 in
theorem gX1_setConflict_X1_isPermission : GoodIn wsX1_setConflict (wsV RX1 68 RX1 yX1_isPermission wsX1_isPermission) := goodIn_app (goodIn_of _ (by decide +kernel)) ggX1_setConflict_X1_isPermission
set_option maxRecDepth 20000 in
theorem ggX1_setConflict_X1_holds : GoodIn wsX1_setConflict wsX1_holds := goodIn_r _ [14, 15, 20, 21, 22, 23, 24, 25, 26, 27, 28, 29, 30, 31, 32, 33, 34, 35] (by decide +kernel) (by decide +kernel)
set_option maxRecDepth 20000 in
theorem gX1_setConflict_X1_holds : GoodIn wsX1_setConflict (wsV RX1 71 RX1 yX1_holds wsX1_holds) := goodIn_app (goodIn_of _ (by decide +kernel)) ggX1_setConflict_X1_holds
set_option maxRecDepth 20000 in
theorem ggX1_setConflict_X1_isIn : GoodIn wsX1_setConflict wsX1_isIn := goodIn_r _ [19] (by decide +kernel) (by decide +kernel)
set_option maxRecDepth 20000 in
theorem gX1_setConflict_X1_isIn : GoodIn wsX1_setConflict (wsV RX1 54 RX1 yX1_isIn wsX1_isIn) := goodIn_app (goodIn_of _ (by decide +kernel)) ggX1_setConflict_X1_isIn
theorem dX1_setConflict_0 : decode cX1_setConflict 0 = .ok (.aload_n 0, 1) := by decide +kernel
theorem dX1_setConflict_1 : decode cX1_setConflict 1 = .ok (.aload_n 0, 1) := by decide +kernel
theorem dX1_setConflict_2 : decode cX1_setConflict 2 = .ok (.iload_n 1, 1) := by decide +kernel
theorem dX1_setConflict_3 : decode cX1_setConflict 3 = .ok (.invokevirtual 68, 3) := by decide +kernel
theorem dX1_setConflict_6 : decode cX1_setConflict 6 = .ok (.ifCond .eq 11, 3) := by decide +kernel
theorem dX1_setConflict_9 : decode cX1_setConflict 9 = .ok (.aload_n 0, 1) := by decide +kernel
theorem dX1_setConflict_10 : decode cX1_setConflict 10 = .ok (.iload_n 2, 1) := by decide +kernel
theorem dX1_setConflict_11 : decode cX1_setConflict 11 = .ok (.invokevirtual 68, 3) := by decide +kernel
theorem dX1_setConflict_14 : decode cX1_setConflict 14 = .ok (.ifCond .ne 7, 3) := by decide +kernel
theorem dX1_setConflict_17 : decode cX1_setConflict 17 = .ok (.iconst 1, 1) := by decide +kernel
theorem dX1_setConflict_18 : decode cX1_setConflict 18 = .ok (.goto 13, 3) := by decide +kernel
theorem dX1_setConflict_21 : decode cX1_setConflict 21 = .ok (.iload_n 1, 1) := by decide +kernel
theorem dX1_setConflict_22 : decode cX1_setConflict 22 = .ok (.iload_n 2, 1) := by decide +kernel
theorem dX1_setConflict_23 : decode cX1_setConflict 23 = .ok (.if_icmp .ne 7, 3) := by decide +kernel
theorem dX1_setConflict_26 : decode cX1_setConflict 26 = .ok (.iconst 2, 1) := by decide +kernel
theorem dX1_setConflict_27 : decode cX1_setConflict 27 = .ok (.goto 4, 3) := by decide +kernel
theorem dX1_setConflict_30 : decode cX1_setConflict 30 = .ok (.iconst 0, 1) := by decide +kernel
theorem dX1_setConflict_31 : decode cX1_setConflict 31 = .ok (.invokevirtual 71, 3) := by decide +kernel
theorem dX1_setConflict_34 : decode cX1_setConflict 34 = .ok (.ifCond .eq 5, 3) := by decide +kernel
theorem dX1_setConflict_37 : decode cX1_setConflict 37 = .ok (.iconst 0, 1) := by decide +kernel
theorem dX1_setConflict_38 : decode cX1_setConflict 38 = .ok (.ireturn, 1) := by decide +kernel
theorem dX1_setConflict_39 : decode cX1_setConflict 39 = .ok (.aload_n 0, 1) := by decide +kernel
theorem dX1_setConflict_40 : decode cX1_setConflict 40 = .ok (.aload_n 0, 1) := by decide +kernel
theorem dX1_setConflict_41 : decode cX1_setConflict 41 = .ok (.getfield 16, 3) := by decide +kernel
theorem dX1_setConflict_44 : decode cX1_setConflict 44 = .ok (.iload_n 1, 1) := by decide +kernel
theorem dX1_setConflict_45 : decode cX1_setConflict 45 = .ok (.iaload, 1) := by decide +kernel
theorem dX1_setConflict_46 : decode cX1_setConflict 46 = .ok (.iload_n 2, 1) := by decide +kernel
theorem dX1_setConflict_47 : decode cX1_setConflict 47 = .ok (.invokevirtual 54, 3) := by decide +kernel
theorem dX1_setConflict_50 : decode cX1_setConflict 50 = .ok (.istore 4, 2) := by decide +kernel
theorem dX1_setConflict_52 : decode cX1_setConflict 52 = .ok (.iload 4, 2) := by decide +kernel
theorem dX1_setConflict_54 : decode cX1_setConflict 54 = .ok (.iload_n 3, 1) := by decide +kernel
theorem dX1_setConflict_55 : decode cX1_setConflict 55 = .ok (.if_icmp .eq 27, 3) := by decide +kernel
theorem dX1_setConflict_58 : decode cX1_setConflict 58 = .ok (.aload_n 0, 1) := by decide +kernel
theorem dX1_setConflict_59 : decode cX1_setConflict 59 = .ok (.getfield 16, 3) := by decide +kernel
theorem dX1_setConflict_62 : decode cX1_setConflict 62 = .ok (.iload_n 1, 1) := by decide +kernel
theorem dX1_setConflict_63 : decode cX1_setConflict 63 = .ok (.dup2, 1) := by decide +kernel
theorem dX1_setConflict_64 : decode cX1_setConflict 64 = .ok (.iaload, 1) := by decide +kernel
theorem dX1_setConflict_65 : decode cX1_setConflict 65 = .ok (.iconst 1, 1) := by decide +kernel
theorem dX1_setConflict_66 : decode cX1_setConflict 66 = .ok (.iload_n 2, 1) := by decide +kernel
theorem dX1_setConflict_67 : decode cX1_setConflict 67 = .ok (.ishl, 1) := by decide +kernel
theorem dX1_setConflict_68 : decode cX1_setConflict 68 = .ok (.ixor, 1) := by decide +kernel
theorem dX1_setConflict_69 : decode cX1_setConflict 69 = .ok (.iastore, 1) := by decide +kernel
theorem dX1_setConflict_70 : decode cX1_setConflict 70 = .ok (.aload_n 0, 1) := by decide +kernel
theorem dX1_setConflict_71 : decode cX1_setConflict 71 = .ok (.getfield 16, 3) := by decide +kernel
theorem dX1_setConflict_74 : decode cX1_setConflict 74 = .ok (.iload_n 2, 1) := by decide +kernel
theorem dX1_setConflict_75 : decode cX1_setConflict 75 = .ok (.dup2, 1) := by decide +kernel
theorem dX1_setConflict_76 : decode cX1_setConflict 76 = .ok (.iaload, 1) := by decide +kernel
theorem dX1_setConflict_77 : decode cX1_setConflict 77 = .ok (.iconst 1, 1) := by decide +kernel
theorem dX1_setConflict_78 : decode cX1_setConflict 78 = .ok (.iload_n 1, 1) := by decide +kernel
theorem dX1_setConflict_79 : decode cX1_setConflict 79 = .ok (.ishl, 1) := by decide +kernel
theorem dX1_setConflict_80 : decode cX1_setConflict 80 = .ok (.ixor, 1) := by decide +kernel
theorem dX1_setConflict_81 : decode cX1_setConflict 81 = .ok (.iastore, 1) := by decide +kernel
theorem dX1_setConflict_82 : decode cX1_setConflict 82 = .ok (.iload 4, 2) := by decide +kernel
theorem dX1_setConflict_84 : decode cX1_setConflict 84 = .ok (.ireturn, 1) := by decide +kernel
set_option maxRecDepth 20000 in
theorem ggX1_setCosts_X1_between : GoodIn wsX1_setCosts wsX1_between := goodIn_r _ [7] (by decide +kernel) (by decide +kernel)
set_option maxRecDepth 20000 in
theorem gX1_setCosts_X1_between : GoodIn wsX1_setCosts (wsV RX1 50 RX1 yX1_between wsX1_between) := goodIn_app (goodIn_of _ (by decide +kernel)) ggX1_setCosts_X1_between
set_option maxRecDepth 20000 in
theorem ggX1_setCosts_X1_holds : GoodIn wsX1_setCosts wsX1_holds := goodIn_r _ [11, 12, 13, 14, 15, 16, 17, 18, 19, 20, 21, 22, 23, 24, 25, 26, 27, 28] (by decide +kernel) (by decide +kernel)
set_option maxRecDepth 20000 in
theorem gX1_setCosts_X1_holds : GoodIn wsX1_setCosts (wsV RX1 71 RX1 yX1_holds wsX1_holds) := goodIn_app (goodIn_of _ (by decide +kernel)) ggX1_setCosts_X1_holds
theorem dX1_setCosts_0 : decode cX1_setCosts 0 = .ok (.aload_n 0, 1) := by decide +kernel
theorem dX1_setCosts_1 : decode cX1_setCosts 1 = .ok (.aload_n 0, 1) := by decide +kernel
theorem dX1_setCosts_2 : decode cX1_setCosts 2 = .ok (.iload_n 1, 1) := by decide +kernel
theorem dX1_setCosts_3 : decode cX1_setCosts 3 = .ok (.iconst 0, 1) := by decide +kernel
theorem dX1_setCosts_4 : decode cX1_setCosts 4 = .ok (.bipush 100, 2) := by decide +kernel
theorem dX1_setCosts_6 : decode cX1_setCosts 6 = .ok (.invokevirtual 50, 3) := by decide +kernel
theorem dX1_setCosts_9 : decode cX1_setCosts 9 = .ok (.ifCond .eq 18, 3) := by decide +kernel
theorem dX1_setCosts_12 : decode cX1_setCosts 12 = .ok (.aload_n 0, 1) := by decide +kernel
theorem dX1_setCosts_13 : decode cX1_setCosts 13 = .ok (.iload_n 2, 1) := by decide +kernel
theorem dX1_setCosts_14 : decode cX1_setCosts 14 = .ok (.iconst 0, 1) := by decide +kernel
theorem dX1_setCosts_15 : decode cX1_setCosts 15 = .ok (.bipush 100, 2) := by decide +kernel
theorem dX1_setCosts_17 : decode cX1_setCosts 17 = .ok (.invokevirtual 50, 3) := by decide +kernel
theorem dX1_setCosts_20 : decode cX1_setCosts 20 = .ok (.ifCond .eq 7, 3) := by decide +kernel
theorem dX1_setCosts_23 : decode cX1_setCosts 23 = .ok (.iconst 0, 1) := by decide +kernel
theorem dX1_setCosts_24 : decode cX1_setCosts 24 = .ok (.goto 4, 3) := by decide +kernel
theorem dX1_setCosts_27 : decode cX1_setCosts 27 = .ok (.iconst 1, 1) := by decide +kernel
theorem dX1_setCosts_28 : decode cX1_setCosts 28 = .ok (.invokevirtual 71, 3) := by decide +kernel
theorem dX1_setCosts_31 : decode cX1_setCosts 31 = .ok (.ifCond .ne 13, 3) := by decide +kernel
theorem dX1_setCosts_34 : decode cX1_setCosts 34 = .ok (.aload_n 0, 1) := by decide +kernel
theorem dX1_setCosts_35 : decode cX1_setCosts 35 = .ok (.iload_n 1, 1) := by decide +kernel
theorem dX1_setCosts_36 : decode cX1_setCosts 36 = .ok (.putfield 34, 3) := by decide +kernel
theorem dX1_setCosts_39 : decode cX1_setCosts 39 = .ok (.aload_n 0, 1) := by decide +kernel
theorem dX1_setCosts_40 : decode cX1_setCosts 40 = .ok (.iload_n 2, 1) := by decide +kernel
theorem dX1_setCosts_41 : decode cX1_setCosts 41 = .ok (.putfield 38, 3) := by decide +kernel
theorem dX1_setCosts_44 : decode cX1_setCosts 44 = .ok (.return_, 1) := by decide +kernel
set_option maxRecDepth 20000 in
theorem ggX1_setSupport_X1_between : GoodIn wsX1_setSupport wsX1_between := goodIn_r _ [6] (by decide +kernel) (by decide +kernel)
set_option maxRecDepth 20000 in
theorem gX1_setSupport_X1_between : GoodIn wsX1_setSupport (wsV RX1 50 RX1 yX1_between wsX1_between) := goodIn_app (goodIn_of _ (by decide +kernel)) ggX1_setSupport_X1_between
set_option maxRecDepth 20000 in
theorem ggX1_setSupport_X1_holds : GoodIn wsX1_setSupport wsX1_holds := goodIn_r _ [10, 11, 12, 13, 14, 15, 16, 17, 18, 19, 20, 21, 22, 23, 24, 25, 26, 27] (by decide +kernel) (by decide +kernel)
set_option maxRecDepth 20000 in
theorem gX1_setSupport_X1_holds : GoodIn wsX1_setSupport (wsV RX1 71 RX1 yX1_holds wsX1_holds) := goodIn_app (goodIn_of _ (by decide +kernel)) ggX1_setSupport_X1_holds
theorem dX1_setSupport_0 : decode cX1_setSupport 0 = .ok (.aload_n 0, 1) := by decide +kernel
theorem dX1_setSupport_1 : decode cX1_setSupport 1 = .ok (.aload_n 0, 1) := by decide +kernel
theorem dX1_setSupport_2 : decode cX1_setSupport 2 = .ok (.iload_n 1, 1) := by decide +kernel
theorem dX1_setSupport_3 : decode cX1_setSupport 3 = .ok (.iconst 1, 1) := by decide +kernel
theorem dX1_setSupport_4 : decode cX1_setSupport 4 = .ok (.bipush 8, 2) := by decide +kernel
theorem dX1_setSupport_6 : decode cX1_setSupport 6 = .ok (.invokevirtual 50, 3) := by decide +kernel
theorem dX1_setSupport_9 : decode cX1_setSupport 9 = .ok (.ifCond .eq 7, 3) := by decide +kernel
theorem dX1_setSupport_12 : decode cX1_setSupport 12 = .ok (.iconst 0, 1) := by decide +kernel
theorem dX1_setSupport_13 : decode cX1_setSupport 13 = .ok (.goto 4, 3) := by decide +kernel
theorem dX1_setSupport_16 : decode cX1_setSupport 16 = .ok (.iconst 1, 1) := by decide +kernel
theorem dX1_setSupport_17 : decode cX1_setSupport 17 = .ok (.invokevirtual 71, 3) := by decide +kernel
theorem dX1_setSupport_20 : decode cX1_setSupport 20 = .ok (.ifCond .eq 5, 3) := by decide +kernel
theorem dX1_setSupport_23 : decode cX1_setSupport 23 = .ok (.iconst (-1), 1) := by decide +kernel
theorem dX1_setSupport_24 : decode cX1_setSupport 24 = .ok (.ireturn, 1) := by decide +kernel
theorem dX1_setSupport_25 : decode cX1_setSupport 25 = .ok (.aload_n 0, 1) := by decide +kernel
theorem dX1_setSupport_26 : decode cX1_setSupport 26 = .ok (.getfield 41, 3) := by decide +kernel
theorem dX1_setSupport_29 : decode cX1_setSupport 29 = .ok (.istore_n 2, 1) := by decide +kernel
theorem dX1_setSupport_30 : decode cX1_setSupport 30 = .ok (.aload_n 0, 1) := by decide +kernel
theorem dX1_setSupport_31 : decode cX1_setSupport 31 = .ok (.iload_n 1, 1) := by decide +kernel
theorem dX1_setSupport_32 : decode cX1_setSupport 32 = .ok (.putfield 41, 3) := by decide +kernel
theorem dX1_setSupport_35 : decode cX1_setSupport 35 = .ok (.iload_n 2, 1) := by decide +kernel
theorem dX1_setSupport_36 : decode cX1_setSupport 36 = .ok (.ireturn, 1) := by decide +kernel
set_option maxRecDepth 20000 in
theorem ggX1_setPeriod_X1_between : GoodIn wsX1_setPeriod wsX1_between := goodIn_r _ [6] (by decide +kernel) (by decide +kernel)
set_option maxRecDepth 20000 in
theorem gX1_setPeriod_X1_between : GoodIn wsX1_setPeriod (wsV RX1 50 RX1 yX1_between wsX1_between) := goodIn_app (goodIn_of _ (by decide +kernel)) ggX1_setPeriod_X1_between
set_option maxRecDepth 20000 in
theorem ggX1_setPeriod_X1_holds : GoodIn wsX1_setPeriod wsX1_holds := goodIn_r _ [10, 11, 12, 13, 14, 15, 16, 17, 18, 19, 20, 21, 22, 23, 24, 25, 26, 27] (by decide +kernel) (by decide +kernel)
set_option maxRecDepth 20000 in
theorem gX1_setPeriod_X1_holds : GoodIn wsX1_setPeriod (wsV RX1 71 RX1 yX1_holds wsX1_holds) := goodIn_app (goodIn_of _ (by decide +kernel)) ggX1_setPeriod_X1_holds
theorem dX1_setPeriod_0 : decode cX1_setPeriod 0 = .ok (.aload_n 0, 1) := by decide +kernel
theorem dX1_setPeriod_1 : decode cX1_setPeriod 1 = .ok (.aload_n 0, 1) := by decide +kernel
theorem dX1_setPeriod_2 : decode cX1_setPeriod 2 = .ok (.iload_n 1, 1) := by decide +kernel
theorem dX1_setPeriod_3 : decode cX1_setPeriod 3 = .ok (.iconst 1, 1) := by decide +kernel
theorem dX1_setPeriod_4 : decode cX1_setPeriod 4 = .ok (.bipush 8, 2) := by decide +kernel
theorem dX1_setPeriod_6 : decode cX1_setPeriod 6 = .ok (.invokevirtual 50, 3) := by decide +kernel
theorem dX1_setPeriod_9 : decode cX1_setPeriod 9 = .ok (.ifCond .eq 7, 3) := by decide +kernel
theorem dX1_setPeriod_12 : decode cX1_setPeriod 12 = .ok (.iconst 0, 1) := by decide +kernel
theorem dX1_setPeriod_13 : decode cX1_setPeriod 13 = .ok (.goto 4, 3) := by decide +kernel
theorem dX1_setPeriod_16 : decode cX1_setPeriod 16 = .ok (.iconst 1, 1) := by decide +kernel
theorem dX1_setPeriod_17 : decode cX1_setPeriod 17 = .ok (.invokevirtual 71, 3) := by decide +kernel
theorem dX1_setPeriod_20 : decode cX1_setPeriod 20 = .ok (.ifCond .eq 5, 3) := by decide +kernel
theorem dX1_setPeriod_23 : decode cX1_setPeriod 23 = .ok (.iconst (-1), 1) := by decide +kernel
theorem dX1_setPeriod_24 : decode cX1_setPeriod 24 = .ok (.ireturn, 1) := by decide +kernel
theorem dX1_setPeriod_25 : decode cX1_setPeriod 25 = .ok (.aload_n 0, 1) := by decide +kernel
theorem dX1_setPeriod_26 : decode cX1_setPeriod 26 = .ok (.getfield 44, 3) := by decide +kernel
theorem dX1_setPeriod_29 : decode cX1_setPeriod 29 = .ok (.istore_n 2, 1) := by decide +kernel
theorem dX1_setPeriod_30 : decode cX1_setPeriod 30 = .ok (.aload_n 0, 1) := by decide +kernel
theorem dX1_setPeriod_31 : decode cX1_setPeriod 31 = .ok (.iload_n 1, 1) := by decide +kernel
theorem dX1_setPeriod_32 : decode cX1_setPeriod 32 = .ok (.putfield 44, 3) := by decide +kernel
theorem dX1_setPeriod_35 : decode cX1_setPeriod 35 = .ok (.iload_n 2, 1) := by decide +kernel
theorem dX1_setPeriod_36 : decode cX1_setPeriod 36 = .ok (.ireturn, 1) := by decide +kernel
set_option maxRecDepth 20000 in
theorem ggX1_review_X1_isUser : GoodIn wsX1_review wsX1_isUser := goodIn_r _ [8, 9, 10, 11, 7, 12] (by decide +kernel) (by decide +kernel)
set_option maxRecDepth 20000 in
theorem gX1_review_X1_isUser : GoodIn wsX1_review (wsV RX1 64 RX1 yX1_isUser wsX1_isUser) := goodIn_app (goodIn_of _ (by decide +kernel)) ggX1_review_X1_isUser
set_option maxRecDepth 20000 in
theorem ggX1_review_X1_isPermission : GoodIn wsX1_review wsX1_isPermission := goodIn_r _ [16, 9, 10, 11, 7, 12] (by decide +kernel) (by decide +kernel)
set_option maxRecDepth 20000 in
theorem gX1_review_X1_isPermission : GoodIn wsX1_review (wsV RX1 68 RX1 yX1_isPermission wsX1_isPermission) := goodIn_app (goodIn_of _ (by decide +kernel)) ggX1_review_X1_isPermission
set_option maxRecDepth 20000 in
theorem ggX1_review_X1_isIn : GoodIn wsX1_review wsX1_isIn := goodIn_r _ [20] (by decide +kernel) (by decide +kernel)
set_option maxRecDepth 20000 in
theorem gX1_review_X1_isIn : GoodIn wsX1_review (wsV RX1 54 RX1 yX1_isIn wsX1_isIn) := goodIn_app (goodIn_of _ (by decide +kernel)) ggX1_review_X1_isIn
set_option maxRecDepth 20000 in
theorem ggX1_review_X1_holds : GoodIn wsX1_review wsX1_holds := goodIn_r _ [24, 25, 26, 27, 28, 29, 30, 31, 32, 33, 34, 35, 36, 37, 38, 39, 40, 41] (by decide +kernel) (by decide +kernel)
set_option maxRecDepth 20000 in
theorem gX1_review_X1_holds : GoodIn wsX1_review (wsV RX1 71 RX1 yX1_holds wsX1_holds) := goodIn_app (goodIn_of _ (by decide +kernel)) ggX1_review_X1_holds
theorem dX1_review_0 : decode cX1_review 0 = .ok (.aload_n 0, 1) := by decide +kernel
theorem dX1_review_1 : decode cX1_review 1 = .ok (.aload_n 0, 1) := by decide +kernel
theorem dX1_review_2 : decode cX1_review 2 = .ok (.iload_n 1, 1) := by decide +kernel
theorem dX1_review_3 : decode cX1_review 3 = .ok (.invokevirtual 64, 3) := by decide +kernel
theorem dX1_review_6 : decode cX1_review 6 = .ok (.ifCond .eq 11, 3) := by decide +kernel
theorem dX1_review_9 : decode cX1_review 9 = .ok (.aload_n 0, 1) := by decide +kernel
theorem dX1_review_10 : decode cX1_review 10 = .ok (.iload_n 2, 1) := by decide +kernel
theorem dX1_review_11 : decode cX1_review 11 = .ok (.invokevirtual 68, 3) := by decide +kernel
theorem dX1_review_14 : decode cX1_review 14 = .ok (.ifCond .ne 7, 3) := by decide +kernel
theorem dX1_review_17 : decode cX1_review 17 = .ok (.iconst 1, 1) := by decide +kernel
theorem dX1_review_18 : decode cX1_review 18 = .ok (.goto 22, 3) := by decide +kernel
theorem dX1_review_21 : decode cX1_review 21 = .ok (.aload_n 0, 1) := by decide +kernel
theorem dX1_review_22 : decode cX1_review 22 = .ok (.aload_n 0, 1) := by decide +kernel
theorem dX1_review_23 : decode cX1_review 23 = .ok (.getfield 7, 3) := by decide +kernel
theorem dX1_review_26 : decode cX1_review 26 = .ok (.iload_n 1, 1) := by decide +kernel
theorem dX1_review_27 : decode cX1_review 27 = .ok (.iaload, 1) := by decide +kernel
theorem dX1_review_28 : decode cX1_review 28 = .ok (.iload_n 2, 1) := by decide +kernel
theorem dX1_review_29 : decode cX1_review 29 = .ok (.invokevirtual 54, 3) := by decide +kernel
theorem dX1_review_32 : decode cX1_review 32 = .ok (.ifCond .eq 7, 3) := by decide +kernel
theorem dX1_review_35 : decode cX1_review 35 = .ok (.iconst 0, 1) := by decide +kernel
theorem dX1_review_36 : decode cX1_review 36 = .ok (.goto 4, 3) := by decide +kernel
theorem dX1_review_39 : decode cX1_review 39 = .ok (.iconst 2, 1) := by decide +kernel
theorem dX1_review_40 : decode cX1_review 40 = .ok (.invokevirtual 71, 3) := by decide +kernel
theorem dX1_review_43 : decode cX1_review 43 = .ok (.ifCond .eq 5, 3) := by decide +kernel
theorem dX1_review_46 : decode cX1_review 46 = .ok (.iconst (-1), 1) := by decide +kernel
theorem dX1_review_47 : decode cX1_review 47 = .ok (.ireturn, 1) := by decide +kernel
theorem dX1_review_48 : decode cX1_review 48 = .ok (.aload_n 0, 1) := by decide +kernel
theorem dX1_review_49 : decode cX1_review 49 = .ok (.getfield 61, 3) := by decide +kernel
theorem dX1_review_52 : decode cX1_review 52 = .ok (.aload_n 0, 1) := by decide +kernel
theorem dX1_review_53 : decode cX1_review 53 = .ok (.getfield 13, 3) := by decide +kernel
theorem dX1_review_56 : decode cX1_review 56 = .ok (.bipush 12, 2) := by decide +kernel
theorem dX1_review_58 : decode cX1_review 58 = .ok (.iload_n 1, 1) := by decide +kernel
theorem dX1_review_59 : decode cX1_review 59 = .ok (.imul, 1) := by decide +kernel
theorem dX1_review_60 : decode cX1_review 60 = .ok (.iload_n 2, 1) := by decide +kernel
theorem dX1_review_61 : decode cX1_review 61 = .ok (.iadd, 1) := by decide +kernel
theorem dX1_review_62 : decode cX1_review 62 = .ok (.iaload, 1) := by decide +kernel
theorem dX1_review_63 : decode cX1_review 63 = .ok (.isub, 1) := by decide +kernel
theorem dX1_review_64 : decode cX1_review 64 = .ok (.istore_n 3, 1) := by decide +kernel
theorem dX1_review_65 : decode cX1_review 65 = .ok (.aload_n 0, 1) := by decide +kernel
theorem dX1_review_66 : decode cX1_review 66 = .ok (.getfield 13, 3) := by decide +kernel
theorem dX1_review_69 : decode cX1_review 69 = .ok (.bipush 12, 2) := by decide +kernel
theorem dX1_review_71 : decode cX1_review 71 = .ok (.iload_n 1, 1) := by decide +kernel
theorem dX1_review_72 : decode cX1_review 72 = .ok (.imul, 1) := by decide +kernel
theorem dX1_review_73 : decode cX1_review 73 = .ok (.iload_n 2, 1) := by decide +kernel
theorem dX1_review_74 : decode cX1_review 74 = .ok (.iadd, 1) := by decide +kernel
theorem dX1_review_75 : decode cX1_review 75 = .ok (.aload_n 0, 1) := by decide +kernel
theorem dX1_review_76 : decode cX1_review 76 = .ok (.getfield 61, 3) := by decide +kernel
theorem dX1_review_79 : decode cX1_review 79 = .ok (.iastore, 1) := by decide +kernel
theorem dX1_review_80 : decode cX1_review 80 = .ok (.iload_n 3, 1) := by decide +kernel
theorem dX1_review_81 : decode cX1_review 81 = .ok (.ireturn, 1) := by decide +kernel
set_option maxRecDepth 20000 in
theorem ggX1_old_X1_isIn : GoodIn wsX1_old wsX1_isIn := goodIn_r _ [8] (by decide +kernel) (by decide +kernel)
set_option maxRecDepth 20000 in
theorem gX1_old_X1_isIn : GoodIn wsX1_old (wsV RX1 54 RX1 yX1_isIn wsX1_isIn) := goodIn_app (goodIn_of _ (by decide +kernel)) ggX1_old_X1_isIn
theorem dX1_old_0 : decode cX1_old 0 = .ok (.iconst 0, 1) := by decide +kernel
theorem dX1_old_1 : decode cX1_old 1 = .ok (.istore_n 3, 1) := by decide +kernel
theorem dX1_old_2 : decode cX1_old 2 = .ok (.iconst 0, 1) := by decide +kernel
theorem dX1_old_3 : decode cX1_old 3 = .ok (.istore 4, 2) := by decide +kernel
theorem dX1_old_5 : decode cX1_old 5 = .ok (.iload 4, 2) := by decide +kernel
theorem dX1_old_7 : decode cX1_old 7 = .ok (.bipush 12, 2) := by decide +kernel
theorem dX1_old_9 : decode cX1_old 9 = .ok (.if_icmp .ge 56, 3) := by decide +kernel
theorem dX1_old_12 : decode cX1_old 12 = .ok (.iload_n 3, 1) := by decide +kernel
theorem dX1_old_13 : decode cX1_old 13 = .ok (.aload_n 0, 1) := by decide +kernel
theorem dX1_old_14 : decode cX1_old 14 = .ok (.aload_n 0, 1) := by decide +kernel
theorem dX1_old_15 : decode cX1_old 15 = .ok (.getfield 7, 3) := by decide +kernel
theorem dX1_old_18 : decode cX1_old 18 = .ok (.iload_n 1, 1) := by decide +kernel
theorem dX1_old_19 : decode cX1_old 19 = .ok (.iaload, 1) := by decide +kernel
theorem dX1_old_20 : decode cX1_old 20 = .ok (.iload 4, 2) := by decide +kernel
theorem dX1_old_22 : decode cX1_old 22 = .ok (.invokevirtual 54, 3) := by decide +kernel
theorem dX1_old_25 : decode cX1_old 25 = .ok (.ifCond .eq 31, 3) := by decide +kernel
theorem dX1_old_28 : decode cX1_old 28 = .ok (.iload_n 2, 1) := by decide +kernel
theorem dX1_old_29 : decode cX1_old 29 = .ok (.aload_n 0, 1) := by decide +kernel
theorem dX1_old_30 : decode cX1_old 30 = .ok (.getfield 13, 3) := by decide +kernel
theorem dX1_old_33 : decode cX1_old 33 = .ok (.bipush 12, 2) := by decide +kernel
theorem dX1_old_35 : decode cX1_old 35 = .ok (.iload_n 1, 1) := by decide +kernel
theorem dX1_old_36 : decode cX1_old 36 = .ok (.imul, 1) := by decide +kernel
theorem dX1_old_37 : decode cX1_old 37 = .ok (.iload 4, 2) := by decide +kernel
theorem dX1_old_39 : decode cX1_old 39 = .ok (.iadd, 1) := by decide +kernel
theorem dX1_old_40 : decode cX1_old 40 = .ok (.iaload, 1) := by decide +kernel
theorem dX1_old_41 : decode cX1_old 41 = .ok (.isub, 1) := by decide +kernel
theorem dX1_old_42 : decode cX1_old 42 = .ok (.aload_n 0, 1) := by decide +kernel
theorem dX1_old_43 : decode cX1_old 43 = .ok (.getfield 44, 3) := by decide +kernel
theorem dX1_old_46 : decode cX1_old 46 = .ok (.if_icmp .lt 10, 3) := by decide +kernel
theorem dX1_old_49 : decode cX1_old 49 = .ok (.iconst 1, 1) := by decide +kernel
theorem dX1_old_50 : decode cX1_old 50 = .ok (.iload 4, 2) := by decide +kernel
theorem dX1_old_52 : decode cX1_old 52 = .ok (.ishl, 1) := by decide +kernel
theorem dX1_old_53 : decode cX1_old 53 = .ok (.goto 4, 3) := by decide +kernel
theorem dX1_old_56 : decode cX1_old 56 = .ok (.iconst 0, 1) := by decide +kernel
theorem dX1_old_57 : decode cX1_old 57 = .ok (.ior, 1) := by decide +kernel
theorem dX1_old_58 : decode cX1_old 58 = .ok (.istore_n 3, 1) := by decide +kernel
theorem dX1_old_59 : decode cX1_old 59 = .ok (.iinc 4 1, 3) := by decide +kernel
theorem dX1_old_62 : decode cX1_old 62 = .ok (.goto (-57), 3) := by decide +kernel
theorem dX1_old_65 : decode cX1_old 65 = .ok (.iload_n 3, 1) := by decide +kernel
theorem dX1_old_66 : decode cX1_old 66 = .ok (.ireturn, 1) := by decide +kernel
set_option maxRecDepth 20000 in
theorem ggX1_nextQuarter_X1_holds : GoodIn wsX1_nextQuarter wsX1_holds := goodIn_r _ [7, 8, 23, 24, 25, 26, 27, 28, 29, 30, 31, 32, 33, 34, 35, 36, 37, 38] (by decide +kernel) (by decide +kernel)
set_option maxRecDepth 20000 in
theorem gX1_nextQuarter_X1_holds : GoodIn wsX1_nextQuarter (wsV RX1 71 RX1 yX1_holds wsX1_holds) := goodIn_app (goodIn_of _ (by decide +kernel)) ggX1_nextQuarter_X1_holds
set_option maxRecDepth 20000 in
theorem ggX1_nextQuarter_X1_old : GoodIn wsX1_nextQuarter wsX1_old := goodIn_r _ [12, 2, 13, 14, 15, 16, 17, 6, 18, 23, 24, 25, 26, 27, 28, 29, 30, 31, 32, 33, 34, 35, 36, 37, 38] (by decide +kernel) (by decide +kernel)
set_option maxRecDepth 20000 in
theorem gX1_nextQuarter_X1_old : GoodIn wsX1_nextQuarter (wsV RX1 82 RX1 yX1_old wsX1_old) := goodIn_app (goodIn_of _ (by decide +kernel)) ggX1_nextQuarter_X1_old
set_option maxRecDepth 20000 in
theorem ggX1_nextQuarter_X1_size : GoodIn wsX1_nextQuarter wsX1_size := goodIn_r _ [22] (by decide +kernel) (by decide +kernel)
set_option maxRecDepth 20000 in
theorem gX1_nextQuarter_X1_size : GoodIn wsX1_nextQuarter (wsV RX1 78 RX1 yX1_size wsX1_size) := goodIn_app (goodIn_of _ (by decide +kernel)) ggX1_nextQuarter_X1_size
theorem dX1_nextQuarter_0 : decode cX1_nextQuarter 0 = .ok (.aload_n 0, 1) := by decide +kernel
theorem dX1_nextQuarter_1 : decode cX1_nextQuarter 1 = .ok (.aload_n 0, 1) := by decide +kernel
theorem dX1_nextQuarter_2 : decode cX1_nextQuarter 2 = .ok (.getfield 61, 3) := by decide +kernel
theorem dX1_nextQuarter_5 : decode cX1_nextQuarter 5 = .ok (.bipush 100, 2) := by decide +kernel
theorem dX1_nextQuarter_7 : decode cX1_nextQuarter 7 = .ok (.if_icmp .ne 7, 3) := by decide +kernel
theorem dX1_nextQuarter_10 : decode cX1_nextQuarter 10 = .ok (.iconst 1, 1) := by decide +kernel
theorem dX1_nextQuarter_11 : decode cX1_nextQuarter 11 = .ok (.goto 4, 3) := by decide +kernel
theorem dX1_nextQuarter_14 : decode cX1_nextQuarter 14 = .ok (.iconst 0, 1) := by decide +kernel
theorem dX1_nextQuarter_15 : decode cX1_nextQuarter 15 = .ok (.invokevirtual 71, 3) := by decide +kernel
theorem dX1_nextQuarter_18 : decode cX1_nextQuarter 18 = .ok (.ifCond .eq 5, 3) := by decide +kernel
theorem dX1_nextQuarter_21 : decode cX1_nextQuarter 21 = .ok (.iconst (-1), 1) := by decide +kernel
theorem dX1_nextQuarter_22 : decode cX1_nextQuarter 22 = .ok (.ireturn, 1) := by decide +kernel
theorem dX1_nextQuarter_23 : decode cX1_nextQuarter 23 = .ok (.aload_n 0, 1) := by decide +kernel
theorem dX1_nextQuarter_24 : decode cX1_nextQuarter 24 = .ok (.dup, 1) := by decide +kernel
theorem dX1_nextQuarter_25 : decode cX1_nextQuarter 25 = .ok (.getfield 61, 3) := by decide +kernel
theorem dX1_nextQuarter_28 : decode cX1_nextQuarter 28 = .ok (.iconst 1, 1) := by decide +kernel
theorem dX1_nextQuarter_29 : decode cX1_nextQuarter 29 = .ok (.iadd, 1) := by decide +kernel
theorem dX1_nextQuarter_30 : decode cX1_nextQuarter 30 = .ok (.putfield 61, 3) := by decide +kernel
theorem dX1_nextQuarter_33 : decode cX1_nextQuarter 33 = .ok (.iconst 0, 1) := by decide +kernel
theorem dX1_nextQuarter_34 : decode cX1_nextQuarter 34 = .ok (.istore_n 1, 1) := by decide +kernel
theorem dX1_nextQuarter_35 : decode cX1_nextQuarter 35 = .ok (.iconst 0, 1) := by decide +kernel
theorem dX1_nextQuarter_36 : decode cX1_nextQuarter 36 = .ok (.istore_n 2, 1) := by decide +kernel
theorem dX1_nextQuarter_37 : decode cX1_nextQuarter 37 = .ok (.iload_n 2, 1) := by decide +kernel
theorem dX1_nextQuarter_38 : decode cX1_nextQuarter 38 = .ok (.bipush 8, 2) := by decide +kernel
theorem dX1_nextQuarter_40 : decode cX1_nextQuarter 40 = .ok (.if_icmp .ge 39, 3) := by decide +kernel
theorem dX1_nextQuarter_43 : decode cX1_nextQuarter 43 = .ok (.aload_n 0, 1) := by decide +kernel
theorem dX1_nextQuarter_44 : decode cX1_nextQuarter 44 = .ok (.iload_n 2, 1) := by decide +kernel
theorem dX1_nextQuarter_45 : decode cX1_nextQuarter 45 = .ok (.aload_n 0, 1) := by decide +kernel
theorem dX1_nextQuarter_46 : decode cX1_nextQuarter 46 = .ok (.getfield 61, 3) := by decide +kernel
theorem dX1_nextQuarter_49 : decode cX1_nextQuarter 49 = .ok (.invokevirtual 82, 3) := by decide +kernel
theorem dX1_nextQuarter_52 : decode cX1_nextQuarter 52 = .ok (.istore_n 3, 1) := by decide +kernel
theorem dX1_nextQuarter_53 : decode cX1_nextQuarter 53 = .ok (.iload_n 1, 1) := by decide +kernel
theorem dX1_nextQuarter_54 : decode cX1_nextQuarter 54 = .ok (.aload_n 0, 1) := by decide +kernel
theorem dX1_nextQuarter_55 : decode cX1_nextQuarter 55 = .ok (.iload_n 3, 1) := by decide +kernel
theorem dX1_nextQuarter_56 : decode cX1_nextQuarter 56 = .ok (.invokevirtual 78, 3) := by decide +kernel
theorem dX1_nextQuarter_59 : decode cX1_nextQuarter 59 = .ok (.iadd, 1) := by decide +kernel
theorem dX1_nextQuarter_60 : decode cX1_nextQuarter 60 = .ok (.istore_n 1, 1) := by decide +kernel
theorem dX1_nextQuarter_61 : decode cX1_nextQuarter 61 = .ok (.aload_n 0, 1) := by decide +kernel
theorem dX1_nextQuarter_62 : decode cX1_nextQuarter 62 = .ok (.getfield 7, 3) := by decide +kernel
theorem dX1_nextQuarter_65 : decode cX1_nextQuarter 65 = .ok (.iload_n 2, 1) := by decide +kernel
theorem dX1_nextQuarter_66 : decode cX1_nextQuarter 66 = .ok (.dup2, 1) := by decide +kernel
theorem dX1_nextQuarter_67 : decode cX1_nextQuarter 67 = .ok (.iaload, 1) := by decide +kernel
theorem dX1_nextQuarter_68 : decode cX1_nextQuarter 68 = .ok (.iload_n 3, 1) := by decide +kernel
theorem dX1_nextQuarter_69 : decode cX1_nextQuarter 69 = .ok (.iconst (-1), 1) := by decide +kernel
theorem dX1_nextQuarter_70 : decode cX1_nextQuarter 70 = .ok (.ixor, 1) := by decide +kernel
theorem dX1_nextQuarter_71 : decode cX1_nextQuarter 71 = .ok (.iand, 1) := by decide +kernel
theorem dX1_nextQuarter_72 : decode cX1_nextQuarter 72 = .ok (.iastore, 1) := by decide +kernel
theorem dX1_nextQuarter_73 : decode cX1_nextQuarter 73 = .ok (.iinc 2 1, 3) := by decide +kernel
theorem dX1_nextQuarter_76 : decode cX1_nextQuarter 76 = .ok (.goto (-39), 3) := by decide +kernel
theorem dX1_nextQuarter_79 : decode cX1_nextQuarter 79 = .ok (.iload_n 1, 1) := by decide +kernel
theorem dX1_nextQuarter_80 : decode cX1_nextQuarter 80 = .ok (.ireturn, 1) := by decide +kernel
set_option maxRecDepth 20000 in
theorem ggX1_find_X1_isIn : GoodIn wsX1_find wsX1_isIn := goodIn_r _ [10] (by decide +kernel) (by decide +kernel)
set_option maxRecDepth 20000 in
theorem gX1_find_X1_isIn : GoodIn wsX1_find (wsV RX1 54 RX1 yX1_isIn wsX1_isIn) := goodIn_app (goodIn_of _ (by decide +kernel)) ggX1_find_X1_isIn
set_option maxRecDepth 20000 in
theorem ggX1_find_X1_isProper : GoodIn wsX1_find wsX1_isProper := goodIn_r _ [14, 15, 6, 7, 8, 9, 10, 28, 29, 30, 31, 32, 33, 34, 35, 36, 37, 38, 39, 40, 41, 42, 43] (by decide +kernel) (by decide +kernel)
set_option maxRecDepth 20000 in
theorem gX1_find_X1_isProper : GoodIn wsX1_find (wsV RX1 89 RX1 yX1_isProper wsX1_isProper) := goodIn_app (goodIn_of _ (by decide +kernel)) ggX1_find_X1_isProper
set_option maxRecDepth 20000 in
theorem ggX1_find_X1_whoHas : GoodIn wsX1_find wsX1_whoHas := goodIn_r _ [19, 20, 21, 22, 9, 23, 2, 28, 29, 30, 31, 32, 33, 34, 35, 36, 37, 38, 39, 40, 41, 42, 43] (by decide +kernel) (by decide +kernel)
set_option maxRecDepth 20000 in
theorem gX1_find_X1_whoHas : GoodIn wsX1_find (wsV RX1 92 RX1 yX1_whoHas wsX1_whoHas) := goodIn_app (goodIn_of _ (by decide +kernel)) ggX1_find_X1_whoHas
set_option maxRecDepth 20000 in
theorem ggX1_find_X1_size : GoodIn wsX1_find wsX1_size := goodIn_r _ [27] (by decide +kernel) (by decide +kernel)
set_option maxRecDepth 20000 in
theorem gX1_find_X1_size : GoodIn wsX1_find (wsV RX1 78 RX1 yX1_size wsX1_size) := goodIn_app (goodIn_of _ (by decide +kernel)) ggX1_find_X1_size
theorem dX1_find_0 : decode cX1_find 0 = .ok (.iconst 0, 1) := by decide +kernel
theorem dX1_find_1 : decode cX1_find 1 = .ok (.istore_n 1, 1) := by decide +kernel
theorem dX1_find_2 : decode cX1_find 2 = .ok (.iload_n 1, 1) := by decide +kernel
theorem dX1_find_3 : decode cX1_find 3 = .ok (.sipush 4096, 3) := by decide +kernel
theorem dX1_find_6 : decode cX1_find 6 = .ok (.if_icmp .ge 16, 3) := by decide +kernel
theorem dX1_find_9 : decode cX1_find 9 = .ok (.aload_n 0, 1) := by decide +kernel
theorem dX1_find_10 : decode cX1_find 10 = .ok (.getfield 25, 3) := by decide +kernel
theorem dX1_find_13 : decode cX1_find 13 = .ok (.iload_n 1, 1) := by decide +kernel
theorem dX1_find_14 : decode cX1_find 14 = .ok (.iconst 0, 1) := by decide +kernel
theorem dX1_find_15 : decode cX1_find 15 = .ok (.iastore, 1) := by decide +kernel
theorem dX1_find_16 : decode cX1_find 16 = .ok (.iinc 1 1, 3) := by decide +kernel
theorem dX1_find_19 : decode cX1_find 19 = .ok (.goto (-17), 3) := by decide +kernel
theorem dX1_find_22 : decode cX1_find 22 = .ok (.iconst 1, 1) := by decide +kernel
theorem dX1_find_23 : decode cX1_find 23 = .ok (.istore_n 1, 1) := by decide +kernel
theorem dX1_find_24 : decode cX1_find 24 = .ok (.iload_n 1, 1) := by decide +kernel
theorem dX1_find_25 : decode cX1_find 25 = .ok (.sipush 256, 3) := by decide +kernel
theorem dX1_find_28 : decode cX1_find 28 = .ok (.if_icmp .ge 58, 3) := by decide +kernel
theorem dX1_find_31 : decode cX1_find 31 = .ok (.sipush 4095, 3) := by decide +kernel
theorem dX1_find_34 : decode cX1_find 34 = .ok (.istore_n 2, 1) := by decide +kernel
theorem dX1_find_35 : decode cX1_find 35 = .ok (.iconst 0, 1) := by decide +kernel
theorem dX1_find_36 : decode cX1_find 36 = .ok (.istore_n 3, 1) := by decide +kernel
theorem dX1_find_37 : decode cX1_find 37 = .ok (.iload_n 3, 1) := by decide +kernel
theorem dX1_find_38 : decode cX1_find 38 = .ok (.bipush 8, 2) := by decide +kernel
theorem dX1_find_40 : decode cX1_find 40 = .ok (.if_icmp .ge 33, 3) := by decide +kernel
theorem dX1_find_43 : decode cX1_find 43 = .ok (.iload_n 2, 1) := by decide +kernel
theorem dX1_find_44 : decode cX1_find 44 = .ok (.aload_n 0, 1) := by decide +kernel
theorem dX1_find_45 : decode cX1_find 45 = .ok (.iload_n 1, 1) := by decide +kernel
theorem dX1_find_46 : decode cX1_find 46 = .ok (.iload_n 3, 1) := by decide +kernel
theorem dX1_find_47 : decode cX1_find 47 = .ok (.invokevirtual 54, 3) := by decide +kernel
theorem dX1_find_50 : decode cX1_find 50 = .ok (.ifCond .eq 12, 3) := by decide +kernel
theorem dX1_find_53 : decode cX1_find 53 = .ok (.aload_n 0, 1) := by decide +kernel
theorem dX1_find_54 : decode cX1_find 54 = .ok (.getfield 7, 3) := by decide +kernel
theorem dX1_find_57 : decode cX1_find 57 = .ok (.iload_n 3, 1) := by decide +kernel
theorem dX1_find_58 : decode cX1_find 58 = .ok (.iaload, 1) := by decide +kernel
theorem dX1_find_59 : decode cX1_find 59 = .ok (.goto 6, 3) := by decide +kernel
theorem dX1_find_62 : decode cX1_find 62 = .ok (.sipush 4095, 3) := by decide +kernel
theorem dX1_find_65 : decode cX1_find 65 = .ok (.iand, 1) := by decide +kernel
theorem dX1_find_66 : decode cX1_find 66 = .ok (.istore_n 2, 1) := by decide +kernel
theorem dX1_find_67 : decode cX1_find 67 = .ok (.iinc 3 1, 3) := by decide +kernel
theorem dX1_find_70 : decode cX1_find 70 = .ok (.goto (-33), 3) := by decide +kernel
theorem dX1_find_73 : decode cX1_find 73 = .ok (.aload_n 0, 1) := by decide +kernel
theorem dX1_find_74 : decode cX1_find 74 = .ok (.getfield 25, 3) := by decide +kernel
theorem dX1_find_77 : decode cX1_find 77 = .ok (.iload_n 2, 1) := by decide +kernel
theorem dX1_find_78 : decode cX1_find 78 = .ok (.iconst 1, 1) := by decide +kernel
theorem dX1_find_79 : decode cX1_find 79 = .ok (.iastore, 1) := by decide +kernel
theorem dX1_find_80 : decode cX1_find 80 = .ok (.iinc 1 1, 3) := by decide +kernel
theorem dX1_find_83 : decode cX1_find 83 = .ok (.goto (-59), 3) := by decide +kernel
theorem dX1_find_86 : decode cX1_find 86 = .ok (.aload_n 0, 1) := by decide +kernel
theorem dX1_find_87 : decode cX1_find 87 = .ok (.iconst 0, 1) := by decide +kernel
theorem dX1_find_88 : decode cX1_find 88 = .ok (.putfield 86, 3) := by decide +kernel
theorem dX1_find_91 : decode cX1_find 91 = .ok (.iconst 1, 1) := by decide +kernel
theorem dX1_find_92 : decode cX1_find 92 = .ok (.istore_n 1, 1) := by decide +kernel
theorem dX1_find_93 : decode cX1_find 93 = .ok (.iload_n 1, 1) := by decide +kernel
theorem dX1_find_94 : decode cX1_find 94 = .ok (.sipush 4096, 3) := by decide +kernel
theorem dX1_find_97 : decode cX1_find 97 = .ok (.if_icmp .ge 63, 3) := by decide +kernel
theorem dX1_find_100 : decode cX1_find 100 = .ok (.aload_n 0, 1) := by decide +kernel
theorem dX1_find_101 : decode cX1_find 101 = .ok (.getfield 25, 3) := by decide +kernel
theorem dX1_find_104 : decode cX1_find 104 = .ok (.iload_n 1, 1) := by decide +kernel
theorem dX1_find_105 : decode cX1_find 105 = .ok (.iaload, 1) := by decide +kernel
theorem dX1_find_106 : decode cX1_find 106 = .ok (.iconst 1, 1) := by decide +kernel
theorem dX1_find_107 : decode cX1_find 107 = .ok (.if_icmp .ne 47, 3) := by decide +kernel
theorem dX1_find_110 : decode cX1_find 110 = .ok (.aload_n 0, 1) := by decide +kernel
theorem dX1_find_111 : decode cX1_find 111 = .ok (.iload_n 1, 1) := by decide +kernel
theorem dX1_find_112 : decode cX1_find 112 = .ok (.invokevirtual 89, 3) := by decide +kernel
theorem dX1_find_115 : decode cX1_find 115 = .ok (.ifCond .eq 39, 3) := by decide +kernel
theorem dX1_find_118 : decode cX1_find 118 = .ok (.aload_n 0, 1) := by decide +kernel
theorem dX1_find_119 : decode cX1_find 119 = .ok (.aload_n 0, 1) := by decide +kernel
theorem dX1_find_120 : decode cX1_find 120 = .ok (.iload_n 1, 1) := by decide +kernel
theorem dX1_find_121 : decode cX1_find 121 = .ok (.invokevirtual 92, 3) := by decide +kernel
theorem dX1_find_124 : decode cX1_find 124 = .ok (.invokevirtual 78, 3) := by decide +kernel
theorem dX1_find_127 : decode cX1_find 127 = .ok (.aload_n 0, 1) := by decide +kernel
theorem dX1_find_128 : decode cX1_find 128 = .ok (.getfield 41, 3) := by decide +kernel
theorem dX1_find_131 : decode cX1_find 131 = .ok (.if_icmp .lt 23, 3) := by decide +kernel
theorem dX1_find_134 : decode cX1_find 134 = .ok (.aload_n 0, 1) := by decide +kernel
theorem dX1_find_135 : decode cX1_find 135 = .ok (.getfield 22, 3) := by decide +kernel
theorem dX1_find_138 : decode cX1_find 138 = .ok (.aload_n 0, 1) := by decide +kernel
theorem dX1_find_139 : decode cX1_find 139 = .ok (.getfield 86, 3) := by decide +kernel
theorem dX1_find_142 : decode cX1_find 142 = .ok (.iload_n 1, 1) := by decide +kernel
theorem dX1_find_143 : decode cX1_find 143 = .ok (.iastore, 1) := by decide +kernel
theorem dX1_find_144 : decode cX1_find 144 = .ok (.aload_n 0, 1) := by decide +kernel
theorem dX1_find_145 : decode cX1_find 145 = .ok (.dup, 1) := by decide +kernel
theorem dX1_find_146 : decode cX1_find 146 = .ok (.getfield 86, 3) := by decide +kernel
theorem dX1_find_149 : decode cX1_find 149 = .ok (.iconst 1, 1) := by decide +kernel
theorem dX1_find_150 : decode cX1_find 150 = .ok (.iadd, 1) := by decide +kernel
theorem dX1_find_151 : decode cX1_find 151 = .ok (.putfield 86, 3) := by decide +kernel
theorem dX1_find_154 : decode cX1_find 154 = .ok (.iinc 1 1, 3) := by decide +kernel
theorem dX1_find_157 : decode cX1_find 157 = .ok (.goto (-64), 3) := by decide +kernel
theorem dX1_find_160 : decode cX1_find 160 = .ok (.return_, 1) := by decide +kernel
theorem dX1_uncover_0 : decode cX1_uncover 0 = .ok (.iconst 0, 1) := by decide +kernel
theorem dX1_uncover_1 : decode cX1_uncover 1 = .ok (.istore_n 1, 1) := by decide +kernel
theorem dX1_uncover_2 : decode cX1_uncover 2 = .ok (.iload_n 1, 1) := by decide +kernel
theorem dX1_uncover_3 : decode cX1_uncover 3 = .ok (.bipush 8, 2) := by decide +kernel
theorem dX1_uncover_5 : decode cX1_uncover 5 = .ok (.if_icmp .ge 16, 3) := by decide +kernel
theorem dX1_uncover_8 : decode cX1_uncover 8 = .ok (.aload_n 0, 1) := by decide +kernel
theorem dX1_uncover_9 : decode cX1_uncover 9 = .ok (.getfield 28, 3) := by decide +kernel
theorem dX1_uncover_12 : decode cX1_uncover 12 = .ok (.iload_n 1, 1) := by decide +kernel
theorem dX1_uncover_13 : decode cX1_uncover 13 = .ok (.iconst 0, 1) := by decide +kernel
theorem dX1_uncover_14 : decode cX1_uncover 14 = .ok (.iastore, 1) := by decide +kernel
theorem dX1_uncover_15 : decode cX1_uncover 15 = .ok (.iinc 1 1, 3) := by decide +kernel
theorem dX1_uncover_18 : decode cX1_uncover 18 = .ok (.goto (-16), 3) := by decide +kernel
theorem dX1_uncover_21 : decode cX1_uncover 21 = .ok (.return_, 1) := by decide +kernel
set_option maxRecDepth 20000 in
theorem ggX1_add_X1_isWithin : GoodIn wsX1_add wsX1_isWithin := goodIn_r _ [6, 7, 8, 9, 10, 11, 12, 13, 14, 15, 16, 17, 18, 19, 20, 21, 22, 23] (by decide +kernel) (by decide +kernel)
set_option maxRecDepth 20000 in
theorem gX1_add_X1_isWithin : GoodIn wsX1_add (wsV RX1 58 RX1 yX1_isWithin wsX1_isWithin) := goodIn_app (goodIn_of _ (by decide +kernel)) ggX1_add_X1_isWithin
theorem dX1_add_0 : decode cX1_add 0 = .ok (.iconst 0, 1) := by decide +kernel
theorem dX1_add_1 : decode cX1_add 1 = .ok (.istore_n 2, 1) := by decide +kernel
theorem dX1_add_2 : decode cX1_add 2 = .ok (.iload_n 2, 1) := by decide +kernel
theorem dX1_add_3 : decode cX1_add 3 = .ok (.bipush 8, 2) := by decide +kernel
theorem dX1_add_5 : decode cX1_add 5 = .ok (.if_icmp .ge 32, 3) := by decide +kernel
theorem dX1_add_8 : decode cX1_add 8 = .ok (.aload_n 0, 1) := by decide +kernel
theorem dX1_add_9 : decode cX1_add 9 = .ok (.getfield 28, 3) := by decide +kernel
theorem dX1_add_12 : decode cX1_add 12 = .ok (.iload_n 2, 1) := by decide +kernel
theorem dX1_add_13 : decode cX1_add 13 = .ok (.dup2, 1) := by decide +kernel
theorem dX1_add_14 : decode cX1_add 14 = .ok (.iaload, 1) := by decide +kernel
theorem dX1_add_15 : decode cX1_add 15 = .ok (.aload_n 0, 1) := by decide +kernel
theorem dX1_add_16 : decode cX1_add 16 = .ok (.iload_n 1, 1) := by decide +kernel
theorem dX1_add_17 : decode cX1_add 17 = .ok (.iload_n 2, 1) := by decide +kernel
theorem dX1_add_18 : decode cX1_add 18 = .ok (.invokevirtual 58, 3) := by decide +kernel
theorem dX1_add_21 : decode cX1_add 21 = .ok (.ifCond .eq 7, 3) := by decide +kernel
theorem dX1_add_24 : decode cX1_add 24 = .ok (.iload_n 1, 1) := by decide +kernel
theorem dX1_add_25 : decode cX1_add 25 = .ok (.goto 4, 3) := by decide +kernel
theorem dX1_add_28 : decode cX1_add 28 = .ok (.iconst 0, 1) := by decide +kernel
theorem dX1_add_29 : decode cX1_add 29 = .ok (.ior, 1) := by decide +kernel
theorem dX1_add_30 : decode cX1_add 30 = .ok (.iastore, 1) := by decide +kernel
theorem dX1_add_31 : decode cX1_add 31 = .ok (.iinc 2 1, 3) := by decide +kernel
theorem dX1_add_34 : decode cX1_add 34 = .ok (.goto (-32), 3) := by decide +kernel
theorem dX1_add_37 : decode cX1_add 37 = .ok (.return_, 1) := by decide +kernel
set_option maxRecDepth 20000 in
theorem ggX1_uncovered_X1_size : GoodIn wsX1_uncovered wsX1_size := goodIn_r _ [7] (by decide +kernel) (by decide +kernel)
set_option maxRecDepth 20000 in
theorem gX1_uncovered_X1_size : GoodIn wsX1_uncovered (wsV RX1 78 RX1 yX1_size wsX1_size) := goodIn_app (goodIn_of _ (by decide +kernel)) ggX1_uncovered_X1_size
theorem dX1_uncovered_0 : decode cX1_uncovered 0 = .ok (.iconst 0, 1) := by decide +kernel
theorem dX1_uncovered_1 : decode cX1_uncovered 1 = .ok (.istore_n 1, 1) := by decide +kernel
theorem dX1_uncovered_2 : decode cX1_uncovered 2 = .ok (.iconst 0, 1) := by decide +kernel
theorem dX1_uncovered_3 : decode cX1_uncovered 3 = .ok (.istore_n 2, 1) := by decide +kernel
theorem dX1_uncovered_4 : decode cX1_uncovered 4 = .ok (.iload_n 2, 1) := by decide +kernel
theorem dX1_uncovered_5 : decode cX1_uncovered 5 = .ok (.bipush 8, 2) := by decide +kernel
theorem dX1_uncovered_7 : decode cX1_uncovered 7 = .ok (.if_icmp .ge 31, 3) := by decide +kernel
theorem dX1_uncovered_10 : decode cX1_uncovered 10 = .ok (.iload_n 1, 1) := by decide +kernel
theorem dX1_uncovered_11 : decode cX1_uncovered 11 = .ok (.aload_n 0, 1) := by decide +kernel
theorem dX1_uncovered_12 : decode cX1_uncovered 12 = .ok (.aload_n 0, 1) := by decide +kernel
theorem dX1_uncovered_13 : decode cX1_uncovered 13 = .ok (.getfield 7, 3) := by decide +kernel
theorem dX1_uncovered_16 : decode cX1_uncovered 16 = .ok (.iload_n 2, 1) := by decide +kernel
theorem dX1_uncovered_17 : decode cX1_uncovered 17 = .ok (.iaload, 1) := by decide +kernel
theorem dX1_uncovered_18 : decode cX1_uncovered 18 = .ok (.aload_n 0, 1) := by decide +kernel
theorem dX1_uncovered_19 : decode cX1_uncovered 19 = .ok (.getfield 28, 3) := by decide +kernel
theorem dX1_uncovered_22 : decode cX1_uncovered 22 = .ok (.iload_n 2, 1) := by decide +kernel
theorem dX1_uncovered_23 : decode cX1_uncovered 23 = .ok (.iaload, 1) := by decide +kernel
theorem dX1_uncovered_24 : decode cX1_uncovered 24 = .ok (.iconst (-1), 1) := by decide +kernel
theorem dX1_uncovered_25 : decode cX1_uncovered 25 = .ok (.ixor, 1) := by decide +kernel
theorem dX1_uncovered_26 : decode cX1_uncovered 26 = .ok (.iand, 1) := by decide +kernel
theorem dX1_uncovered_27 : decode cX1_uncovered 27 = .ok (.invokevirtual 78, 3) := by decide +kernel
theorem dX1_uncovered_30 : decode cX1_uncovered 30 = .ok (.iadd, 1) := by decide +kernel
theorem dX1_uncovered_31 : decode cX1_uncovered 31 = .ok (.istore_n 1, 1) := by decide +kernel
theorem dX1_uncovered_32 : decode cX1_uncovered 32 = .ok (.iinc 2 1, 3) := by decide +kernel
theorem dX1_uncovered_35 : decode cX1_uncovered 35 = .ok (.goto (-31), 3) := by decide +kernel
theorem dX1_uncovered_38 : decode cX1_uncovered 38 = .ok (.iload_n 1, 1) := by decide +kernel
theorem dX1_uncovered_39 : decode cX1_uncovered 39 = .ok (.ireturn, 1) := by decide +kernel
set_option maxRecDepth 20000 in
theorem ggX1_gain_X1_isWithin : GoodIn wsX1_gain wsX1_isWithin := goodIn_r _ [6, 7, 12, 13, 14, 15, 16, 17, 18, 19, 20, 21, 22, 23, 24, 25, 26, 27] (by decide +kernel) (by decide +kernel)
set_option maxRecDepth 20000 in
theorem gX1_gain_X1_isWithin : GoodIn wsX1_gain (wsV RX1 58 RX1 yX1_isWithin wsX1_isWithin) := goodIn_app (goodIn_of _ (by decide +kernel)) ggX1_gain_X1_isWithin
set_option maxRecDepth 20000 in
theorem ggX1_gain_X1_size : GoodIn wsX1_gain wsX1_size := goodIn_r _ [11] (by decide +kernel) (by decide +kernel)
set_option maxRecDepth 20000 in
theorem gX1_gain_X1_size : GoodIn wsX1_gain (wsV RX1 78 RX1 yX1_size wsX1_size) := goodIn_app (goodIn_of _ (by decide +kernel)) ggX1_gain_X1_size
theorem dX1_gain_0 : decode cX1_gain 0 = .ok (.iconst 0, 1) := by decide +kernel
theorem dX1_gain_1 : decode cX1_gain 1 = .ok (.istore_n 2, 1) := by decide +kernel
theorem dX1_gain_2 : decode cX1_gain 2 = .ok (.iconst 0, 1) := by decide +kernel
theorem dX1_gain_3 : decode cX1_gain 3 = .ok (.istore_n 3, 1) := by decide +kernel
theorem dX1_gain_4 : decode cX1_gain 4 = .ok (.iload_n 3, 1) := by decide +kernel
theorem dX1_gain_5 : decode cX1_gain 5 = .ok (.bipush 8, 2) := by decide +kernel
theorem dX1_gain_7 : decode cX1_gain 7 = .ok (.if_icmp .ge 39, 3) := by decide +kernel
theorem dX1_gain_10 : decode cX1_gain 10 = .ok (.iload_n 2, 1) := by decide +kernel
theorem dX1_gain_11 : decode cX1_gain 11 = .ok (.aload_n 0, 1) := by decide +kernel
theorem dX1_gain_12 : decode cX1_gain 12 = .ok (.iload_n 1, 1) := by decide +kernel
theorem dX1_gain_13 : decode cX1_gain 13 = .ok (.iload_n 3, 1) := by decide +kernel
theorem dX1_gain_14 : decode cX1_gain 14 = .ok (.invokevirtual 58, 3) := by decide +kernel
theorem dX1_gain_17 : decode cX1_gain 17 = .ok (.ifCond .eq 20, 3) := by decide +kernel
theorem dX1_gain_20 : decode cX1_gain 20 = .ok (.aload_n 0, 1) := by decide +kernel
theorem dX1_gain_21 : decode cX1_gain 21 = .ok (.iload_n 1, 1) := by decide +kernel
theorem dX1_gain_22 : decode cX1_gain 22 = .ok (.aload_n 0, 1) := by decide +kernel
theorem dX1_gain_23 : decode cX1_gain 23 = .ok (.getfield 28, 3) := by decide +kernel
theorem dX1_gain_26 : decode cX1_gain 26 = .ok (.iload_n 3, 1) := by decide +kernel
theorem dX1_gain_27 : decode cX1_gain 27 = .ok (.iaload, 1) := by decide +kernel
theorem dX1_gain_28 : decode cX1_gain 28 = .ok (.iconst (-1), 1) := by decide +kernel
theorem dX1_gain_29 : decode cX1_gain 29 = .ok (.ixor, 1) := by decide +kernel
theorem dX1_gain_30 : decode cX1_gain 30 = .ok (.iand, 1) := by decide +kernel
theorem dX1_gain_31 : decode cX1_gain 31 = .ok (.invokevirtual 78, 3) := by decide +kernel
theorem dX1_gain_34 : decode cX1_gain 34 = .ok (.goto 4, 3) := by decide +kernel
theorem dX1_gain_37 : decode cX1_gain 37 = .ok (.iconst 0, 1) := by decide +kernel
theorem dX1_gain_38 : decode cX1_gain 38 = .ok (.iadd, 1) := by decide +kernel
theorem dX1_gain_39 : decode cX1_gain 39 = .ok (.istore_n 2, 1) := by decide +kernel
theorem dX1_gain_40 : decode cX1_gain 40 = .ok (.iinc 3 1, 3) := by decide +kernel
theorem dX1_gain_43 : decode cX1_gain 43 = .ok (.goto (-39), 3) := by decide +kernel
theorem dX1_gain_46 : decode cX1_gain 46 = .ok (.iload_n 2, 1) := by decide +kernel
theorem dX1_gain_47 : decode cX1_gain 47 = .ok (.ireturn, 1) := by decide +kernel
set_option maxRecDepth 20000 in
theorem ggX1_price_X1_uncover : GoodIn wsX1_price wsX1_uncover := goodIn_r _ [9, 10, 32, 33, 34, 35, 36, 37, 38, 39, 40, 41, 42, 43, 44, 45, 46, 47] (by decide +kernel) (by decide +kernel)
set_option maxRecDepth 20000 in
theorem gX1_price_X1_uncover : GoodIn wsX1_price (wsV RX1 95 RX1 yX1_uncover wsX1_uncover) := goodIn_app (goodIn_of _ (by decide +kernel)) ggX1_price_X1_uncover
set_option maxRecDepth 20000 in
theorem ggX1_price_X1_isIn : GoodIn wsX1_price wsX1_isIn := goodIn_r _ [14] (by decide +kernel) (by decide +kernel)
set_option maxRecDepth 20000 in
theorem gX1_price_X1_isIn : GoodIn wsX1_price (wsV RX1 54 RX1 yX1_isIn wsX1_isIn) := goodIn_app (goodIn_of _ (by decide +kernel)) ggX1_price_X1_isIn
set_option maxRecDepth 20000 in
theorem ggX1_price_X1_add : GoodIn wsX1_price wsX1_add := goodIn_r _ [18, 10, 19, 20, 21, 8, 22, 23, 32, 33, 34, 35, 36, 37, 38, 39, 40, 41, 42, 43, 44, 45, 46, 47] (by decide +kernel) (by decide +kernel)
set_option maxRecDepth 20000 in
theorem gX1_price_X1_add : GoodIn wsX1_price (wsV RX1 98 RX1 yX1_add wsX1_add) := goodIn_app (goodIn_of _ (by decide +kernel)) ggX1_price_X1_add
set_option maxRecDepth 20000 in
theorem ggX1_price_X1_size : GoodIn wsX1_price wsX1_size := goodIn_r _ [27] (by decide +kernel) (by decide +kernel)
set_option maxRecDepth 20000 in
theorem gX1_price_X1_size : GoodIn wsX1_price (wsV RX1 78 RX1 yX1_size wsX1_size) := goodIn_app (goodIn_of _ (by decide +kernel)) ggX1_price_X1_size
set_option maxRecDepth 20000 in
theorem ggX1_price_X1_uncovered : GoodIn wsX1_price wsX1_uncovered := goodIn_r _ [31, 23, 10, 24, 25, 26, 8, 27, 32, 33, 34, 35, 36, 37, 38, 39, 40, 41, 42, 43, 44, 45, 46, 47] (by decide +kernel) (by decide +kernel)
set_option maxRecDepth 20000 in
theorem gX1_price_X1_uncovered : GoodIn wsX1_price (wsV RX1 102 RX1 yX1_uncovered wsX1_uncovered) := goodIn_app (goodIn_of _ (by decide +kernel)) ggX1_price_X1_uncovered
theorem dX1_price_0 : decode cX1_price 0 = .ok (.aload_n 0, 1) := by decide +kernel
theorem dX1_price_1 : decode cX1_price 1 = .ok (.invokevirtual 95, 3) := by decide +kernel
theorem dX1_price_4 : decode cX1_price 4 = .ok (.iconst 0, 1) := by decide +kernel
theorem dX1_price_5 : decode cX1_price 5 = .ok (.istore_n 2, 1) := by decide +kernel
theorem dX1_price_6 : decode cX1_price 6 = .ok (.iload_n 2, 1) := by decide +kernel
theorem dX1_price_7 : decode cX1_price 7 = .ok (.aload_n 0, 1) := by decide +kernel
theorem dX1_price_8 : decode cX1_price 8 = .ok (.getfield 86, 3) := by decide +kernel
theorem dX1_price_11 : decode cX1_price 11 = .ok (.if_icmp .ge 28, 3) := by decide +kernel
theorem dX1_price_14 : decode cX1_price 14 = .ok (.aload_n 0, 1) := by decide +kernel
theorem dX1_price_15 : decode cX1_price 15 = .ok (.iload_n 1, 1) := by decide +kernel
theorem dX1_price_16 : decode cX1_price 16 = .ok (.iload_n 2, 1) := by decide +kernel
theorem dX1_price_17 : decode cX1_price 17 = .ok (.invokevirtual 54, 3) := by decide +kernel
theorem dX1_price_20 : decode cX1_price 20 = .ok (.ifCond .eq 13, 3) := by decide +kernel
theorem dX1_price_23 : decode cX1_price 23 = .ok (.aload_n 0, 1) := by decide +kernel
theorem dX1_price_24 : decode cX1_price 24 = .ok (.aload_n 0, 1) := by decide +kernel
theorem dX1_price_25 : decode cX1_price 25 = .ok (.getfield 22, 3) := by decide +kernel
theorem dX1_price_28 : decode cX1_price 28 = .ok (.iload_n 2, 1) := by decide +kernel
theorem dX1_price_29 : decode cX1_price 29 = .ok (.iaload, 1) := by decide +kernel
theorem dX1_price_30 : decode cX1_price 30 = .ok (.invokevirtual 98, 3) := by decide +kernel
theorem dX1_price_33 : decode cX1_price 33 = .ok (.iinc 2 1, 3) := by decide +kernel
theorem dX1_price_36 : decode cX1_price 36 = .ok (.goto (-30), 3) := by decide +kernel
theorem dX1_price_39 : decode cX1_price 39 = .ok (.aload_n 0, 1) := by decide +kernel
theorem dX1_price_40 : decode cX1_price 40 = .ok (.getfield 34, 3) := by decide +kernel
theorem dX1_price_43 : decode cX1_price 43 = .ok (.aload_n 0, 1) := by decide +kernel
theorem dX1_price_44 : decode cX1_price 44 = .ok (.iload_n 1, 1) := by decide +kernel
theorem dX1_price_45 : decode cX1_price 45 = .ok (.invokevirtual 78, 3) := by decide +kernel
theorem dX1_price_48 : decode cX1_price 48 = .ok (.imul, 1) := by decide +kernel
theorem dX1_price_49 : decode cX1_price 49 = .ok (.aload_n 0, 1) := by decide +kernel
theorem dX1_price_50 : decode cX1_price 50 = .ok (.getfield 38, 3) := by decide +kernel
theorem dX1_price_53 : decode cX1_price 53 = .ok (.aload_n 0, 1) := by decide +kernel
theorem dX1_price_54 : decode cX1_price 54 = .ok (.invokevirtual 102, 3) := by decide +kernel
theorem dX1_price_57 : decode cX1_price 57 = .ok (.imul, 1) := by decide +kernel
theorem dX1_price_58 : decode cX1_price 58 = .ok (.iadd, 1) := by decide +kernel
theorem dX1_price_59 : decode cX1_price 59 = .ok (.ireturn, 1) := by decide +kernel
set_option maxRecDepth 20000 in
theorem ggX1_mineGreedily_X1_find : GoodIn wsX1_mineGreedily wsX1_find := goodIn_r _ [13, 14, 15, 2, 16, 5, 17, 18, 19, 12, 20, 21, 22, 23, 24, 25, 26, 27, 28, 29, 30, 31, 32, 33, 34, 35, 36, 37, 55, 56, 57, 58, 59, 60, 61, 62, 63, 64, 65, 66, 67, 68, 69, 70] (by decide +kernel) (by decide +kernel)
set_option maxRecDepth 20000 in
theorem gX1_mineGreedily_X1_find : GoodIn wsX1_mineGreedily (wsV RX1 106 RX1 yX1_find wsX1_find) := goodIn_app (goodIn_of _ (by decide +kernel)) ggX1_mineGreedily_X1_find
set_option maxRecDepth 20000 in
theorem ggX1_mineGreedily_X1_uncover : GoodIn wsX1_mineGreedily wsX1_uncover := goodIn_r _ [41, 42, 55, 56, 57, 58, 59, 60, 61, 62, 63, 64, 65, 66, 67, 68, 69, 70] (by decide +kernel) (by decide +kernel)
set_option maxRecDepth 20000 in
theorem gX1_mineGreedily_X1_uncover : GoodIn wsX1_mineGreedily (wsV RX1 95 RX1 yX1_uncover wsX1_uncover) := goodIn_app (goodIn_of _ (by decide +kernel)) ggX1_mineGreedily_X1_uncover
set_option maxRecDepth 20000 in
theorem ggX1_mineGreedily_X1_gain : GoodIn wsX1_mineGreedily wsX1_gain := goodIn_r _ [46, 42, 30, 31, 32, 12, 33, 15, 34, 35, 36, 37, 55, 56, 57, 58, 59, 60, 61, 62, 63, 64, 65, 66, 67, 68, 69, 70] (by decide +kernel) (by decide +kernel)
set_option maxRecDepth 20000 in
theorem gX1_mineGreedily_X1_gain : GoodIn wsX1_mineGreedily (wsV RX1 109 RX1 yX1_gain wsX1_gain) := goodIn_app (goodIn_of _ (by decide +kernel)) ggX1_mineGreedily_X1_gain
set_option maxRecDepth 20000 in
theorem ggX1_mineGreedily_X1_add : GoodIn wsX1_mineGreedily wsX1_add := goodIn_r _ [50, 42, 30, 31, 32, 12, 33, 15, 55, 56, 57, 58, 59, 60, 61, 62, 63, 64, 65, 66, 67, 68, 69, 70] (by decide +kernel) (by decide +kernel)
set_option maxRecDepth 20000 in
theorem gX1_mineGreedily_X1_add : GoodIn wsX1_mineGreedily (wsV RX1 98 RX1 yX1_add wsX1_add) := goodIn_app (goodIn_of _ (by decide +kernel)) ggX1_mineGreedily_X1_add
set_option maxRecDepth 20000 in
theorem ggX1_mineGreedily_X1_uncovered : GoodIn wsX1_mineGreedily wsX1_uncovered := goodIn_r _ [54, 15, 42, 34, 35, 36, 12, 37, 55, 56, 57, 58, 59, 60, 61, 62, 63, 64, 65, 66, 67, 68, 69, 70] (by decide +kernel) (by decide +kernel)
set_option maxRecDepth 20000 in
theorem gX1_mineGreedily_X1_uncovered : GoodIn wsX1_mineGreedily (wsV RX1 102 RX1 yX1_uncovered wsX1_uncovered) := goodIn_app (goodIn_of _ (by decide +kernel)) ggX1_mineGreedily_X1_uncovered
theorem dX1_mineGreedily_0 : decode cX1_mineGreedily 0 = .ok (.aload_n 0, 1) := by decide +kernel
theorem dX1_mineGreedily_1 : decode cX1_mineGreedily 1 = .ok (.iconst 0, 1) := by decide +kernel
theorem dX1_mineGreedily_2 : decode cX1_mineGreedily 2 = .ok (.putfield 47, 3) := by decide +kernel
theorem dX1_mineGreedily_5 : decode cX1_mineGreedily 5 = .ok (.aload_n 0, 1) := by decide +kernel
theorem dX1_mineGreedily_6 : decode cX1_mineGreedily 6 = .ok (.invokevirtual 106, 3) := by decide +kernel
theorem dX1_mineGreedily_9 : decode cX1_mineGreedily 9 = .ok (.aload_n 0, 1) := by decide +kernel
theorem dX1_mineGreedily_10 : decode cX1_mineGreedily 10 = .ok (.invokevirtual 95, 3) := by decide +kernel
theorem dX1_mineGreedily_13 : decode cX1_mineGreedily 13 = .ok (.iconst 0, 1) := by decide +kernel
theorem dX1_mineGreedily_14 : decode cX1_mineGreedily 14 = .ok (.istore_n 1, 1) := by decide +kernel
theorem dX1_mineGreedily_15 : decode cX1_mineGreedily 15 = .ok (.iload_n 1, 1) := by decide +kernel
theorem dX1_mineGreedily_16 : decode cX1_mineGreedily 16 = .ok (.aload_n 0, 1) := by decide +kernel
theorem dX1_mineGreedily_17 : decode cX1_mineGreedily 17 = .ok (.getfield 86, 3) := by decide +kernel
theorem dX1_mineGreedily_20 : decode cX1_mineGreedily 20 = .ok (.if_icmp .ge 16, 3) := by decide +kernel
theorem dX1_mineGreedily_23 : decode cX1_mineGreedily 23 = .ok (.aload_n 0, 1) := by decide +kernel
theorem dX1_mineGreedily_24 : decode cX1_mineGreedily 24 = .ok (.getfield 31, 3) := by decide +kernel
theorem dX1_mineGreedily_27 : decode cX1_mineGreedily 27 = .ok (.iload_n 1, 1) := by decide +kernel
theorem dX1_mineGreedily_28 : decode cX1_mineGreedily 28 = .ok (.iconst 0, 1) := by decide +kernel
theorem dX1_mineGreedily_29 : decode cX1_mineGreedily 29 = .ok (.iastore, 1) := by decide +kernel
theorem dX1_mineGreedily_30 : decode cX1_mineGreedily 30 = .ok (.iinc 1 1, 3) := by decide +kernel
theorem dX1_mineGreedily_33 : decode cX1_mineGreedily 33 = .ok (.goto (-18), 3) := by decide +kernel
theorem dX1_mineGreedily_36 : decode cX1_mineGreedily 36 = .ok (.iconst 0, 1) := by decide +kernel
theorem dX1_mineGreedily_37 : decode cX1_mineGreedily 37 = .ok (.istore_n 1, 1) := by decide +kernel
theorem dX1_mineGreedily_38 : decode cX1_mineGreedily 38 = .ok (.iconst 0, 1) := by decide +kernel
theorem dX1_mineGreedily_39 : decode cX1_mineGreedily 39 = .ok (.istore_n 2, 1) := by decide +kernel
theorem dX1_mineGreedily_40 : decode cX1_mineGreedily 40 = .ok (.iload_n 2, 1) := by decide +kernel
theorem dX1_mineGreedily_41 : decode cX1_mineGreedily 41 = .ok (.ifCond .lt 102, 3) := by decide +kernel
theorem dX1_mineGreedily_44 : decode cX1_mineGreedily 44 = .ok (.iconst (-1), 1) := by decide +kernel
theorem dX1_mineGreedily_45 : decode cX1_mineGreedily 45 = .ok (.istore_n 2, 1) := by decide +kernel
theorem dX1_mineGreedily_46 : decode cX1_mineGreedily 46 = .ok (.iconst 0, 1) := by decide +kernel
theorem dX1_mineGreedily_47 : decode cX1_mineGreedily 47 = .ok (.istore_n 3, 1) := by decide +kernel
theorem dX1_mineGreedily_48 : decode cX1_mineGreedily 48 = .ok (.iconst 0, 1) := by decide +kernel
theorem dX1_mineGreedily_49 : decode cX1_mineGreedily 49 = .ok (.istore 4, 2) := by decide +kernel
theorem dX1_mineGreedily_51 : decode cX1_mineGreedily 51 = .ok (.iload 4, 2) := by decide +kernel
theorem dX1_mineGreedily_53 : decode cX1_mineGreedily 53 = .ok (.aload_n 0, 1) := by decide +kernel
theorem dX1_mineGreedily_54 : decode cX1_mineGreedily 54 = .ok (.getfield 86, 3) := by decide +kernel
theorem dX1_mineGreedily_57 : decode cX1_mineGreedily 57 = .ok (.if_icmp .ge 59, 3) := by decide +kernel
theorem dX1_mineGreedily_60 : decode cX1_mineGreedily 60 = .ok (.aload_n 0, 1) := by decide +kernel
theorem dX1_mineGreedily_61 : decode cX1_mineGreedily 61 = .ok (.getfield 31, 3) := by decide +kernel
theorem dX1_mineGreedily_64 : decode cX1_mineGreedily 64 = .ok (.iload 4, 2) := by decide +kernel
theorem dX1_mineGreedily_66 : decode cX1_mineGreedily 66 = .ok (.iaload, 1) := by decide +kernel
theorem dX1_mineGreedily_67 : decode cX1_mineGreedily 67 = .ok (.iconst 1, 1) := by decide +kernel
theorem dX1_mineGreedily_68 : decode cX1_mineGreedily 68 = .ok (.if_icmp .ne 7, 3) := by decide +kernel
theorem dX1_mineGreedily_71 : decode cX1_mineGreedily 71 = .ok (.iconst 0, 1) := by decide +kernel
theorem dX1_mineGreedily_72 : decode cX1_mineGreedily 72 = .ok (.goto 24, 3) := by decide +kernel
theorem dX1_mineGreedily_75 : decode cX1_mineGreedily 75 = .ok (.aload_n 0, 1) := by decide +kernel
theorem dX1_mineGreedily_76 : decode cX1_mineGreedily 76 = .ok (.getfield 38, 3) := by decide +kernel
theorem dX1_mineGreedily_79 : decode cX1_mineGreedily 79 = .ok (.aload_n 0, 1) := by decide +kernel
theorem dX1_mineGreedily_80 : decode cX1_mineGreedily 80 = .ok (.aload_n 0, 1) := by decide +kernel
theorem dX1_mineGreedily_81 : decode cX1_mineGreedily 81 = .ok (.getfield 22, 3) := by decide +kernel
theorem dX1_mineGreedily_84 : decode cX1_mineGreedily 84 = .ok (.iload 4, 2) := by decide +kernel
theorem dX1_mineGreedily_86 : decode cX1_mineGreedily 86 = .ok (.iaload, 1) := by decide +kernel
theorem dX1_mineGreedily_87 : decode cX1_mineGreedily 87 = .ok (.invokevirtual 109, 3) := by decide +kernel
theorem dX1_mineGreedily_90 : decode cX1_mineGreedily 90 = .ok (.imul, 1) := by decide +kernel
theorem dX1_mineGreedily_91 : decode cX1_mineGreedily 91 = .ok (.aload_n 0, 1) := by decide +kernel
theorem dX1_mineGreedily_92 : decode cX1_mineGreedily 92 = .ok (.getfield 34, 3) := by decide +kernel
theorem dX1_mineGreedily_95 : decode cX1_mineGreedily 95 = .ok (.isub, 1) := by decide +kernel
theorem dX1_mineGreedily_96 : decode cX1_mineGreedily 96 = .ok (.istore 5, 2) := by decide +kernel
theorem dX1_mineGreedily_98 : decode cX1_mineGreedily 98 = .ok (.iload 5, 2) := by decide +kernel
theorem dX1_mineGreedily_100 : decode cX1_mineGreedily 100 = .ok (.iload_n 3, 1) := by decide +kernel
theorem dX1_mineGreedily_101 : decode cX1_mineGreedily 101 = .ok (.if_icmp .le 9, 3) := by decide +kernel
theorem dX1_mineGreedily_104 : decode cX1_mineGreedily 104 = .ok (.iload 5, 2) := by decide +kernel
theorem dX1_mineGreedily_106 : decode cX1_mineGreedily 106 = .ok (.istore_n 3, 1) := by decide +kernel
theorem dX1_mineGreedily_107 : decode cX1_mineGreedily 107 = .ok (.iload 4, 2) := by decide +kernel
theorem dX1_mineGreedily_109 : decode cX1_mineGreedily 109 = .ok (.istore_n 2, 1) := by decide +kernel
theorem dX1_mineGreedily_110 : decode cX1_mineGreedily 110 = .ok (.iinc 4 1, 3) := by decide +kernel
theorem dX1_mineGreedily_113 : decode cX1_mineGreedily 113 = .ok (.goto (-62), 3) := by decide +kernel
theorem dX1_mineGreedily_116 : decode cX1_mineGreedily 116 = .ok (.iload_n 2, 1) := by decide +kernel
theorem dX1_mineGreedily_117 : decode cX1_mineGreedily 117 = .ok (.ifCond .lt 23, 3) := by decide +kernel
theorem dX1_mineGreedily_120 : decode cX1_mineGreedily 120 = .ok (.aload_n 0, 1) := by decide +kernel
theorem dX1_mineGreedily_121 : decode cX1_mineGreedily 121 = .ok (.getfield 31, 3) := by decide +kernel
theorem dX1_mineGreedily_124 : decode cX1_mineGreedily 124 = .ok (.iload_n 2, 1) := by decide +kernel
theorem dX1_mineGreedily_125 : decode cX1_mineGreedily 125 = .ok (.iconst 1, 1) := by decide +kernel
theorem dX1_mineGreedily_126 : decode cX1_mineGreedily 126 = .ok (.iastore, 1) := by decide +kernel
theorem dX1_mineGreedily_127 : decode cX1_mineGreedily 127 = .ok (.aload_n 0, 1) := by decide +kernel
theorem dX1_mineGreedily_128 : decode cX1_mineGreedily 128 = .ok (.aload_n 0, 1) := by decide +kernel
theorem dX1_mineGreedily_129 : decode cX1_mineGreedily 129 = .ok (.getfield 22, 3) := by decide +kernel
theorem dX1_mineGreedily_132 : decode cX1_mineGreedily 132 = .ok (.iload_n 2, 1) := by decide +kernel
theorem dX1_mineGreedily_133 : decode cX1_mineGreedily 133 = .ok (.iaload, 1) := by decide +kernel
theorem dX1_mineGreedily_134 : decode cX1_mineGreedily 134 = .ok (.invokevirtual 98, 3) := by decide +kernel
theorem dX1_mineGreedily_137 : decode cX1_mineGreedily 137 = .ok (.iinc 1 1, 3) := by decide +kernel
theorem dX1_mineGreedily_140 : decode cX1_mineGreedily 140 = .ok (.goto (-100), 3) := by decide +kernel
theorem dX1_mineGreedily_143 : decode cX1_mineGreedily 143 = .ok (.aload_n 0, 1) := by decide +kernel
theorem dX1_mineGreedily_144 : decode cX1_mineGreedily 144 = .ok (.iconst 0, 1) := by decide +kernel
theorem dX1_mineGreedily_145 : decode cX1_mineGreedily 145 = .ok (.putfield 112, 3) := by decide +kernel
theorem dX1_mineGreedily_148 : decode cX1_mineGreedily 148 = .ok (.iconst 0, 1) := by decide +kernel
theorem dX1_mineGreedily_149 : decode cX1_mineGreedily 149 = .ok (.istore_n 3, 1) := by decide +kernel
theorem dX1_mineGreedily_150 : decode cX1_mineGreedily 150 = .ok (.iload_n 3, 1) := by decide +kernel
theorem dX1_mineGreedily_151 : decode cX1_mineGreedily 151 = .ok (.aload_n 0, 1) := by decide +kernel
theorem dX1_mineGreedily_152 : decode cX1_mineGreedily 152 = .ok (.getfield 86, 3) := by decide +kernel
theorem dX1_mineGreedily_155 : decode cX1_mineGreedily 155 = .ok (.if_icmp .ge 44, 3) := by decide +kernel
theorem dX1_mineGreedily_158 : decode cX1_mineGreedily 158 = .ok (.aload_n 0, 1) := by decide +kernel
theorem dX1_mineGreedily_159 : decode cX1_mineGreedily 159 = .ok (.getfield 31, 3) := by decide +kernel
theorem dX1_mineGreedily_162 : decode cX1_mineGreedily 162 = .ok (.iload_n 3, 1) := by decide +kernel
theorem dX1_mineGreedily_163 : decode cX1_mineGreedily 163 = .ok (.iaload, 1) := by decide +kernel
theorem dX1_mineGreedily_164 : decode cX1_mineGreedily 164 = .ok (.iconst 1, 1) := by decide +kernel
theorem dX1_mineGreedily_165 : decode cX1_mineGreedily 165 = .ok (.if_icmp .ne 28, 3) := by decide +kernel
theorem dX1_mineGreedily_168 : decode cX1_mineGreedily 168 = .ok (.aload_n 0, 1) := by decide +kernel
theorem dX1_mineGreedily_169 : decode cX1_mineGreedily 169 = .ok (.getfield 19, 3) := by decide +kernel
theorem dX1_mineGreedily_172 : decode cX1_mineGreedily 172 = .ok (.aload_n 0, 1) := by decide +kernel
theorem dX1_mineGreedily_173 : decode cX1_mineGreedily 173 = .ok (.getfield 112, 3) := by decide +kernel
theorem dX1_mineGreedily_176 : decode cX1_mineGreedily 176 = .ok (.aload_n 0, 1) := by decide +kernel
theorem dX1_mineGreedily_177 : decode cX1_mineGreedily 177 = .ok (.getfield 22, 3) := by decide +kernel
theorem dX1_mineGreedily_180 : decode cX1_mineGreedily 180 = .ok (.iload_n 3, 1) := by decide +kernel
theorem dX1_mineGreedily_181 : decode cX1_mineGreedily 181 = .ok (.iaload, 1) := by decide +kernel
theorem dX1_mineGreedily_182 : decode cX1_mineGreedily 182 = .ok (.iastore, 1) := by decide +kernel
theorem dX1_mineGreedily_183 : decode cX1_mineGreedily 183 = .ok (.aload_n 0, 1) := by decide +kernel
theorem dX1_mineGreedily_184 : decode cX1_mineGreedily 184 = .ok (.dup, 1) := by decide +kernel
theorem dX1_mineGreedily_185 : decode cX1_mineGreedily 185 = .ok (.getfield 112, 3) := by decide +kernel
theorem dX1_mineGreedily_188 : decode cX1_mineGreedily 188 = .ok (.iconst 1, 1) := by decide +kernel
theorem dX1_mineGreedily_189 : decode cX1_mineGreedily 189 = .ok (.iadd, 1) := by decide +kernel
theorem dX1_mineGreedily_190 : decode cX1_mineGreedily 190 = .ok (.putfield 112, 3) := by decide +kernel
theorem dX1_mineGreedily_193 : decode cX1_mineGreedily 193 = .ok (.iinc 3 1, 3) := by decide +kernel
theorem dX1_mineGreedily_196 : decode cX1_mineGreedily 196 = .ok (.goto (-46), 3) := by decide +kernel
theorem dX1_mineGreedily_199 : decode cX1_mineGreedily 199 = .ok (.aload_n 0, 1) := by decide +kernel
theorem dX1_mineGreedily_200 : decode cX1_mineGreedily 200 = .ok (.getfield 34, 3) := by decide +kernel
theorem dX1_mineGreedily_203 : decode cX1_mineGreedily 203 = .ok (.iload_n 1, 1) := by decide +kernel
theorem dX1_mineGreedily_204 : decode cX1_mineGreedily 204 = .ok (.imul, 1) := by decide +kernel
theorem dX1_mineGreedily_205 : decode cX1_mineGreedily 205 = .ok (.aload_n 0, 1) := by decide +kernel
theorem dX1_mineGreedily_206 : decode cX1_mineGreedily 206 = .ok (.getfield 38, 3) := by decide +kernel
theorem dX1_mineGreedily_209 : decode cX1_mineGreedily 209 = .ok (.aload_n 0, 1) := by decide +kernel
theorem dX1_mineGreedily_210 : decode cX1_mineGreedily 210 = .ok (.invokevirtual 102, 3) := by decide +kernel
theorem dX1_mineGreedily_213 : decode cX1_mineGreedily 213 = .ok (.imul, 1) := by decide +kernel
theorem dX1_mineGreedily_214 : decode cX1_mineGreedily 214 = .ok (.iadd, 1) := by decide +kernel
theorem dX1_mineGreedily_215 : decode cX1_mineGreedily 215 = .ok (.ireturn, 1) := by decide +kernel
set_option maxRecDepth 20000 in
theorem ggX1_precedes_X1_size : GoodIn wsX1_precedes wsX1_size := goodIn_r _ [5] (by decide +kernel) (by decide +kernel)
set_option maxRecDepth 20000 in
theorem gX1_precedes_X1_size : GoodIn wsX1_precedes (wsV RX1 78 RX1 yX1_size wsX1_size) := goodIn_app (goodIn_of _ (by decide +kernel)) ggX1_precedes_X1_size
theorem dX1_precedes_0 : decode cX1_precedes 0 = .ok (.aload_n 0, 1) := by decide +kernel
theorem dX1_precedes_1 : decode cX1_precedes 1 = .ok (.iload_n 1, 1) := by decide +kernel
theorem dX1_precedes_2 : decode cX1_precedes 2 = .ok (.invokevirtual 78, 3) := by decide +kernel
theorem dX1_precedes_5 : decode cX1_precedes 5 = .ok (.istore_n 3, 1) := by decide +kernel
theorem dX1_precedes_6 : decode cX1_precedes 6 = .ok (.aload_n 0, 1) := by decide +kernel
theorem dX1_precedes_7 : decode cX1_precedes 7 = .ok (.iload_n 2, 1) := by decide +kernel
theorem dX1_precedes_8 : decode cX1_precedes 8 = .ok (.invokevirtual 78, 3) := by decide +kernel
theorem dX1_precedes_11 : decode cX1_precedes 11 = .ok (.istore 4, 2) := by decide +kernel
theorem dX1_precedes_13 : decode cX1_precedes 13 = .ok (.iload_n 1, 1) := by decide +kernel
theorem dX1_precedes_14 : decode cX1_precedes 14 = .ok (.iload_n 2, 1) := by decide +kernel
theorem dX1_precedes_15 : decode cX1_precedes 15 = .ok (.ixor, 1) := by decide +kernel
theorem dX1_precedes_16 : decode cX1_precedes 16 = .ok (.istore 5, 2) := by decide +kernel
theorem dX1_precedes_18 : decode cX1_precedes 18 = .ok (.iload_n 3, 1) := by decide +kernel
theorem dX1_precedes_19 : decode cX1_precedes 19 = .ok (.iload 4, 2) := by decide +kernel
theorem dX1_precedes_21 : decode cX1_precedes 21 = .ok (.if_icmp .ne 22, 3) := by decide +kernel
theorem dX1_precedes_24 : decode cX1_precedes 24 = .ok (.iload_n 1, 1) := by decide +kernel
theorem dX1_precedes_25 : decode cX1_precedes 25 = .ok (.iload 5, 2) := by decide +kernel
theorem dX1_precedes_27 : decode cX1_precedes 27 = .ok (.iand, 1) := by decide +kernel
theorem dX1_precedes_28 : decode cX1_precedes 28 = .ok (.iload 5, 2) := by decide +kernel
theorem dX1_precedes_30 : decode cX1_precedes 30 = .ok (.ineg, 1) := by decide +kernel
theorem dX1_precedes_31 : decode cX1_precedes 31 = .ok (.iand, 1) := by decide +kernel
theorem dX1_precedes_32 : decode cX1_precedes 32 = .ok (.ifCond .eq 7, 3) := by decide +kernel
theorem dX1_precedes_35 : decode cX1_precedes 35 = .ok (.iconst 1, 1) := by decide +kernel
theorem dX1_precedes_36 : decode cX1_precedes 36 = .ok (.goto 18, 3) := by decide +kernel
theorem dX1_precedes_39 : decode cX1_precedes 39 = .ok (.iconst 0, 1) := by decide +kernel
theorem dX1_precedes_40 : decode cX1_precedes 40 = .ok (.goto 14, 3) := by decide +kernel
theorem dX1_precedes_43 : decode cX1_precedes 43 = .ok (.iload_n 3, 1) := by decide +kernel
theorem dX1_precedes_44 : decode cX1_precedes 44 = .ok (.iload 4, 2) := by decide +kernel
theorem dX1_precedes_46 : decode cX1_precedes 46 = .ok (.if_icmp .ge 7, 3) := by decide +kernel
theorem dX1_precedes_49 : decode cX1_precedes 49 = .ok (.iconst 1, 1) := by decide +kernel
theorem dX1_precedes_50 : decode cX1_precedes 50 = .ok (.goto 4, 3) := by decide +kernel
theorem dX1_precedes_53 : decode cX1_precedes 53 = .ok (.iconst 0, 1) := by decide +kernel
theorem dX1_precedes_54 : decode cX1_precedes 54 = .ok (.ireturn, 1) := by decide +kernel
set_option maxRecDepth 20000 in
theorem ggX1_best_X1_price : GoodIn wsX1_best wsX1_price := goodIn_r _ [6, 1, 7, 8, 9, 10, 11, 12, 5, 13, 14, 15, 16, 17, 18, 19, 20, 21, 22, 23, 24, 25, 26, 27, 28, 29, 30, 31, 32, 33, 34, 35, 40, 41, 42, 43, 44, 45, 46, 47, 48, 49, 50, 51, 52, 53, 54, 55] (by decide +kernel) (by decide +kernel)
set_option maxRecDepth 20000 in
theorem gX1_best_X1_price : GoodIn wsX1_best (wsV RX1 115 RX1 yX1_price wsX1_price) := goodIn_app (goodIn_of _ (by decide +kernel)) ggX1_best_X1_price
set_option maxRecDepth 20000 in
theorem ggX1_best_X1_precedes : GoodIn wsX1_best wsX1_precedes := goodIn_r _ [39, 28, 29, 30, 5, 31] (by decide +kernel) (by decide +kernel)
set_option maxRecDepth 20000 in
theorem gX1_best_X1_precedes : GoodIn wsX1_best (wsV RX1 118 RX1 yX1_precedes wsX1_precedes) := goodIn_app (goodIn_of _ (by decide +kernel)) ggX1_best_X1_precedes
theorem dX1_best_0 : decode cX1_best 0 = .ok (.iconst 0, 1) := by decide +kernel
theorem dX1_best_1 : decode cX1_best 1 = .ok (.istore_n 1, 1) := by decide +kernel
theorem dX1_best_2 : decode cX1_best 2 = .ok (.aload_n 0, 1) := by decide +kernel
theorem dX1_best_3 : decode cX1_best 3 = .ok (.iconst 0, 1) := by decide +kernel
theorem dX1_best_4 : decode cX1_best 4 = .ok (.invokevirtual 115, 3) := by decide +kernel
theorem dX1_best_7 : decode cX1_best 7 = .ok (.istore_n 2, 1) := by decide +kernel
theorem dX1_best_8 : decode cX1_best 8 = .ok (.iconst 1, 1) := by decide +kernel
theorem dX1_best_9 : decode cX1_best 9 = .ok (.istore_n 3, 1) := by decide +kernel
theorem dX1_best_10 : decode cX1_best 10 = .ok (.iload_n 3, 1) := by decide +kernel
theorem dX1_best_11 : decode cX1_best 11 = .ok (.iconst 1, 1) := by decide +kernel
theorem dX1_best_12 : decode cX1_best 12 = .ok (.aload_n 0, 1) := by decide +kernel
theorem dX1_best_13 : decode cX1_best 13 = .ok (.getfield 86, 3) := by decide +kernel
theorem dX1_best_16 : decode cX1_best 16 = .ok (.ishl, 1) := by decide +kernel
theorem dX1_best_17 : decode cX1_best 17 = .ok (.if_icmp .ge 42, 3) := by decide +kernel
theorem dX1_best_20 : decode cX1_best 20 = .ok (.aload_n 0, 1) := by decide +kernel
theorem dX1_best_21 : decode cX1_best 21 = .ok (.iload_n 3, 1) := by decide +kernel
theorem dX1_best_22 : decode cX1_best 22 = .ok (.invokevirtual 115, 3) := by decide +kernel
theorem dX1_best_25 : decode cX1_best 25 = .ok (.istore 4, 2) := by decide +kernel
theorem dX1_best_27 : decode cX1_best 27 = .ok (.iload 4, 2) := by decide +kernel
theorem dX1_best_29 : decode cX1_best 29 = .ok (.iload_n 2, 1) := by decide +kernel
theorem dX1_best_30 : decode cX1_best 30 = .ok (.if_icmp .lt 18, 3) := by decide +kernel
theorem dX1_best_33 : decode cX1_best 33 = .ok (.iload 4, 2) := by decide +kernel
theorem dX1_best_35 : decode cX1_best 35 = .ok (.iload_n 2, 1) := by decide +kernel
theorem dX1_best_36 : decode cX1_best 36 = .ok (.if_icmp .ne 17, 3) := by decide +kernel
theorem dX1_best_39 : decode cX1_best 39 = .ok (.aload_n 0, 1) := by decide +kernel
theorem dX1_best_40 : decode cX1_best 40 = .ok (.iload_n 3, 1) := by decide +kernel
theorem dX1_best_41 : decode cX1_best 41 = .ok (.iload_n 1, 1) := by decide +kernel
theorem dX1_best_42 : decode cX1_best 42 = .ok (.invokevirtual 118, 3) := by decide +kernel
theorem dX1_best_45 : decode cX1_best 45 = .ok (.ifCond .eq 8, 3) := by decide +kernel
theorem dX1_best_48 : decode cX1_best 48 = .ok (.iload_n 3, 1) := by decide +kernel
theorem dX1_best_49 : decode cX1_best 49 = .ok (.istore_n 1, 1) := by decide +kernel
theorem dX1_best_50 : decode cX1_best 50 = .ok (.iload 4, 2) := by decide +kernel
theorem dX1_best_52 : decode cX1_best 52 = .ok (.istore_n 2, 1) := by decide +kernel
theorem dX1_best_53 : decode cX1_best 53 = .ok (.iinc 3 1, 3) := by decide +kernel
theorem dX1_best_56 : decode cX1_best 56 = .ok (.goto (-46), 3) := by decide +kernel
theorem dX1_best_59 : decode cX1_best 59 = .ok (.iload_n 1, 1) := by decide +kernel
theorem dX1_best_60 : decode cX1_best 60 = .ok (.ireturn, 1) := by decide +kernel
set_option maxRecDepth 20000 in
theorem ggX1_isTooMuch_X1_find : GoodIn wsX1_isTooMuch wsX1_find := goodIn_r _ [6, 7, 8, 1, 9, 10, 11, 12, 13, 5, 14, 15, 16, 17, 18, 19, 20, 21, 22, 23, 24, 25, 26, 27, 28, 29, 30, 31, 32, 33, 34, 35, 36, 37, 38, 39, 40, 41, 42, 43, 44, 45, 46, 47] (by decide +kernel) (by decide +kernel)
set_option maxRecDepth 20000 in
theorem gX1_isTooMuch_X1_find : GoodIn wsX1_isTooMuch (wsV RX1 106 RX1 yX1_find wsX1_find) := goodIn_app (goodIn_of _ (by decide +kernel)) ggX1_isTooMuch_X1_find
theorem dX1_isTooMuch_0 : decode cX1_isTooMuch 0 = .ok (.aload_n 0, 1) := by decide +kernel
theorem dX1_isTooMuch_1 : decode cX1_isTooMuch 1 = .ok (.invokevirtual 106, 3) := by decide +kernel
theorem dX1_isTooMuch_4 : decode cX1_isTooMuch 4 = .ok (.aload_n 0, 1) := by decide +kernel
theorem dX1_isTooMuch_5 : decode cX1_isTooMuch 5 = .ok (.getfield 86, 3) := by decide +kernel
theorem dX1_isTooMuch_8 : decode cX1_isTooMuch 8 = .ok (.bipush 14, 2) := by decide +kernel
theorem dX1_isTooMuch_10 : decode cX1_isTooMuch 10 = .ok (.if_icmp .le 7, 3) := by decide +kernel
theorem dX1_isTooMuch_13 : decode cX1_isTooMuch 13 = .ok (.iconst 1, 1) := by decide +kernel
theorem dX1_isTooMuch_14 : decode cX1_isTooMuch 14 = .ok (.goto 4, 3) := by decide +kernel
theorem dX1_isTooMuch_17 : decode cX1_isTooMuch 17 = .ok (.iconst 0, 1) := by decide +kernel
theorem dX1_isTooMuch_18 : decode cX1_isTooMuch 18 = .ok (.ireturn, 1) := by decide +kernel
set_option maxRecDepth 20000 in
theorem ggX1_mineBest_X1_isTooMuch : GoodIn wsX1_mineBest wsX1_isTooMuch := goodIn_r _ [9, 2, 10, 11, 12, 8, 13, 14, 15, 16, 4, 17, 18, 19, 20, 21, 22, 23, 24, 25, 26, 27, 28, 29, 30, 31, 32, 33, 34, 35, 36, 37, 70, 71, 72, 73, 74, 75, 76, 77, 78, 79, 80, 81, 82, 83, 84, 85] (by decide +kernel) (by decide +kernel)
set_option maxRecDepth 20000 in
theorem gX1_mineBest_X1_isTooMuch : GoodIn wsX1_mineBest (wsV RX1 121 RX1 yX1_isTooMuch wsX1_isTooMuch) := goodIn_app (goodIn_of _ (by decide +kernel)) ggX1_mineBest_X1_isTooMuch
set_option maxRecDepth 20000 in
theorem ggX1_mineBest_X1_holds : GoodIn wsX1_mineBest wsX1_holds := goodIn_r _ [41, 42, 70, 71, 72, 73, 74, 75, 76, 77, 78, 79, 80, 81, 82, 83, 84, 85] (by decide +kernel) (by decide +kernel)
set_option maxRecDepth 20000 in
theorem gX1_mineBest_X1_holds : GoodIn wsX1_mineBest (wsV RX1 71 RX1 yX1_holds wsX1_holds) := goodIn_app (goodIn_of _ (by decide +kernel)) ggX1_mineBest_X1_holds
set_option maxRecDepth 20000 in
theorem ggX1_mineBest_X1_best : GoodIn wsX1_mineBest wsX1_best := goodIn_r _ [46, 2, 47, 48, 49, 8, 50, 4, 51, 52, 53, 54, 55, 56, 57, 17, 18, 19, 20, 58, 59, 60, 61, 30, 31, 32, 33, 15, 34, 35, 36, 37, 62, 63, 64, 65, 66, 67, 68, 69, 70, 71, 72, 73, 74, 75, 76, 77, 78, 79, 80, 81, 82, 83, 84, 85] (by decide +kernel) (by decide +kernel)
set_option maxRecDepth 20000 in
theorem gX1_mineBest_X1_best : GoodIn wsX1_mineBest (wsV RX1 125 RX1 yX1_best wsX1_best) := goodIn_app (goodIn_of _ (by decide +kernel)) ggX1_mineBest_X1_best
set_option maxRecDepth 20000 in
theorem ggX1_mineBest_X1_isIn : GoodIn wsX1_mineBest wsX1_isIn := goodIn_r _ [20] (by decide +kernel) (by decide +kernel)
set_option maxRecDepth 20000 in
theorem gX1_mineBest_X1_isIn : GoodIn wsX1_mineBest (wsV RX1 54 RX1 yX1_isIn wsX1_isIn) := goodIn_app (goodIn_of _ (by decide +kernel)) ggX1_mineBest_X1_isIn
set_option maxRecDepth 20000 in
theorem ggX1_mineBest_X1_price : GoodIn wsX1_mineBest wsX1_price := goodIn_r _ [50, 2, 4, 51, 52, 53, 54, 55, 8, 56, 57, 17, 18, 19, 20, 58, 59, 60, 61, 30, 31, 32, 33, 15, 34, 35, 36, 37, 62, 63, 64, 65, 70, 71, 72, 73, 74, 75, 76, 77, 78, 79, 80, 81, 82, 83, 84, 85] (by decide +kernel) (by decide +kernel)
set_option maxRecDepth 20000 in
theorem gX1_mineBest_X1_price : GoodIn wsX1_mineBest (wsV RX1 115 RX1 yX1_price wsX1_price) := goodIn_app (goodIn_of _ (by decide +kernel)) ggX1_mineBest_X1_price
theorem dX1_mineBest_0 : decode cX1_mineBest 0 = .ok (.aload_n 0, 1) := by decide +kernel
theorem dX1_mineBest_1 : decode cX1_mineBest 1 = .ok (.aload_n 0, 1) := by decide +kernel
theorem dX1_mineBest_2 : decode cX1_mineBest 2 = .ok (.invokevirtual 121, 3) := by decide +kernel
theorem dX1_mineBest_5 : decode cX1_mineBest 5 = .ok (.ifCond .eq 7, 3) := by decide +kernel
theorem dX1_mineBest_8 : decode cX1_mineBest 8 = .ok (.iconst 1, 1) := by decide +kernel
theorem dX1_mineBest_9 : decode cX1_mineBest 9 = .ok (.goto 4, 3) := by decide +kernel
theorem dX1_mineBest_12 : decode cX1_mineBest 12 = .ok (.iconst 0, 1) := by decide +kernel
theorem dX1_mineBest_13 : decode cX1_mineBest 13 = .ok (.invokevirtual 71, 3) := by decide +kernel
theorem dX1_mineBest_16 : decode cX1_mineBest 16 = .ok (.ifCond .eq 5, 3) := by decide +kernel
theorem dX1_mineBest_19 : decode cX1_mineBest 19 = .ok (.iconst (-1), 1) := by decide +kernel
theorem dX1_mineBest_20 : decode cX1_mineBest 20 = .ok (.ireturn, 1) := by decide +kernel
theorem dX1_mineBest_21 : decode cX1_mineBest 21 = .ok (.aload_n 0, 1) := by decide +kernel
theorem dX1_mineBest_22 : decode cX1_mineBest 22 = .ok (.invokevirtual 125, 3) := by decide +kernel
theorem dX1_mineBest_25 : decode cX1_mineBest 25 = .ok (.istore_n 1, 1) := by decide +kernel
theorem dX1_mineBest_26 : decode cX1_mineBest 26 = .ok (.aload_n 0, 1) := by decide +kernel
theorem dX1_mineBest_27 : decode cX1_mineBest 27 = .ok (.iconst 0, 1) := by decide +kernel
theorem dX1_mineBest_28 : decode cX1_mineBest 28 = .ok (.putfield 112, 3) := by decide +kernel
theorem dX1_mineBest_31 : decode cX1_mineBest 31 = .ok (.iconst 0, 1) := by decide +kernel
theorem dX1_mineBest_32 : decode cX1_mineBest 32 = .ok (.istore_n 2, 1) := by decide +kernel
theorem dX1_mineBest_33 : decode cX1_mineBest 33 = .ok (.iload_n 2, 1) := by decide +kernel
theorem dX1_mineBest_34 : decode cX1_mineBest 34 = .ok (.aload_n 0, 1) := by decide +kernel
theorem dX1_mineBest_35 : decode cX1_mineBest 35 = .ok (.getfield 86, 3) := by decide +kernel
theorem dX1_mineBest_38 : decode cX1_mineBest 38 = .ok (.if_icmp .ge 43, 3) := by decide +kernel
theorem dX1_mineBest_41 : decode cX1_mineBest 41 = .ok (.aload_n 0, 1) := by decide +kernel
theorem dX1_mineBest_42 : decode cX1_mineBest 42 = .ok (.iload_n 1, 1) := by decide +kernel
theorem dX1_mineBest_43 : decode cX1_mineBest 43 = .ok (.iload_n 2, 1) := by decide +kernel
theorem dX1_mineBest_44 : decode cX1_mineBest 44 = .ok (.invokevirtual 54, 3) := by decide +kernel
theorem dX1_mineBest_47 : decode cX1_mineBest 47 = .ok (.ifCond .eq 28, 3) := by decide +kernel
theorem dX1_mineBest_50 : decode cX1_mineBest 50 = .ok (.aload_n 0, 1) := by decide +kernel
theorem dX1_mineBest_51 : decode cX1_mineBest 51 = .ok (.getfield 19, 3) := by decide +kernel
theorem dX1_mineBest_54 : decode cX1_mineBest 54 = .ok (.aload_n 0, 1) := by decide +kernel
theorem dX1_mineBest_55 : decode cX1_mineBest 55 = .ok (.getfield 112, 3) := by decide +kernel
theorem dX1_mineBest_58 : decode cX1_mineBest 58 = .ok (.aload_n 0, 1) := by decide +kernel
theorem dX1_mineBest_59 : decode cX1_mineBest 59 = .ok (.getfield 22, 3) := by decide +kernel
theorem dX1_mineBest_62 : decode cX1_mineBest 62 = .ok (.iload_n 2, 1) := by decide +kernel
theorem dX1_mineBest_63 : decode cX1_mineBest 63 = .ok (.iaload, 1) := by decide +kernel
theorem dX1_mineBest_64 : decode cX1_mineBest 64 = .ok (.iastore, 1) := by decide +kernel
theorem dX1_mineBest_65 : decode cX1_mineBest 65 = .ok (.aload_n 0, 1) := by decide +kernel
theorem dX1_mineBest_66 : decode cX1_mineBest 66 = .ok (.dup, 1) := by decide +kernel
theorem dX1_mineBest_67 : decode cX1_mineBest 67 = .ok (.getfield 112, 3) := by decide +kernel
theorem dX1_mineBest_70 : decode cX1_mineBest 70 = .ok (.iconst 1, 1) := by decide +kernel
theorem dX1_mineBest_71 : decode cX1_mineBest 71 = .ok (.iadd, 1) := by decide +kernel
theorem dX1_mineBest_72 : decode cX1_mineBest 72 = .ok (.putfield 112, 3) := by decide +kernel
theorem dX1_mineBest_75 : decode cX1_mineBest 75 = .ok (.iinc 2 1, 3) := by decide +kernel
theorem dX1_mineBest_78 : decode cX1_mineBest 78 = .ok (.goto (-45), 3) := by decide +kernel
theorem dX1_mineBest_81 : decode cX1_mineBest 81 = .ok (.aload_n 0, 1) := by decide +kernel
theorem dX1_mineBest_82 : decode cX1_mineBest 82 = .ok (.iload_n 1, 1) := by decide +kernel
theorem dX1_mineBest_83 : decode cX1_mineBest 83 = .ok (.invokevirtual 115, 3) := by decide +kernel
theorem dX1_mineBest_86 : decode cX1_mineBest 86 = .ok (.ireturn, 1) := by decide +kernel
set_option maxRecDepth 20000 in
theorem ggX1_dropRoles_X1_plain : GoodIn wsX1_dropRoles wsX1_plain := goodIn_r _ [6, 7, 8, 9, 10, 11, 12, 13, 14, 15, 16, 17, 18, 19, 20, 21, 22, 23] (by decide +kernel) (by decide +kernel)
set_option maxRecDepth 20000 in
theorem gX1_dropRoles_X1_plain : GoodIn wsX1_dropRoles (wsV RX1 128 RX1 yX1_plain wsX1_plain) := goodIn_app (goodIn_of _ (by decide +kernel)) ggX1_dropRoles_X1_plain
theorem dX1_dropRoles_0 : decode cX1_dropRoles 0 = .ok (.aload_n 0, 1) := by decide +kernel
theorem dX1_dropRoles_1 : decode cX1_dropRoles 1 = .ok (.getfield 112, 3) := by decide +kernel
theorem dX1_dropRoles_4 : decode cX1_dropRoles 4 = .ok (.istore_n 1, 1) := by decide +kernel
theorem dX1_dropRoles_5 : decode cX1_dropRoles 5 = .ok (.aload_n 0, 1) := by decide +kernel
theorem dX1_dropRoles_6 : decode cX1_dropRoles 6 = .ok (.iconst 0, 1) := by decide +kernel
theorem dX1_dropRoles_7 : decode cX1_dropRoles 7 = .ok (.putfield 112, 3) := by decide +kernel
theorem dX1_dropRoles_10 : decode cX1_dropRoles 10 = .ok (.aload_n 0, 1) := by decide +kernel
theorem dX1_dropRoles_11 : decode cX1_dropRoles 11 = .ok (.iload_n 1, 1) := by decide +kernel
theorem dX1_dropRoles_12 : decode cX1_dropRoles 12 = .ok (.invokevirtual 128, 3) := by decide +kernel
theorem dX1_dropRoles_15 : decode cX1_dropRoles 15 = .ok (.ireturn, 1) := by decide +kernel
set_option maxRecDepth 20000 in
theorem ggX1_permissions_X1_isUser : GoodIn wsX1_permissions wsX1_isUser := goodIn_r _ [6, 7, 8, 9, 5, 10] (by decide +kernel) (by decide +kernel)
set_option maxRecDepth 20000 in
theorem gX1_permissions_X1_isUser : GoodIn wsX1_permissions (wsV RX1 64 RX1 yX1_isUser wsX1_isUser) := goodIn_app (goodIn_of _ (by decide +kernel)) ggX1_permissions_X1_isUser
set_option maxRecDepth 20000 in
theorem ggX1_permissions_X1_holds : GoodIn wsX1_permissions wsX1_holds := goodIn_r _ [14, 15, 16, 17, 18, 19, 20, 21, 22, 23, 24, 25, 26, 27, 28, 29, 30, 31] (by decide +kernel) (by decide +kernel)
set_option maxRecDepth 20000 in
theorem gX1_permissions_X1_holds : GoodIn wsX1_permissions (wsV RX1 71 RX1 yX1_holds wsX1_holds) := goodIn_app (goodIn_of _ (by decide +kernel)) ggX1_permissions_X1_holds
theorem dX1_permissions_0 : decode cX1_permissions 0 = .ok (.aload_n 0, 1) := by decide +kernel
theorem dX1_permissions_1 : decode cX1_permissions 1 = .ok (.aload_n 0, 1) := by decide +kernel
theorem dX1_permissions_2 : decode cX1_permissions 2 = .ok (.iload_n 1, 1) := by decide +kernel
theorem dX1_permissions_3 : decode cX1_permissions 3 = .ok (.invokevirtual 64, 3) := by decide +kernel
theorem dX1_permissions_6 : decode cX1_permissions 6 = .ok (.ifCond .eq 7, 3) := by decide +kernel
theorem dX1_permissions_9 : decode cX1_permissions 9 = .ok (.iconst 0, 1) := by decide +kernel
theorem dX1_permissions_10 : decode cX1_permissions 10 = .ok (.goto 4, 3) := by decide +kernel
theorem dX1_permissions_13 : decode cX1_permissions 13 = .ok (.iconst 1, 1) := by decide +kernel
theorem dX1_permissions_14 : decode cX1_permissions 14 = .ok (.invokevirtual 71, 3) := by decide +kernel
theorem dX1_permissions_17 : decode cX1_permissions 17 = .ok (.ifCond .eq 7, 3) := by decide +kernel
theorem dX1_permissions_20 : decode cX1_permissions 20 = .ok (.iconst (-1), 1) := by decide +kernel
theorem dX1_permissions_21 : decode cX1_permissions 21 = .ok (.goto 9, 3) := by decide +kernel
theorem dX1_permissions_24 : decode cX1_permissions 24 = .ok (.aload_n 0, 1) := by decide +kernel
theorem dX1_permissions_25 : decode cX1_permissions 25 = .ok (.getfield 7, 3) := by decide +kernel
theorem dX1_permissions_28 : decode cX1_permissions 28 = .ok (.iload_n 1, 1) := by decide +kernel
theorem dX1_permissions_29 : decode cX1_permissions 29 = .ok (.iaload, 1) := by decide +kernel
theorem dX1_permissions_30 : decode cX1_permissions 30 = .ok (.ireturn, 1) := by decide +kernel
set_option maxRecDepth 20000 in
theorem ggX1_grants_X1_uncover : GoodIn wsX1_grants wsX1_uncover := goodIn_r _ [6, 7, 17, 18, 19, 20, 21, 22, 23, 24, 25, 26, 27, 28, 29, 30, 31, 32] (by decide +kernel) (by decide +kernel)
set_option maxRecDepth 20000 in
theorem gX1_grants_X1_uncover : GoodIn wsX1_grants (wsV RX1 95 RX1 yX1_uncover wsX1_uncover) := goodIn_app (goodIn_of _ (by decide +kernel)) ggX1_grants_X1_uncover
set_option maxRecDepth 20000 in
theorem ggX1_grants_X1_uncovered : GoodIn wsX1_grants wsX1_uncovered := goodIn_r _ [11, 12, 7, 13, 14, 15, 5, 16, 17, 18, 19, 20, 21, 22, 23, 24, 25, 26, 27, 28, 29, 30, 31, 32] (by decide +kernel) (by decide +kernel)
set_option maxRecDepth 20000 in
theorem gX1_grants_X1_uncovered : GoodIn wsX1_grants (wsV RX1 102 RX1 yX1_uncovered wsX1_uncovered) := goodIn_app (goodIn_of _ (by decide +kernel)) ggX1_grants_X1_uncovered
theorem dX1_grants_0 : decode cX1_grants 0 = .ok (.aload_n 0, 1) := by decide +kernel
theorem dX1_grants_1 : decode cX1_grants 1 = .ok (.iconst 0, 1) := by decide +kernel
theorem dX1_grants_2 : decode cX1_grants 2 = .ok (.putfield 47, 3) := by decide +kernel
theorem dX1_grants_5 : decode cX1_grants 5 = .ok (.aload_n 0, 1) := by decide +kernel
theorem dX1_grants_6 : decode cX1_grants 6 = .ok (.invokevirtual 95, 3) := by decide +kernel
theorem dX1_grants_9 : decode cX1_grants 9 = .ok (.aload_n 0, 1) := by decide +kernel
theorem dX1_grants_10 : decode cX1_grants 10 = .ok (.invokevirtual 102, 3) := by decide +kernel
theorem dX1_grants_13 : decode cX1_grants 13 = .ok (.ireturn, 1) := by decide +kernel
set_option maxRecDepth 20000 in
theorem ggX1_violations_X1_isUser : GoodIn wsX1_violations wsX1_isUser := goodIn_r _ [7, 8, 9, 10, 6, 11] (by decide +kernel) (by decide +kernel)
set_option maxRecDepth 20000 in
theorem gX1_violations_X1_isUser : GoodIn wsX1_violations (wsV RX1 64 RX1 yX1_isUser wsX1_isUser) := goodIn_app (goodIn_of _ (by decide +kernel)) ggX1_violations_X1_isUser
set_option maxRecDepth 20000 in
theorem ggX1_violations_X1_holds : GoodIn wsX1_violations wsX1_holds := goodIn_r _ [15, 16, 25, 26, 27, 28, 29, 30, 31, 32, 33, 34, 35, 36, 37, 38, 39, 40] (by decide +kernel) (by decide +kernel)
set_option maxRecDepth 20000 in
theorem gX1_violations_X1_holds : GoodIn wsX1_violations (wsV RX1 71 RX1 yX1_holds wsX1_holds) := goodIn_app (goodIn_of _ (by decide +kernel)) ggX1_violations_X1_holds
set_option maxRecDepth 20000 in
theorem ggX1_violations_X1_isIn : GoodIn wsX1_violations wsX1_isIn := goodIn_r _ [20] (by decide +kernel) (by decide +kernel)
set_option maxRecDepth 20000 in
theorem gX1_violations_X1_isIn : GoodIn wsX1_violations (wsV RX1 54 RX1 yX1_isIn wsX1_isIn) := goodIn_app (goodIn_of _ (by decide +kernel)) ggX1_violations_X1_isIn
set_option maxRecDepth 20000 in
theorem ggX1_violations_X1_size : GoodIn wsX1_violations wsX1_size := goodIn_r _ [24] (by decide +kernel) (by decide +kernel)
set_option maxRecDepth 20000 in
theorem gX1_violations_X1_size : GoodIn wsX1_violations (wsV RX1 78 RX1 yX1_size wsX1_size) := goodIn_app (goodIn_of _ (by decide +kernel)) ggX1_violations_X1_size
theorem dX1_violations_0 : decode cX1_violations 0 = .ok (.aload_n 0, 1) := by decide +kernel
theorem dX1_violations_1 : decode cX1_violations 1 = .ok (.aload_n 0, 1) := by decide +kernel
theorem dX1_violations_2 : decode cX1_violations 2 = .ok (.iload_n 1, 1) := by decide +kernel
theorem dX1_violations_3 : decode cX1_violations 3 = .ok (.invokevirtual 64, 3) := by decide +kernel
theorem dX1_violations_6 : decode cX1_violations 6 = .ok (.ifCond .eq 7, 3) := by decide +kernel
theorem dX1_violations_9 : decode cX1_violations 9 = .ok (.iconst 0, 1) := by decide +kernel
theorem dX1_violations_10 : decode cX1_violations 10 = .ok (.goto 4, 3) := by decide +kernel
theorem dX1_violations_13 : decode cX1_violations 13 = .ok (.iconst 1, 1) := by decide +kernel
theorem dX1_violations_14 : decode cX1_violations 14 = .ok (.invokevirtual 71, 3) := by decide +kernel
theorem dX1_violations_17 : decode cX1_violations 17 = .ok (.ifCond .eq 5, 3) := by decide +kernel
theorem dX1_violations_20 : decode cX1_violations 20 = .ok (.iconst (-1), 1) := by decide +kernel
theorem dX1_violations_21 : decode cX1_violations 21 = .ok (.ireturn, 1) := by decide +kernel
theorem dX1_violations_22 : decode cX1_violations 22 = .ok (.iconst 0, 1) := by decide +kernel
theorem dX1_violations_23 : decode cX1_violations 23 = .ok (.istore_n 2, 1) := by decide +kernel
theorem dX1_violations_24 : decode cX1_violations 24 = .ok (.iconst 0, 1) := by decide +kernel
theorem dX1_violations_25 : decode cX1_violations 25 = .ok (.istore_n 3, 1) := by decide +kernel
theorem dX1_violations_26 : decode cX1_violations 26 = .ok (.iload_n 3, 1) := by decide +kernel
theorem dX1_violations_27 : decode cX1_violations 27 = .ok (.bipush 12, 2) := by decide +kernel
theorem dX1_violations_29 : decode cX1_violations 29 = .ok (.if_icmp .ge 47, 3) := by decide +kernel
theorem dX1_violations_32 : decode cX1_violations 32 = .ok (.iload_n 2, 1) := by decide +kernel
theorem dX1_violations_33 : decode cX1_violations 33 = .ok (.aload_n 0, 1) := by decide +kernel
theorem dX1_violations_34 : decode cX1_violations 34 = .ok (.aload_n 0, 1) := by decide +kernel
theorem dX1_violations_35 : decode cX1_violations 35 = .ok (.getfield 7, 3) := by decide +kernel
theorem dX1_violations_38 : decode cX1_violations 38 = .ok (.iload_n 1, 1) := by decide +kernel
theorem dX1_violations_39 : decode cX1_violations 39 = .ok (.iaload, 1) := by decide +kernel
theorem dX1_violations_40 : decode cX1_violations 40 = .ok (.iload_n 3, 1) := by decide +kernel
theorem dX1_violations_41 : decode cX1_violations 41 = .ok (.invokevirtual 54, 3) := by decide +kernel
theorem dX1_violations_44 : decode cX1_violations 44 = .ok (.ifCond .eq 23, 3) := by decide +kernel
theorem dX1_violations_47 : decode cX1_violations 47 = .ok (.aload_n 0, 1) := by decide +kernel
theorem dX1_violations_48 : decode cX1_violations 48 = .ok (.aload_n 0, 1) := by decide +kernel
theorem dX1_violations_49 : decode cX1_violations 49 = .ok (.getfield 16, 3) := by decide +kernel
theorem dX1_violations_52 : decode cX1_violations 52 = .ok (.iload_n 3, 1) := by decide +kernel
theorem dX1_violations_53 : decode cX1_violations 53 = .ok (.iaload, 1) := by decide +kernel
theorem dX1_violations_54 : decode cX1_violations 54 = .ok (.aload_n 0, 1) := by decide +kernel
theorem dX1_violations_55 : decode cX1_violations 55 = .ok (.getfield 7, 3) := by decide +kernel
theorem dX1_violations_58 : decode cX1_violations 58 = .ok (.iload_n 1, 1) := by decide +kernel
theorem dX1_violations_59 : decode cX1_violations 59 = .ok (.iaload, 1) := by decide +kernel
theorem dX1_violations_60 : decode cX1_violations 60 = .ok (.iand, 1) := by decide +kernel
theorem dX1_violations_61 : decode cX1_violations 61 = .ok (.invokevirtual 78, 3) := by decide +kernel
theorem dX1_violations_64 : decode cX1_violations 64 = .ok (.goto 4, 3) := by decide +kernel
theorem dX1_violations_67 : decode cX1_violations 67 = .ok (.iconst 0, 1) := by decide +kernel
theorem dX1_violations_68 : decode cX1_violations 68 = .ok (.iadd, 1) := by decide +kernel
theorem dX1_violations_69 : decode cX1_violations 69 = .ok (.istore_n 2, 1) := by decide +kernel
theorem dX1_violations_70 : decode cX1_violations 70 = .ok (.iinc 3 1, 3) := by decide +kernel
theorem dX1_violations_73 : decode cX1_violations 73 = .ok (.goto (-47), 3) := by decide +kernel
theorem dX1_violations_76 : decode cX1_violations 76 = .ok (.iload_n 2, 1) := by decide +kernel
theorem dX1_violations_77 : decode cX1_violations 77 = .ok (.iconst 2, 1) := by decide +kernel
theorem dX1_violations_78 : decode cX1_violations 78 = .ok (.idiv, 1) := by decide +kernel
theorem dX1_violations_79 : decode cX1_violations 79 = .ok (.ireturn, 1) := by decide +kernel
set_option maxRecDepth 20000 in
theorem ggX1_quarter_X1_plain : GoodIn wsX1_quarter wsX1_plain := goodIn_r _ [6, 7, 8, 9, 10, 11, 12, 13, 14, 15, 16, 17, 18, 19, 20, 21, 22, 23] (by decide +kernel) (by decide +kernel)
set_option maxRecDepth 20000 in
theorem gX1_quarter_X1_plain : GoodIn wsX1_quarter (wsV RX1 128 RX1 yX1_plain wsX1_plain) := goodIn_app (goodIn_of _ (by decide +kernel)) ggX1_quarter_X1_plain
theorem dX1_quarter_0 : decode cX1_quarter 0 = .ok (.aload_n 0, 1) := by decide +kernel
theorem dX1_quarter_1 : decode cX1_quarter 1 = .ok (.aload_n 0, 1) := by decide +kernel
theorem dX1_quarter_2 : decode cX1_quarter 2 = .ok (.getfield 61, 3) := by decide +kernel
theorem dX1_quarter_5 : decode cX1_quarter 5 = .ok (.invokevirtual 128, 3) := by decide +kernel
theorem dX1_quarter_8 : decode cX1_quarter 8 = .ok (.ireturn, 1) := by decide +kernel
set_option maxRecDepth 20000 in
theorem ggX1_due_X1_isUser : GoodIn wsX1_due wsX1_isUser := goodIn_r _ [6, 7, 8, 9, 5, 10] (by decide +kernel) (by decide +kernel)
set_option maxRecDepth 20000 in
theorem gX1_due_X1_isUser : GoodIn wsX1_due (wsV RX1 64 RX1 yX1_isUser wsX1_isUser) := goodIn_app (goodIn_of _ (by decide +kernel)) ggX1_due_X1_isUser
set_option maxRecDepth 20000 in
theorem ggX1_due_X1_holds : GoodIn wsX1_due wsX1_holds := goodIn_r _ [14, 15, 27, 28, 29, 30, 31, 32, 33, 34, 35, 36, 37, 38, 39, 40, 41, 42] (by decide +kernel) (by decide +kernel)
set_option maxRecDepth 20000 in
theorem gX1_due_X1_holds : GoodIn wsX1_due (wsV RX1 71 RX1 yX1_holds wsX1_holds) := goodIn_app (goodIn_of _ (by decide +kernel)) ggX1_due_X1_holds
set_option maxRecDepth 20000 in
theorem ggX1_due_X1_old : GoodIn wsX1_due wsX1_old := goodIn_r _ [19, 20, 21, 22, 23, 24, 25, 5, 26, 27, 28, 29, 30, 31, 32, 33, 34, 35, 36, 37, 38, 39, 40, 41, 42] (by decide +kernel) (by decide +kernel)
set_option maxRecDepth 20000 in
theorem gX1_due_X1_old : GoodIn wsX1_due (wsV RX1 82 RX1 yX1_old wsX1_old) := goodIn_app (goodIn_of _ (by decide +kernel)) ggX1_due_X1_old
theorem dX1_due_0 : decode cX1_due 0 = .ok (.aload_n 0, 1) := by decide +kernel
theorem dX1_due_1 : decode cX1_due 1 = .ok (.aload_n 0, 1) := by decide +kernel
theorem dX1_due_2 : decode cX1_due 2 = .ok (.iload_n 1, 1) := by decide +kernel
theorem dX1_due_3 : decode cX1_due 3 = .ok (.invokevirtual 64, 3) := by decide +kernel
theorem dX1_due_6 : decode cX1_due 6 = .ok (.ifCond .eq 7, 3) := by decide +kernel
theorem dX1_due_9 : decode cX1_due 9 = .ok (.iconst 0, 1) := by decide +kernel
theorem dX1_due_10 : decode cX1_due 10 = .ok (.goto 4, 3) := by decide +kernel
theorem dX1_due_13 : decode cX1_due 13 = .ok (.iconst 1, 1) := by decide +kernel
theorem dX1_due_14 : decode cX1_due 14 = .ok (.invokevirtual 71, 3) := by decide +kernel
theorem dX1_due_17 : decode cX1_due 17 = .ok (.ifCond .eq 7, 3) := by decide +kernel
theorem dX1_due_20 : decode cX1_due 20 = .ok (.iconst (-1), 1) := by decide +kernel
theorem dX1_due_21 : decode cX1_due 21 = .ok (.goto 14, 3) := by decide +kernel
theorem dX1_due_24 : decode cX1_due 24 = .ok (.aload_n 0, 1) := by decide +kernel
theorem dX1_due_25 : decode cX1_due 25 = .ok (.iload_n 1, 1) := by decide +kernel
theorem dX1_due_26 : decode cX1_due 26 = .ok (.aload_n 0, 1) := by decide +kernel
theorem dX1_due_27 : decode cX1_due 27 = .ok (.getfield 61, 3) := by decide +kernel
theorem dX1_due_30 : decode cX1_due 30 = .ok (.iconst 1, 1) := by decide +kernel
theorem dX1_due_31 : decode cX1_due 31 = .ok (.iadd, 1) := by decide +kernel
theorem dX1_due_32 : decode cX1_due 32 = .ok (.invokevirtual 82, 3) := by decide +kernel
theorem dX1_due_35 : decode cX1_due 35 = .ok (.ireturn, 1) := by decide +kernel
set_option maxRecDepth 20000 in
theorem ggX1_candidates_X1_find : GoodIn wsX1_candidates wsX1_find := goodIn_r _ [6, 7, 8, 1, 9, 10, 11, 12, 13, 5, 14, 15, 16, 17, 18, 19, 20, 21, 22, 23, 24, 25, 26, 27, 28, 29, 30, 31, 37, 38, 39, 40, 41, 42, 43, 44, 45, 46, 47, 48, 49, 50, 51, 52] (by decide +kernel) (by decide +kernel)
set_option maxRecDepth 20000 in
theorem gX1_candidates_X1_find : GoodIn wsX1_candidates (wsV RX1 106 RX1 yX1_find wsX1_find) := goodIn_app (goodIn_of _ (by decide +kernel)) ggX1_candidates_X1_find
set_option maxRecDepth 20000 in
theorem ggX1_candidates_X1_plain : GoodIn wsX1_candidates wsX1_plain := goodIn_r _ [35, 36, 37, 38, 39, 40, 41, 42, 43, 44, 45, 46, 47, 48, 49, 50, 51, 52] (by decide +kernel) (by decide +kernel)
set_option maxRecDepth 20000 in
theorem gX1_candidates_X1_plain : GoodIn wsX1_candidates (wsV RX1 128 RX1 yX1_plain wsX1_plain) := goodIn_app (goodIn_of _ (by decide +kernel)) ggX1_candidates_X1_plain
theorem dX1_candidates_0 : decode cX1_candidates 0 = .ok (.aload_n 0, 1) := by decide +kernel
theorem dX1_candidates_1 : decode cX1_candidates 1 = .ok (.invokevirtual 106, 3) := by decide +kernel
theorem dX1_candidates_4 : decode cX1_candidates 4 = .ok (.aload_n 0, 1) := by decide +kernel
theorem dX1_candidates_5 : decode cX1_candidates 5 = .ok (.aload_n 0, 1) := by decide +kernel
theorem dX1_candidates_6 : decode cX1_candidates 6 = .ok (.getfield 86, 3) := by decide +kernel
theorem dX1_candidates_9 : decode cX1_candidates 9 = .ok (.invokevirtual 128, 3) := by decide +kernel
theorem dX1_candidates_12 : decode cX1_candidates 12 = .ok (.ireturn, 1) := by decide +kernel
set_option maxRecDepth 20000 in
theorem ggX1_candidate_X1_find : GoodIn wsX1_candidate wsX1_find := goodIn_r _ [7, 8, 9, 1, 10, 2, 11, 12, 13, 6, 14, 15, 16, 17, 18, 19, 20, 21, 22, 23, 24, 25, 26, 27, 28, 29, 30, 31, 41, 42, 43, 44, 45, 46, 47, 48, 49, 50, 51, 52, 53, 54, 55, 56] (by decide +kernel) (by decide +kernel)
set_option maxRecDepth 20000 in
theorem gX1_candidate_X1_find : GoodIn wsX1_candidate (wsV RX1 106 RX1 yX1_find wsX1_find) := goodIn_app (goodIn_of _ (by decide +kernel)) ggX1_candidate_X1_find
set_option maxRecDepth 20000 in
theorem ggX1_candidate_X1_between : GoodIn wsX1_candidate wsX1_between := goodIn_r _ [35] (by decide +kernel) (by decide +kernel)
set_option maxRecDepth 20000 in
theorem gX1_candidate_X1_between : GoodIn wsX1_candidate (wsV RX1 50 RX1 yX1_between wsX1_between) := goodIn_app (goodIn_of _ (by decide +kernel)) ggX1_candidate_X1_between
set_option maxRecDepth 20000 in
theorem ggX1_candidate_X1_holds : GoodIn wsX1_candidate wsX1_holds := goodIn_r _ [39, 40, 41, 42, 43, 44, 45, 46, 47, 48, 49, 50, 51, 52, 53, 54, 55, 56] (by decide +kernel) (by decide +kernel)
set_option maxRecDepth 20000 in
theorem gX1_candidate_X1_holds : GoodIn wsX1_candidate (wsV RX1 71 RX1 yX1_holds wsX1_holds) := goodIn_app (goodIn_of _ (by decide +kernel)) ggX1_candidate_X1_holds
theorem dX1_candidate_0 : decode cX1_candidate 0 = .ok (.aload_n 0, 1) := by decide +kernel
theorem dX1_candidate_1 : decode cX1_candidate 1 = .ok (.invokevirtual 106, 3) := by decide +kernel
theorem dX1_candidate_4 : decode cX1_candidate 4 = .ok (.aload_n 0, 1) := by decide +kernel
theorem dX1_candidate_5 : decode cX1_candidate 5 = .ok (.aload_n 0, 1) := by decide +kernel
theorem dX1_candidate_6 : decode cX1_candidate 6 = .ok (.iload_n 1, 1) := by decide +kernel
theorem dX1_candidate_7 : decode cX1_candidate 7 = .ok (.iconst 0, 1) := by decide +kernel
theorem dX1_candidate_8 : decode cX1_candidate 8 = .ok (.aload_n 0, 1) := by decide +kernel
theorem dX1_candidate_9 : decode cX1_candidate 9 = .ok (.getfield 86, 3) := by decide +kernel
theorem dX1_candidate_12 : decode cX1_candidate 12 = .ok (.iconst 1, 1) := by decide +kernel
theorem dX1_candidate_13 : decode cX1_candidate 13 = .ok (.isub, 1) := by decide +kernel
theorem dX1_candidate_14 : decode cX1_candidate 14 = .ok (.invokevirtual 50, 3) := by decide +kernel
theorem dX1_candidate_17 : decode cX1_candidate 17 = .ok (.ifCond .eq 7, 3) := by decide +kernel
theorem dX1_candidate_20 : decode cX1_candidate 20 = .ok (.iconst 0, 1) := by decide +kernel
theorem dX1_candidate_21 : decode cX1_candidate 21 = .ok (.goto 4, 3) := by decide +kernel
theorem dX1_candidate_24 : decode cX1_candidate 24 = .ok (.iconst 1, 1) := by decide +kernel
theorem dX1_candidate_25 : decode cX1_candidate 25 = .ok (.invokevirtual 71, 3) := by decide +kernel
theorem dX1_candidate_28 : decode cX1_candidate 28 = .ok (.ifCond .eq 7, 3) := by decide +kernel
theorem dX1_candidate_31 : decode cX1_candidate 31 = .ok (.iconst (-1), 1) := by decide +kernel
theorem dX1_candidate_32 : decode cX1_candidate 32 = .ok (.goto 9, 3) := by decide +kernel
theorem dX1_candidate_35 : decode cX1_candidate 35 = .ok (.aload_n 0, 1) := by decide +kernel
theorem dX1_candidate_36 : decode cX1_candidate 36 = .ok (.getfield 22, 3) := by decide +kernel
theorem dX1_candidate_39 : decode cX1_candidate 39 = .ok (.iload_n 1, 1) := by decide +kernel
theorem dX1_candidate_40 : decode cX1_candidate 40 = .ok (.iaload, 1) := by decide +kernel
theorem dX1_candidate_41 : decode cX1_candidate 41 = .ok (.ireturn, 1) := by decide +kernel
set_option maxRecDepth 20000 in
theorem ggX1_holders_X1_between : GoodIn wsX1_holders wsX1_between := goodIn_r _ [5] (by decide +kernel) (by decide +kernel)
set_option maxRecDepth 20000 in
theorem gX1_holders_X1_between : GoodIn wsX1_holders (wsV RX1 50 RX1 yX1_between wsX1_between) := goodIn_app (goodIn_of _ (by decide +kernel)) ggX1_holders_X1_between
set_option maxRecDepth 20000 in
theorem ggX1_holders_X1_holds : GoodIn wsX1_holders wsX1_holds := goodIn_r _ [9, 10, 20, 21, 22, 23, 24, 25, 26, 27, 28, 29, 30, 31, 32, 33, 34, 35] (by decide +kernel) (by decide +kernel)
set_option maxRecDepth 20000 in
theorem gX1_holders_X1_holds : GoodIn wsX1_holders (wsV RX1 71 RX1 yX1_holds wsX1_holds) := goodIn_app (goodIn_of _ (by decide +kernel)) ggX1_holders_X1_holds
set_option maxRecDepth 20000 in
theorem ggX1_holders_X1_whoHas : GoodIn wsX1_holders wsX1_whoHas := goodIn_r _ [14, 15, 16, 17, 4, 18, 19, 20, 21, 22, 23, 24, 25, 26, 27, 28, 29, 30, 31, 32, 33, 34, 35] (by decide +kernel) (by decide +kernel)
set_option maxRecDepth 20000 in
theorem gX1_holders_X1_whoHas : GoodIn wsX1_holders (wsV RX1 92 RX1 yX1_whoHas wsX1_whoHas) := goodIn_app (goodIn_of _ (by decide +kernel)) ggX1_holders_X1_whoHas
theorem dX1_holders_0 : decode cX1_holders 0 = .ok (.aload_n 0, 1) := by decide +kernel
theorem dX1_holders_1 : decode cX1_holders 1 = .ok (.aload_n 0, 1) := by decide +kernel
theorem dX1_holders_2 : decode cX1_holders 2 = .ok (.iload_n 1, 1) := by decide +kernel
theorem dX1_holders_3 : decode cX1_holders 3 = .ok (.iconst 0, 1) := by decide +kernel
theorem dX1_holders_4 : decode cX1_holders 4 = .ok (.sipush 4095, 3) := by decide +kernel
theorem dX1_holders_7 : decode cX1_holders 7 = .ok (.invokevirtual 50, 3) := by decide +kernel
theorem dX1_holders_10 : decode cX1_holders 10 = .ok (.ifCond .eq 7, 3) := by decide +kernel
theorem dX1_holders_13 : decode cX1_holders 13 = .ok (.iconst 0, 1) := by decide +kernel
theorem dX1_holders_14 : decode cX1_holders 14 = .ok (.goto 4, 3) := by decide +kernel
theorem dX1_holders_17 : decode cX1_holders 17 = .ok (.iconst 1, 1) := by decide +kernel
theorem dX1_holders_18 : decode cX1_holders 18 = .ok (.invokevirtual 71, 3) := by decide +kernel
theorem dX1_holders_21 : decode cX1_holders 21 = .ok (.ifCond .eq 7, 3) := by decide +kernel
theorem dX1_holders_24 : decode cX1_holders 24 = .ok (.iconst (-1), 1) := by decide +kernel
theorem dX1_holders_25 : decode cX1_holders 25 = .ok (.goto 8, 3) := by decide +kernel
theorem dX1_holders_28 : decode cX1_holders 28 = .ok (.aload_n 0, 1) := by decide +kernel
theorem dX1_holders_29 : decode cX1_holders 29 = .ok (.iload_n 1, 1) := by decide +kernel
theorem dX1_holders_30 : decode cX1_holders 30 = .ok (.invokevirtual 92, 3) := by decide +kernel
theorem dX1_holders_33 : decode cX1_holders 33 = .ok (.ireturn, 1) := by decide +kernel
set_option maxRecDepth 20000 in
theorem ggX1_costOf_X1_isTooMuch : GoodIn wsX1_costOf wsX1_isTooMuch := goodIn_r _ [6, 1, 7, 8, 9, 5, 10, 11, 12, 13, 14, 15, 16, 17, 18, 19, 20, 21, 22, 23, 24, 25, 26, 27, 28, 29, 30, 31, 32, 33, 34, 35, 60, 61, 62, 63, 64, 65, 66, 67, 68, 69, 70, 71, 72, 73, 74, 75] (by decide +kernel) (by decide +kernel)
set_option maxRecDepth 20000 in
theorem gX1_costOf_X1_isTooMuch : GoodIn wsX1_costOf (wsV RX1 121 RX1 yX1_isTooMuch wsX1_isTooMuch) := goodIn_app (goodIn_of _ (by decide +kernel)) ggX1_costOf_X1_isTooMuch
set_option maxRecDepth 20000 in
theorem ggX1_costOf_X1_holds : GoodIn wsX1_costOf wsX1_holds := goodIn_r _ [39, 40, 60, 61, 62, 63, 64, 65, 66, 67, 68, 69, 70, 71, 72, 73, 74, 75] (by decide +kernel) (by decide +kernel)
set_option maxRecDepth 20000 in
theorem gX1_costOf_X1_holds : GoodIn wsX1_costOf (wsV RX1 71 RX1 yX1_holds wsX1_holds) := goodIn_app (goodIn_of _ (by decide +kernel)) ggX1_costOf_X1_holds
set_option maxRecDepth 20000 in
theorem ggX1_costOf_X1_price : GoodIn wsX1_costOf wsX1_price := goodIn_r _ [44, 1, 14, 45, 46, 47, 48, 49, 5, 50, 51, 15, 16, 17, 18, 52, 53, 54, 55, 28, 29, 30, 31, 12, 32, 33, 34, 35, 56, 57, 58, 59, 60, 61, 62, 63, 64, 65, 66, 67, 68, 69, 70, 71, 72, 73, 74, 75] (by decide +kernel) (by decide +kernel)
set_option maxRecDepth 20000 in
theorem gX1_costOf_X1_price : GoodIn wsX1_costOf (wsV RX1 115 RX1 yX1_price wsX1_price) := goodIn_app (goodIn_of _ (by decide +kernel)) ggX1_costOf_X1_price
theorem dX1_costOf_0 : decode cX1_costOf 0 = .ok (.aload_n 0, 1) := by decide +kernel
theorem dX1_costOf_1 : decode cX1_costOf 1 = .ok (.aload_n 0, 1) := by decide +kernel
theorem dX1_costOf_2 : decode cX1_costOf 2 = .ok (.invokevirtual 121, 3) := by decide +kernel
theorem dX1_costOf_5 : decode cX1_costOf 5 = .ok (.ifCond .eq 7, 3) := by decide +kernel
theorem dX1_costOf_8 : decode cX1_costOf 8 = .ok (.iconst 1, 1) := by decide +kernel
theorem dX1_costOf_9 : decode cX1_costOf 9 = .ok (.goto 21, 3) := by decide +kernel
theorem dX1_costOf_12 : decode cX1_costOf 12 = .ok (.iload_n 1, 1) := by decide +kernel
theorem dX1_costOf_13 : decode cX1_costOf 13 = .ok (.ifCond .lt 12, 3) := by decide +kernel
theorem dX1_costOf_16 : decode cX1_costOf 16 = .ok (.iload_n 1, 1) := by decide +kernel
theorem dX1_costOf_17 : decode cX1_costOf 17 = .ok (.aload_n 0, 1) := by decide +kernel
theorem dX1_costOf_18 : decode cX1_costOf 18 = .ok (.getfield 86, 3) := by decide +kernel
theorem dX1_costOf_21 : decode cX1_costOf 21 = .ok (.ishr, 1) := by decide +kernel
theorem dX1_costOf_22 : decode cX1_costOf 22 = .ok (.ifCond .eq 7, 3) := by decide +kernel
theorem dX1_costOf_25 : decode cX1_costOf 25 = .ok (.iconst 2, 1) := by decide +kernel
theorem dX1_costOf_26 : decode cX1_costOf 26 = .ok (.goto 4, 3) := by decide +kernel
theorem dX1_costOf_29 : decode cX1_costOf 29 = .ok (.iconst 0, 1) := by decide +kernel
theorem dX1_costOf_30 : decode cX1_costOf 30 = .ok (.invokevirtual 71, 3) := by decide +kernel
theorem dX1_costOf_33 : decode cX1_costOf 33 = .ok (.ifCond .eq 5, 3) := by decide +kernel
theorem dX1_costOf_36 : decode cX1_costOf 36 = .ok (.iconst (-1), 1) := by decide +kernel
theorem dX1_costOf_37 : decode cX1_costOf 37 = .ok (.ireturn, 1) := by decide +kernel
theorem dX1_costOf_38 : decode cX1_costOf 38 = .ok (.aload_n 0, 1) := by decide +kernel
theorem dX1_costOf_39 : decode cX1_costOf 39 = .ok (.iload_n 1, 1) := by decide +kernel
theorem dX1_costOf_40 : decode cX1_costOf 40 = .ok (.invokevirtual 115, 3) := by decide +kernel
theorem dX1_costOf_43 : decode cX1_costOf 43 = .ok (.ireturn, 1) := by decide +kernel
set_option maxRecDepth 20000 in
theorem ggX1_leastCost_X1_isTooMuch : GoodIn wsX1_leastCost wsX1_isTooMuch := goodIn_r _ [6, 1, 7, 8, 9, 5, 10, 11, 12, 13, 14, 15, 16, 17, 18, 19, 20, 21, 22, 23, 24, 25, 26, 27, 28, 29, 30, 31, 32, 33, 34, 35, 60, 61, 62, 63, 64, 65, 66, 67, 68, 69, 70, 71, 72, 73, 74, 75] (by decide +kernel) (by decide +kernel)
set_option maxRecDepth 20000 in
theorem gX1_leastCost_X1_isTooMuch : GoodIn wsX1_leastCost (wsV RX1 121 RX1 yX1_isTooMuch wsX1_isTooMuch) := goodIn_app (goodIn_of _ (by decide +kernel)) ggX1_leastCost_X1_isTooMuch
set_option maxRecDepth 20000 in
theorem ggX1_leastCost_X1_holds : GoodIn wsX1_leastCost wsX1_holds := goodIn_r _ [39, 40, 60, 61, 62, 63, 64, 65, 66, 67, 68, 69, 70, 71, 72, 73, 74, 75] (by decide +kernel) (by decide +kernel)
set_option maxRecDepth 20000 in
theorem gX1_leastCost_X1_holds : GoodIn wsX1_leastCost (wsV RX1 71 RX1 yX1_holds wsX1_holds) := goodIn_app (goodIn_of _ (by decide +kernel)) ggX1_leastCost_X1_holds
set_option maxRecDepth 20000 in
theorem ggX1_leastCost_X1_price : GoodIn wsX1_leastCost wsX1_price := goodIn_r _ [44, 1, 14, 45, 46, 47, 48, 49, 5, 50, 51, 15, 16, 17, 18, 52, 53, 54, 55, 28, 29, 30, 31, 12, 32, 33, 34, 35, 56, 57, 58, 59, 60, 61, 62, 63, 64, 65, 66, 67, 68, 69, 70, 71, 72, 73, 74, 75] (by decide +kernel) (by decide +kernel)
set_option maxRecDepth 20000 in
theorem gX1_leastCost_X1_price : GoodIn wsX1_leastCost (wsV RX1 115 RX1 yX1_price wsX1_price) := goodIn_app (goodIn_of _ (by decide +kernel)) ggX1_leastCost_X1_price
theorem dX1_leastCost_0 : decode cX1_leastCost 0 = .ok (.aload_n 0, 1) := by decide +kernel
theorem dX1_leastCost_1 : decode cX1_leastCost 1 = .ok (.aload_n 0, 1) := by decide +kernel
theorem dX1_leastCost_2 : decode cX1_leastCost 2 = .ok (.invokevirtual 121, 3) := by decide +kernel
theorem dX1_leastCost_5 : decode cX1_leastCost 5 = .ok (.ifCond .eq 7, 3) := by decide +kernel
theorem dX1_leastCost_8 : decode cX1_leastCost 8 = .ok (.iconst 1, 1) := by decide +kernel
theorem dX1_leastCost_9 : decode cX1_leastCost 9 = .ok (.goto 4, 3) := by decide +kernel
theorem dX1_leastCost_12 : decode cX1_leastCost 12 = .ok (.iconst 0, 1) := by decide +kernel
theorem dX1_leastCost_13 : decode cX1_leastCost 13 = .ok (.invokevirtual 71, 3) := by decide +kernel
theorem dX1_leastCost_16 : decode cX1_leastCost 16 = .ok (.ifCond .eq 5, 3) := by decide +kernel
theorem dX1_leastCost_19 : decode cX1_leastCost 19 = .ok (.iconst (-1), 1) := by decide +kernel
theorem dX1_leastCost_20 : decode cX1_leastCost 20 = .ok (.ireturn, 1) := by decide +kernel
theorem dX1_leastCost_21 : decode cX1_leastCost 21 = .ok (.aload_n 0, 1) := by decide +kernel
theorem dX1_leastCost_22 : decode cX1_leastCost 22 = .ok (.iconst 0, 1) := by decide +kernel
theorem dX1_leastCost_23 : decode cX1_leastCost 23 = .ok (.invokevirtual 115, 3) := by decide +kernel
theorem dX1_leastCost_26 : decode cX1_leastCost 26 = .ok (.istore_n 1, 1) := by decide +kernel
theorem dX1_leastCost_27 : decode cX1_leastCost 27 = .ok (.iconst 1, 1) := by decide +kernel
theorem dX1_leastCost_28 : decode cX1_leastCost 28 = .ok (.istore_n 2, 1) := by decide +kernel
theorem dX1_leastCost_29 : decode cX1_leastCost 29 = .ok (.iload_n 2, 1) := by decide +kernel
theorem dX1_leastCost_30 : decode cX1_leastCost 30 = .ok (.iconst 1, 1) := by decide +kernel
theorem dX1_leastCost_31 : decode cX1_leastCost 31 = .ok (.aload_n 0, 1) := by decide +kernel
theorem dX1_leastCost_32 : decode cX1_leastCost 32 = .ok (.getfield 86, 3) := by decide +kernel
theorem dX1_leastCost_35 : decode cX1_leastCost 35 = .ok (.ishl, 1) := by decide +kernel
theorem dX1_leastCost_36 : decode cX1_leastCost 36 = .ok (.if_icmp .ge 26, 3) := by decide +kernel
theorem dX1_leastCost_39 : decode cX1_leastCost 39 = .ok (.aload_n 0, 1) := by decide +kernel
theorem dX1_leastCost_40 : decode cX1_leastCost 40 = .ok (.iload_n 2, 1) := by decide +kernel
theorem dX1_leastCost_41 : decode cX1_leastCost 41 = .ok (.invokevirtual 115, 3) := by decide +kernel
theorem dX1_leastCost_44 : decode cX1_leastCost 44 = .ok (.istore_n 3, 1) := by decide +kernel
theorem dX1_leastCost_45 : decode cX1_leastCost 45 = .ok (.iload_n 3, 1) := by decide +kernel
theorem dX1_leastCost_46 : decode cX1_leastCost 46 = .ok (.iload_n 1, 1) := by decide +kernel
theorem dX1_leastCost_47 : decode cX1_leastCost 47 = .ok (.if_icmp .ge 7, 3) := by decide +kernel
theorem dX1_leastCost_50 : decode cX1_leastCost 50 = .ok (.iload_n 3, 1) := by decide +kernel
theorem dX1_leastCost_51 : decode cX1_leastCost 51 = .ok (.goto 4, 3) := by decide +kernel
theorem dX1_leastCost_54 : decode cX1_leastCost 54 = .ok (.iload_n 1, 1) := by decide +kernel
theorem dX1_leastCost_55 : decode cX1_leastCost 55 = .ok (.istore_n 1, 1) := by decide +kernel
theorem dX1_leastCost_56 : decode cX1_leastCost 56 = .ok (.iinc 2 1, 3) := by decide +kernel
theorem dX1_leastCost_59 : decode cX1_leastCost 59 = .ok (.goto (-30), 3) := by decide +kernel
theorem dX1_leastCost_62 : decode cX1_leastCost 62 = .ok (.iload_n 1, 1) := by decide +kernel
theorem dX1_leastCost_63 : decode cX1_leastCost 63 = .ok (.ireturn, 1) := by decide +kernel
set_option maxRecDepth 20000 in
theorem ggX1_isRole_X1_between : GoodIn wsX1_isRole wsX1_between := goodIn_r _ [6] (by decide +kernel) (by decide +kernel)
set_option maxRecDepth 20000 in
theorem gX1_isRole_X1_between : GoodIn wsX1_isRole (wsV RX1 50 RX1 yX1_between wsX1_between) := goodIn_app (goodIn_of _ (by decide +kernel)) ggX1_isRole_X1_between
theorem dX1_isRole_0 : decode cX1_isRole 0 = .ok (.aload_n 0, 1) := by decide +kernel
theorem dX1_isRole_1 : decode cX1_isRole 1 = .ok (.iload_n 1, 1) := by decide +kernel
theorem dX1_isRole_2 : decode cX1_isRole 2 = .ok (.iconst 0, 1) := by decide +kernel
theorem dX1_isRole_3 : decode cX1_isRole 3 = .ok (.aload_n 0, 1) := by decide +kernel
theorem dX1_isRole_4 : decode cX1_isRole 4 = .ok (.getfield 112, 3) := by decide +kernel
theorem dX1_isRole_7 : decode cX1_isRole 7 = .ok (.iconst 1, 1) := by decide +kernel
theorem dX1_isRole_8 : decode cX1_isRole 8 = .ok (.isub, 1) := by decide +kernel
theorem dX1_isRole_9 : decode cX1_isRole 9 = .ok (.invokevirtual 50, 3) := by decide +kernel
theorem dX1_isRole_12 : decode cX1_isRole 12 = .ok (.ireturn, 1) := by decide +kernel
set_option maxRecDepth 20000 in
theorem ggX1_roles_X1_plain : GoodIn wsX1_roles wsX1_plain := goodIn_r _ [6, 7, 8, 9, 10, 11, 12, 13, 14, 15, 16, 17, 18, 19, 20, 21, 22, 23] (by decide +kernel) (by decide +kernel)
set_option maxRecDepth 20000 in
theorem gX1_roles_X1_plain : GoodIn wsX1_roles (wsV RX1 128 RX1 yX1_plain wsX1_plain) := goodIn_app (goodIn_of _ (by decide +kernel)) ggX1_roles_X1_plain
theorem dX1_roles_0 : decode cX1_roles 0 = .ok (.aload_n 0, 1) := by decide +kernel
theorem dX1_roles_1 : decode cX1_roles 1 = .ok (.aload_n 0, 1) := by decide +kernel
theorem dX1_roles_2 : decode cX1_roles 2 = .ok (.getfield 112, 3) := by decide +kernel
theorem dX1_roles_5 : decode cX1_roles 5 = .ok (.invokevirtual 128, 3) := by decide +kernel
theorem dX1_roles_8 : decode cX1_roles 8 = .ok (.ireturn, 1) := by decide +kernel
set_option maxRecDepth 20000 in
theorem ggX1_role_X1_isRole : GoodIn wsX1_role wsX1_isRole := goodIn_r _ [6, 7, 8, 9, 10, 5, 11, 17, 18, 19, 20, 21, 22, 23, 24, 25, 26, 27, 28, 29, 30, 31, 32] (by decide +kernel) (by decide +kernel)
set_option maxRecDepth 20000 in
theorem gX1_role_X1_isRole : GoodIn wsX1_role (wsV RX1 131 RX1 yX1_isRole wsX1_isRole) := goodIn_app (goodIn_of _ (by decide +kernel)) ggX1_role_X1_isRole
set_option maxRecDepth 20000 in
theorem ggX1_role_X1_holds : GoodIn wsX1_role wsX1_holds := goodIn_r _ [15, 16, 17, 18, 19, 20, 21, 22, 23, 24, 25, 26, 27, 28, 29, 30, 31, 32] (by decide +kernel) (by decide +kernel)
set_option maxRecDepth 20000 in
theorem gX1_role_X1_holds : GoodIn wsX1_role (wsV RX1 71 RX1 yX1_holds wsX1_holds) := goodIn_app (goodIn_of _ (by decide +kernel)) ggX1_role_X1_holds
theorem dX1_role_0 : decode cX1_role 0 = .ok (.aload_n 0, 1) := by decide +kernel
theorem dX1_role_1 : decode cX1_role 1 = .ok (.aload_n 0, 1) := by decide +kernel
theorem dX1_role_2 : decode cX1_role 2 = .ok (.iload_n 1, 1) := by decide +kernel
theorem dX1_role_3 : decode cX1_role 3 = .ok (.invokevirtual 131, 3) := by decide +kernel
theorem dX1_role_6 : decode cX1_role 6 = .ok (.ifCond .eq 7, 3) := by decide +kernel
theorem dX1_role_9 : decode cX1_role 9 = .ok (.iconst 0, 1) := by decide +kernel
theorem dX1_role_10 : decode cX1_role 10 = .ok (.goto 4, 3) := by decide +kernel
theorem dX1_role_13 : decode cX1_role 13 = .ok (.iconst 1, 1) := by decide +kernel
theorem dX1_role_14 : decode cX1_role 14 = .ok (.invokevirtual 71, 3) := by decide +kernel
theorem dX1_role_17 : decode cX1_role 17 = .ok (.ifCond .eq 7, 3) := by decide +kernel
theorem dX1_role_20 : decode cX1_role 20 = .ok (.iconst (-1), 1) := by decide +kernel
theorem dX1_role_21 : decode cX1_role 21 = .ok (.goto 9, 3) := by decide +kernel
theorem dX1_role_24 : decode cX1_role 24 = .ok (.aload_n 0, 1) := by decide +kernel
theorem dX1_role_25 : decode cX1_role 25 = .ok (.getfield 19, 3) := by decide +kernel
theorem dX1_role_28 : decode cX1_role 28 = .ok (.iload_n 1, 1) := by decide +kernel
theorem dX1_role_29 : decode cX1_role 29 = .ok (.iaload, 1) := by decide +kernel
theorem dX1_role_30 : decode cX1_role 30 = .ok (.ireturn, 1) := by decide +kernel
set_option maxRecDepth 20000 in
theorem ggX1_rolesOf_X1_isUser : GoodIn wsX1_rolesOf wsX1_isUser := goodIn_r _ [7, 8, 9, 10, 6, 11] (by decide +kernel) (by decide +kernel)
set_option maxRecDepth 20000 in
theorem gX1_rolesOf_X1_isUser : GoodIn wsX1_rolesOf (wsV RX1 64 RX1 yX1_isUser wsX1_isUser) := goodIn_app (goodIn_of _ (by decide +kernel)) ggX1_rolesOf_X1_isUser
set_option maxRecDepth 20000 in
theorem ggX1_rolesOf_X1_holds : GoodIn wsX1_rolesOf wsX1_holds := goodIn_r _ [15, 16, 22, 23, 24, 25, 26, 27, 28, 29, 30, 31, 32, 33, 34, 35, 36, 37] (by decide +kernel) (by decide +kernel)
set_option maxRecDepth 20000 in
theorem gX1_rolesOf_X1_holds : GoodIn wsX1_rolesOf (wsV RX1 71 RX1 yX1_holds wsX1_holds) := goodIn_app (goodIn_of _ (by decide +kernel)) ggX1_rolesOf_X1_holds
set_option maxRecDepth 20000 in
theorem ggX1_rolesOf_X1_isWithin : GoodIn wsX1_rolesOf wsX1_isWithin := goodIn_r _ [20, 21, 22, 23, 24, 25, 26, 27, 28, 29, 30, 31, 32, 33, 34, 35, 36, 37] (by decide +kernel) (by decide +kernel)
set_option maxRecDepth 20000 in
theorem gX1_rolesOf_X1_isWithin : GoodIn wsX1_rolesOf (wsV RX1 58 RX1 yX1_isWithin wsX1_isWithin) := goodIn_app (goodIn_of _ (by decide +kernel)) ggX1_rolesOf_X1_isWithin
theorem dX1_rolesOf_0 : decode cX1_rolesOf 0 = .ok (.aload_n 0, 1) := by decide +kernel
theorem dX1_rolesOf_1 : decode cX1_rolesOf 1 = .ok (.aload_n 0, 1) := by decide +kernel
theorem dX1_rolesOf_2 : decode cX1_rolesOf 2 = .ok (.iload_n 1, 1) := by decide +kernel
theorem dX1_rolesOf_3 : decode cX1_rolesOf 3 = .ok (.invokevirtual 64, 3) := by decide +kernel
theorem dX1_rolesOf_6 : decode cX1_rolesOf 6 = .ok (.ifCond .eq 7, 3) := by decide +kernel
theorem dX1_rolesOf_9 : decode cX1_rolesOf 9 = .ok (.iconst 0, 1) := by decide +kernel
theorem dX1_rolesOf_10 : decode cX1_rolesOf 10 = .ok (.goto 4, 3) := by decide +kernel
theorem dX1_rolesOf_13 : decode cX1_rolesOf 13 = .ok (.iconst 1, 1) := by decide +kernel
theorem dX1_rolesOf_14 : decode cX1_rolesOf 14 = .ok (.invokevirtual 71, 3) := by decide +kernel
theorem dX1_rolesOf_17 : decode cX1_rolesOf 17 = .ok (.ifCond .eq 5, 3) := by decide +kernel
theorem dX1_rolesOf_20 : decode cX1_rolesOf 20 = .ok (.iconst (-1), 1) := by decide +kernel
theorem dX1_rolesOf_21 : decode cX1_rolesOf 21 = .ok (.ireturn, 1) := by decide +kernel
theorem dX1_rolesOf_22 : decode cX1_rolesOf 22 = .ok (.iconst 0, 1) := by decide +kernel
theorem dX1_rolesOf_23 : decode cX1_rolesOf 23 = .ok (.istore_n 2, 1) := by decide +kernel
theorem dX1_rolesOf_24 : decode cX1_rolesOf 24 = .ok (.iconst 0, 1) := by decide +kernel
theorem dX1_rolesOf_25 : decode cX1_rolesOf 25 = .ok (.istore_n 3, 1) := by decide +kernel
theorem dX1_rolesOf_26 : decode cX1_rolesOf 26 = .ok (.iload_n 3, 1) := by decide +kernel
theorem dX1_rolesOf_27 : decode cX1_rolesOf 27 = .ok (.aload_n 0, 1) := by decide +kernel
theorem dX1_rolesOf_28 : decode cX1_rolesOf 28 = .ok (.getfield 112, 3) := by decide +kernel
theorem dX1_rolesOf_31 : decode cX1_rolesOf 31 = .ok (.if_icmp .ge 31, 3) := by decide +kernel
theorem dX1_rolesOf_34 : decode cX1_rolesOf 34 = .ok (.iload_n 2, 1) := by decide +kernel
theorem dX1_rolesOf_35 : decode cX1_rolesOf 35 = .ok (.aload_n 0, 1) := by decide +kernel
theorem dX1_rolesOf_36 : decode cX1_rolesOf 36 = .ok (.aload_n 0, 1) := by decide +kernel
theorem dX1_rolesOf_37 : decode cX1_rolesOf 37 = .ok (.getfield 19, 3) := by decide +kernel
theorem dX1_rolesOf_40 : decode cX1_rolesOf 40 = .ok (.iload_n 3, 1) := by decide +kernel
theorem dX1_rolesOf_41 : decode cX1_rolesOf 41 = .ok (.iaload, 1) := by decide +kernel
theorem dX1_rolesOf_42 : decode cX1_rolesOf 42 = .ok (.iload_n 1, 1) := by decide +kernel
theorem dX1_rolesOf_43 : decode cX1_rolesOf 43 = .ok (.invokevirtual 58, 3) := by decide +kernel
theorem dX1_rolesOf_46 : decode cX1_rolesOf 46 = .ok (.ifCond .eq 7, 3) := by decide +kernel
theorem dX1_rolesOf_49 : decode cX1_rolesOf 49 = .ok (.iconst 1, 1) := by decide +kernel
theorem dX1_rolesOf_50 : decode cX1_rolesOf 50 = .ok (.goto 4, 3) := by decide +kernel
theorem dX1_rolesOf_53 : decode cX1_rolesOf 53 = .ok (.iconst 0, 1) := by decide +kernel
theorem dX1_rolesOf_54 : decode cX1_rolesOf 54 = .ok (.iadd, 1) := by decide +kernel
theorem dX1_rolesOf_55 : decode cX1_rolesOf 55 = .ok (.istore_n 2, 1) := by decide +kernel
theorem dX1_rolesOf_56 : decode cX1_rolesOf 56 = .ok (.iinc 3 1, 3) := by decide +kernel
theorem dX1_rolesOf_59 : decode cX1_rolesOf 59 = .ok (.goto (-33), 3) := by decide +kernel
theorem dX1_rolesOf_62 : decode cX1_rolesOf 62 = .ok (.iload_n 2, 1) := by decide +kernel
theorem dX1_rolesOf_63 : decode cX1_rolesOf 63 = .ok (.ireturn, 1) := by decide +kernel
set_option maxRecDepth 20000 in
theorem ggX1_gotten_X1_isWithin : GoodIn wsX1_gotten wsX1_isWithin := goodIn_r _ [7, 8, 9, 10, 11, 12, 13, 14, 15, 16, 17, 18, 19, 20, 21, 22, 23, 24] (by decide +kernel) (by decide +kernel)
set_option maxRecDepth 20000 in
theorem gX1_gotten_X1_isWithin : GoodIn wsX1_gotten (wsV RX1 58 RX1 yX1_isWithin wsX1_isWithin) := goodIn_app (goodIn_of _ (by decide +kernel)) ggX1_gotten_X1_isWithin
theorem dX1_gotten_0 : decode cX1_gotten 0 = .ok (.iconst 0, 1) := by decide +kernel
theorem dX1_gotten_1 : decode cX1_gotten 1 = .ok (.istore_n 2, 1) := by decide +kernel
theorem dX1_gotten_2 : decode cX1_gotten 2 = .ok (.iconst 0, 1) := by decide +kernel
theorem dX1_gotten_3 : decode cX1_gotten 3 = .ok (.istore_n 3, 1) := by decide +kernel
theorem dX1_gotten_4 : decode cX1_gotten 4 = .ok (.iload_n 3, 1) := by decide +kernel
theorem dX1_gotten_5 : decode cX1_gotten 5 = .ok (.aload_n 0, 1) := by decide +kernel
theorem dX1_gotten_6 : decode cX1_gotten 6 = .ok (.getfield 112, 3) := by decide +kernel
theorem dX1_gotten_9 : decode cX1_gotten 9 = .ok (.if_icmp .ge 36, 3) := by decide +kernel
theorem dX1_gotten_12 : decode cX1_gotten 12 = .ok (.iload_n 2, 1) := by decide +kernel
theorem dX1_gotten_13 : decode cX1_gotten 13 = .ok (.aload_n 0, 1) := by decide +kernel
theorem dX1_gotten_14 : decode cX1_gotten 14 = .ok (.aload_n 0, 1) := by decide +kernel
theorem dX1_gotten_15 : decode cX1_gotten 15 = .ok (.getfield 19, 3) := by decide +kernel
theorem dX1_gotten_18 : decode cX1_gotten 18 = .ok (.iload_n 3, 1) := by decide +kernel
theorem dX1_gotten_19 : decode cX1_gotten 19 = .ok (.iaload, 1) := by decide +kernel
theorem dX1_gotten_20 : decode cX1_gotten 20 = .ok (.iload_n 1, 1) := by decide +kernel
theorem dX1_gotten_21 : decode cX1_gotten 21 = .ok (.invokevirtual 58, 3) := by decide +kernel
theorem dX1_gotten_24 : decode cX1_gotten 24 = .ok (.ifCond .eq 12, 3) := by decide +kernel
theorem dX1_gotten_27 : decode cX1_gotten 27 = .ok (.aload_n 0, 1) := by decide +kernel
theorem dX1_gotten_28 : decode cX1_gotten 28 = .ok (.getfield 19, 3) := by decide +kernel
theorem dX1_gotten_31 : decode cX1_gotten 31 = .ok (.iload_n 3, 1) := by decide +kernel
theorem dX1_gotten_32 : decode cX1_gotten 32 = .ok (.iaload, 1) := by decide +kernel
theorem dX1_gotten_33 : decode cX1_gotten 33 = .ok (.goto 4, 3) := by decide +kernel
theorem dX1_gotten_36 : decode cX1_gotten 36 = .ok (.iconst 0, 1) := by decide +kernel
theorem dX1_gotten_37 : decode cX1_gotten 37 = .ok (.ior, 1) := by decide +kernel
theorem dX1_gotten_38 : decode cX1_gotten 38 = .ok (.istore_n 2, 1) := by decide +kernel
theorem dX1_gotten_39 : decode cX1_gotten 39 = .ok (.iinc 3 1, 3) := by decide +kernel
theorem dX1_gotten_42 : decode cX1_gotten 42 = .ok (.goto (-38), 3) := by decide +kernel
theorem dX1_gotten_45 : decode cX1_gotten 45 = .ok (.iload_n 2, 1) := by decide +kernel
theorem dX1_gotten_46 : decode cX1_gotten 46 = .ok (.ireturn, 1) := by decide +kernel
set_option maxRecDepth 20000 in
theorem ggX1_byRoles_X1_isUser : GoodIn wsX1_byRoles wsX1_isUser := goodIn_r _ [5, 6, 7, 8, 4, 9] (by decide +kernel) (by decide +kernel)
set_option maxRecDepth 20000 in
theorem gX1_byRoles_X1_isUser : GoodIn wsX1_byRoles (wsV RX1 64 RX1 yX1_isUser wsX1_isUser) := goodIn_app (goodIn_of _ (by decide +kernel)) ggX1_byRoles_X1_isUser
set_option maxRecDepth 20000 in
theorem ggX1_byRoles_X1_holds : GoodIn wsX1_byRoles wsX1_holds := goodIn_r _ [13, 14, 26, 27, 28, 29, 30, 31, 32, 33, 34, 35, 36, 37, 38, 39, 40, 41] (by decide +kernel) (by decide +kernel)
set_option maxRecDepth 20000 in
theorem gX1_byRoles_X1_holds : GoodIn wsX1_byRoles (wsV RX1 71 RX1 yX1_holds wsX1_holds) := goodIn_app (goodIn_of _ (by decide +kernel)) ggX1_byRoles_X1_holds
set_option maxRecDepth 20000 in
theorem ggX1_byRoles_X1_gotten : GoodIn wsX1_byRoles wsX1_gotten := goodIn_r _ [18, 19, 20, 21, 22, 23, 4, 24, 25, 26, 27, 28, 29, 30, 31, 32, 33, 34, 35, 36, 37, 38, 39, 40, 41] (by decide +kernel) (by decide +kernel)
set_option maxRecDepth 20000 in
theorem gX1_byRoles_X1_gotten : GoodIn wsX1_byRoles (wsV RX1 134 RX1 yX1_gotten wsX1_gotten) := goodIn_app (goodIn_of _ (by decide +kernel)) ggX1_byRoles_X1_gotten
theorem dX1_byRoles_0 : decode cX1_byRoles 0 = .ok (.aload_n 0, 1) := by decide +kernel
theorem dX1_byRoles_1 : decode cX1_byRoles 1 = .ok (.aload_n 0, 1) := by decide +kernel
theorem dX1_byRoles_2 : decode cX1_byRoles 2 = .ok (.iload_n 1, 1) := by decide +kernel
theorem dX1_byRoles_3 : decode cX1_byRoles 3 = .ok (.invokevirtual 64, 3) := by decide +kernel
theorem dX1_byRoles_6 : decode cX1_byRoles 6 = .ok (.ifCond .eq 7, 3) := by decide +kernel
theorem dX1_byRoles_9 : decode cX1_byRoles 9 = .ok (.iconst 0, 1) := by decide +kernel
theorem dX1_byRoles_10 : decode cX1_byRoles 10 = .ok (.goto 4, 3) := by decide +kernel
theorem dX1_byRoles_13 : decode cX1_byRoles 13 = .ok (.iconst 1, 1) := by decide +kernel
theorem dX1_byRoles_14 : decode cX1_byRoles 14 = .ok (.invokevirtual 71, 3) := by decide +kernel
theorem dX1_byRoles_17 : decode cX1_byRoles 17 = .ok (.ifCond .eq 7, 3) := by decide +kernel
theorem dX1_byRoles_20 : decode cX1_byRoles 20 = .ok (.iconst (-1), 1) := by decide +kernel
theorem dX1_byRoles_21 : decode cX1_byRoles 21 = .ok (.goto 8, 3) := by decide +kernel
theorem dX1_byRoles_24 : decode cX1_byRoles 24 = .ok (.aload_n 0, 1) := by decide +kernel
theorem dX1_byRoles_25 : decode cX1_byRoles 25 = .ok (.iload_n 1, 1) := by decide +kernel
theorem dX1_byRoles_26 : decode cX1_byRoles 26 = .ok (.invokevirtual 134, 3) := by decide +kernel
theorem dX1_byRoles_29 : decode cX1_byRoles 29 = .ok (.ireturn, 1) := by decide +kernel
set_option maxRecDepth 20000 in
theorem ggX1_exceptions_X1_isUser : GoodIn wsX1_exceptions wsX1_isUser := goodIn_r _ [6, 7, 8, 9, 5, 10] (by decide +kernel) (by decide +kernel)
set_option maxRecDepth 20000 in
theorem gX1_exceptions_X1_isUser : GoodIn wsX1_exceptions (wsV RX1 64 RX1 yX1_isUser wsX1_isUser) := goodIn_app (goodIn_of _ (by decide +kernel)) ggX1_exceptions_X1_isUser
set_option maxRecDepth 20000 in
theorem ggX1_exceptions_X1_holds : GoodIn wsX1_exceptions wsX1_holds := goodIn_r _ [14, 15, 26, 27, 28, 29, 30, 31, 32, 33, 34, 35, 36, 37, 38, 39, 40, 41] (by decide +kernel) (by decide +kernel)
set_option maxRecDepth 20000 in
theorem gX1_exceptions_X1_holds : GoodIn wsX1_exceptions (wsV RX1 71 RX1 yX1_holds wsX1_holds) := goodIn_app (goodIn_of _ (by decide +kernel)) ggX1_exceptions_X1_holds
set_option maxRecDepth 20000 in
theorem ggX1_exceptions_X1_gotten : GoodIn wsX1_exceptions wsX1_gotten := goodIn_r _ [19, 20, 21, 22, 23, 24, 5, 25, 1, 26, 27, 28, 29, 30, 31, 32, 33, 34, 35, 36, 37, 38, 39, 40, 41] (by decide +kernel) (by decide +kernel)
set_option maxRecDepth 20000 in
theorem gX1_exceptions_X1_gotten : GoodIn wsX1_exceptions (wsV RX1 134 RX1 yX1_gotten wsX1_gotten) := goodIn_app (goodIn_of _ (by decide +kernel)) ggX1_exceptions_X1_gotten
theorem dX1_exceptions_0 : decode cX1_exceptions 0 = .ok (.aload_n 0, 1) := by decide +kernel
theorem dX1_exceptions_1 : decode cX1_exceptions 1 = .ok (.aload_n 0, 1) := by decide +kernel
theorem dX1_exceptions_2 : decode cX1_exceptions 2 = .ok (.iload_n 1, 1) := by decide +kernel
theorem dX1_exceptions_3 : decode cX1_exceptions 3 = .ok (.invokevirtual 64, 3) := by decide +kernel
theorem dX1_exceptions_6 : decode cX1_exceptions 6 = .ok (.ifCond .eq 7, 3) := by decide +kernel
theorem dX1_exceptions_9 : decode cX1_exceptions 9 = .ok (.iconst 0, 1) := by decide +kernel
theorem dX1_exceptions_10 : decode cX1_exceptions 10 = .ok (.goto 4, 3) := by decide +kernel
theorem dX1_exceptions_13 : decode cX1_exceptions 13 = .ok (.iconst 1, 1) := by decide +kernel
theorem dX1_exceptions_14 : decode cX1_exceptions 14 = .ok (.invokevirtual 71, 3) := by decide +kernel
theorem dX1_exceptions_17 : decode cX1_exceptions 17 = .ok (.ifCond .eq 7, 3) := by decide +kernel
theorem dX1_exceptions_20 : decode cX1_exceptions 20 = .ok (.iconst (-1), 1) := by decide +kernel
theorem dX1_exceptions_21 : decode cX1_exceptions 21 = .ok (.goto 17, 3) := by decide +kernel
theorem dX1_exceptions_24 : decode cX1_exceptions 24 = .ok (.aload_n 0, 1) := by decide +kernel
theorem dX1_exceptions_25 : decode cX1_exceptions 25 = .ok (.getfield 7, 3) := by decide +kernel
theorem dX1_exceptions_28 : decode cX1_exceptions 28 = .ok (.iload_n 1, 1) := by decide +kernel
theorem dX1_exceptions_29 : decode cX1_exceptions 29 = .ok (.iaload, 1) := by decide +kernel
theorem dX1_exceptions_30 : decode cX1_exceptions 30 = .ok (.aload_n 0, 1) := by decide +kernel
theorem dX1_exceptions_31 : decode cX1_exceptions 31 = .ok (.iload_n 1, 1) := by decide +kernel
theorem dX1_exceptions_32 : decode cX1_exceptions 32 = .ok (.invokevirtual 134, 3) := by decide +kernel
theorem dX1_exceptions_35 : decode cX1_exceptions 35 = .ok (.iconst (-1), 1) := by decide +kernel
theorem dX1_exceptions_36 : decode cX1_exceptions 36 = .ok (.ixor, 1) := by decide +kernel
theorem dX1_exceptions_37 : decode cX1_exceptions 37 = .ok (.iand, 1) := by decide +kernel
theorem dX1_exceptions_38 : decode cX1_exceptions 38 = .ok (.ireturn, 1) := by decide +kernel
set_option maxRecDepth 20000 in
theorem ggX1_cost_X1_gotten : GoodIn wsX1_cost wsX1_gotten := goodIn_r _ [10, 3, 11, 12, 13, 14, 9, 15, 5, 20, 21, 22, 23, 24, 25, 26, 27, 28, 29, 30, 31, 32, 33, 34, 35] (by decide +kernel) (by decide +kernel)
set_option maxRecDepth 20000 in
theorem gX1_cost_X1_gotten : GoodIn wsX1_cost (wsV RX1 134 RX1 yX1_gotten wsX1_gotten) := goodIn_app (goodIn_of _ (by decide +kernel)) ggX1_cost_X1_gotten
set_option maxRecDepth 20000 in
theorem ggX1_cost_X1_size : GoodIn wsX1_cost wsX1_size := goodIn_r _ [19] (by decide +kernel) (by decide +kernel)
set_option maxRecDepth 20000 in
theorem gX1_cost_X1_size : GoodIn wsX1_cost (wsV RX1 78 RX1 yX1_size wsX1_size) := goodIn_app (goodIn_of _ (by decide +kernel)) ggX1_cost_X1_size
theorem dX1_cost_0 : decode cX1_cost 0 = .ok (.aload_n 0, 1) := by decide +kernel
theorem dX1_cost_1 : decode cX1_cost 1 = .ok (.iconst 0, 1) := by decide +kernel
theorem dX1_cost_2 : decode cX1_cost 2 = .ok (.putfield 47, 3) := by decide +kernel
theorem dX1_cost_5 : decode cX1_cost 5 = .ok (.aload_n 0, 1) := by decide +kernel
theorem dX1_cost_6 : decode cX1_cost 6 = .ok (.getfield 34, 3) := by decide +kernel
theorem dX1_cost_9 : decode cX1_cost 9 = .ok (.aload_n 0, 1) := by decide +kernel
theorem dX1_cost_10 : decode cX1_cost 10 = .ok (.getfield 112, 3) := by decide +kernel
theorem dX1_cost_13 : decode cX1_cost 13 = .ok (.imul, 1) := by decide +kernel
theorem dX1_cost_14 : decode cX1_cost 14 = .ok (.istore_n 1, 1) := by decide +kernel
theorem dX1_cost_15 : decode cX1_cost 15 = .ok (.iconst 0, 1) := by decide +kernel
theorem dX1_cost_16 : decode cX1_cost 16 = .ok (.istore_n 2, 1) := by decide +kernel
theorem dX1_cost_17 : decode cX1_cost 17 = .ok (.iload_n 2, 1) := by decide +kernel
theorem dX1_cost_18 : decode cX1_cost 18 = .ok (.bipush 8, 2) := by decide +kernel
theorem dX1_cost_20 : decode cX1_cost 20 = .ok (.if_icmp .ge 35, 3) := by decide +kernel
theorem dX1_cost_23 : decode cX1_cost 23 = .ok (.iload_n 1, 1) := by decide +kernel
theorem dX1_cost_24 : decode cX1_cost 24 = .ok (.aload_n 0, 1) := by decide +kernel
theorem dX1_cost_25 : decode cX1_cost 25 = .ok (.getfield 38, 3) := by decide +kernel
theorem dX1_cost_28 : decode cX1_cost 28 = .ok (.aload_n 0, 1) := by decide +kernel
theorem dX1_cost_29 : decode cX1_cost 29 = .ok (.aload_n 0, 1) := by decide +kernel
theorem dX1_cost_30 : decode cX1_cost 30 = .ok (.getfield 7, 3) := by decide +kernel
theorem dX1_cost_33 : decode cX1_cost 33 = .ok (.iload_n 2, 1) := by decide +kernel
theorem dX1_cost_34 : decode cX1_cost 34 = .ok (.iaload, 1) := by decide +kernel
theorem dX1_cost_35 : decode cX1_cost 35 = .ok (.aload_n 0, 1) := by decide +kernel
theorem dX1_cost_36 : decode cX1_cost 36 = .ok (.iload_n 2, 1) := by decide +kernel
theorem dX1_cost_37 : decode cX1_cost 37 = .ok (.invokevirtual 134, 3) := by decide +kernel
theorem dX1_cost_40 : decode cX1_cost 40 = .ok (.iconst (-1), 1) := by decide +kernel
theorem dX1_cost_41 : decode cX1_cost 41 = .ok (.ixor, 1) := by decide +kernel
theorem dX1_cost_42 : decode cX1_cost 42 = .ok (.iand, 1) := by decide +kernel
theorem dX1_cost_43 : decode cX1_cost 43 = .ok (.invokevirtual 78, 3) := by decide +kernel
theorem dX1_cost_46 : decode cX1_cost 46 = .ok (.imul, 1) := by decide +kernel
theorem dX1_cost_47 : decode cX1_cost 47 = .ok (.iadd, 1) := by decide +kernel
theorem dX1_cost_48 : decode cX1_cost 48 = .ok (.istore_n 1, 1) := by decide +kernel
theorem dX1_cost_49 : decode cX1_cost 49 = .ok (.iinc 2 1, 3) := by decide +kernel
theorem dX1_cost_52 : decode cX1_cost 52 = .ok (.goto (-35), 3) := by decide +kernel
theorem dX1_cost_55 : decode cX1_cost 55 = .ok (.iload_n 1, 1) := by decide +kernel
theorem dX1_cost_56 : decode cX1_cost 56 = .ok (.ireturn, 1) := by decide +kernel
set_option maxRecDepth 20000 in
theorem ggX1_isRisky_X1_isRole : GoodIn wsX1_isRisky wsX1_isRole := goodIn_r _ [7, 1, 8, 9, 10, 6, 11, 31, 32, 33, 34, 35, 36, 37, 38, 39, 40, 41, 42, 43, 44, 45, 46] (by decide +kernel) (by decide +kernel)
set_option maxRecDepth 20000 in
theorem gX1_isRisky_X1_isRole : GoodIn wsX1_isRisky (wsV RX1 131 RX1 yX1_isRole wsX1_isRole) := goodIn_app (goodIn_of _ (by decide +kernel)) ggX1_isRisky_X1_isRole
set_option maxRecDepth 20000 in
theorem ggX1_isRisky_X1_holds : GoodIn wsX1_isRisky wsX1_holds := goodIn_r _ [15, 16, 31, 32, 33, 34, 35, 36, 37, 38, 39, 40, 41, 42, 43, 44, 45, 46] (by decide +kernel) (by decide +kernel)
set_option maxRecDepth 20000 in
theorem gX1_isRisky_X1_holds : GoodIn wsX1_isRisky (wsV RX1 71 RX1 yX1_holds wsX1_holds) := goodIn_app (goodIn_of _ (by decide +kernel)) ggX1_isRisky_X1_holds
set_option maxRecDepth 20000 in
theorem ggX1_isRisky_X1_isWithin : GoodIn wsX1_isRisky wsX1_isWithin := goodIn_r _ [20, 21, 31, 32, 33, 34, 35, 36, 37, 38, 39, 40, 41, 42, 43, 44, 45, 46] (by decide +kernel) (by decide +kernel)
set_option maxRecDepth 20000 in
theorem gX1_isRisky_X1_isWithin : GoodIn wsX1_isRisky (wsV RX1 58 RX1 yX1_isWithin wsX1_isWithin) := goodIn_app (goodIn_of _ (by decide +kernel)) ggX1_isRisky_X1_isWithin
set_option maxRecDepth 20000 in
theorem ggX1_isRisky_X1_isProper : GoodIn wsX1_isRisky wsX1_isProper := goodIn_r _ [25, 26, 27, 28, 29, 6, 30, 31, 32, 33, 34, 35, 36, 37, 38, 39, 40, 41, 42, 43, 44, 45, 46] (by decide +kernel) (by decide +kernel)
set_option maxRecDepth 20000 in
theorem gX1_isRisky_X1_isProper : GoodIn wsX1_isRisky (wsV RX1 89 RX1 yX1_isProper wsX1_isProper) := goodIn_app (goodIn_of _ (by decide +kernel)) ggX1_isRisky_X1_isProper
theorem dX1_isRisky_0 : decode cX1_isRisky 0 = .ok (.aload_n 0, 1) := by decide +kernel
theorem dX1_isRisky_1 : decode cX1_isRisky 1 = .ok (.aload_n 0, 1) := by decide +kernel
theorem dX1_isRisky_2 : decode cX1_isRisky 2 = .ok (.iload_n 1, 1) := by decide +kernel
theorem dX1_isRisky_3 : decode cX1_isRisky 3 = .ok (.invokevirtual 131, 3) := by decide +kernel
theorem dX1_isRisky_6 : decode cX1_isRisky 6 = .ok (.ifCond .eq 7, 3) := by decide +kernel
theorem dX1_isRisky_9 : decode cX1_isRisky 9 = .ok (.iconst 0, 1) := by decide +kernel
theorem dX1_isRisky_10 : decode cX1_isRisky 10 = .ok (.goto 4, 3) := by decide +kernel
theorem dX1_isRisky_13 : decode cX1_isRisky 13 = .ok (.iconst 1, 1) := by decide +kernel
theorem dX1_isRisky_14 : decode cX1_isRisky 14 = .ok (.invokevirtual 71, 3) := by decide +kernel
theorem dX1_isRisky_17 : decode cX1_isRisky 17 = .ok (.ifCond .eq 5, 3) := by decide +kernel
theorem dX1_isRisky_20 : decode cX1_isRisky 20 = .ok (.iconst 0, 1) := by decide +kernel
theorem dX1_isRisky_21 : decode cX1_isRisky 21 = .ok (.ireturn, 1) := by decide +kernel
theorem dX1_isRisky_22 : decode cX1_isRisky 22 = .ok (.iconst 0, 1) := by decide +kernel
theorem dX1_isRisky_23 : decode cX1_isRisky 23 = .ok (.istore_n 2, 1) := by decide +kernel
theorem dX1_isRisky_24 : decode cX1_isRisky 24 = .ok (.iload_n 2, 1) := by decide +kernel
theorem dX1_isRisky_25 : decode cX1_isRisky 25 = .ok (.bipush 8, 2) := by decide +kernel
theorem dX1_isRisky_27 : decode cX1_isRisky 27 = .ok (.if_icmp .ge 73, 3) := by decide +kernel
theorem dX1_isRisky_30 : decode cX1_isRisky 30 = .ok (.iconst 0, 1) := by decide +kernel
theorem dX1_isRisky_31 : decode cX1_isRisky 31 = .ok (.istore_n 3, 1) := by decide +kernel
theorem dX1_isRisky_32 : decode cX1_isRisky 32 = .ok (.iload_n 3, 1) := by decide +kernel
theorem dX1_isRisky_33 : decode cX1_isRisky 33 = .ok (.aload_n 0, 1) := by decide +kernel
theorem dX1_isRisky_34 : decode cX1_isRisky 34 = .ok (.getfield 112, 3) := by decide +kernel
theorem dX1_isRisky_37 : decode cX1_isRisky 37 = .ok (.if_icmp .ge 57, 3) := by decide +kernel
theorem dX1_isRisky_40 : decode cX1_isRisky 40 = .ok (.iload_n 3, 1) := by decide +kernel
theorem dX1_isRisky_41 : decode cX1_isRisky 41 = .ok (.iload_n 1, 1) := by decide +kernel
theorem dX1_isRisky_42 : decode cX1_isRisky 42 = .ok (.if_icmp .eq 46, 3) := by decide +kernel
theorem dX1_isRisky_45 : decode cX1_isRisky 45 = .ok (.aload_n 0, 1) := by decide +kernel
theorem dX1_isRisky_46 : decode cX1_isRisky 46 = .ok (.aload_n 0, 1) := by decide +kernel
theorem dX1_isRisky_47 : decode cX1_isRisky 47 = .ok (.getfield 19, 3) := by decide +kernel
theorem dX1_isRisky_50 : decode cX1_isRisky 50 = .ok (.iload_n 1, 1) := by decide +kernel
theorem dX1_isRisky_51 : decode cX1_isRisky 51 = .ok (.iaload, 1) := by decide +kernel
theorem dX1_isRisky_52 : decode cX1_isRisky 52 = .ok (.aload_n 0, 1) := by decide +kernel
theorem dX1_isRisky_53 : decode cX1_isRisky 53 = .ok (.getfield 19, 3) := by decide +kernel
theorem dX1_isRisky_56 : decode cX1_isRisky 56 = .ok (.iload_n 3, 1) := by decide +kernel
theorem dX1_isRisky_57 : decode cX1_isRisky 57 = .ok (.iaload, 1) := by decide +kernel
theorem dX1_isRisky_58 : decode cX1_isRisky 58 = .ok (.ior, 1) := by decide +kernel
theorem dX1_isRisky_59 : decode cX1_isRisky 59 = .ok (.iload_n 2, 1) := by decide +kernel
theorem dX1_isRisky_60 : decode cX1_isRisky 60 = .ok (.invokevirtual 58, 3) := by decide +kernel
theorem dX1_isRisky_63 : decode cX1_isRisky 63 = .ok (.ifCond .eq 25, 3) := by decide +kernel
theorem dX1_isRisky_66 : decode cX1_isRisky 66 = .ok (.aload_n 0, 1) := by decide +kernel
theorem dX1_isRisky_67 : decode cX1_isRisky 67 = .ok (.aload_n 0, 1) := by decide +kernel
theorem dX1_isRisky_68 : decode cX1_isRisky 68 = .ok (.getfield 19, 3) := by decide +kernel
theorem dX1_isRisky_71 : decode cX1_isRisky 71 = .ok (.iload_n 1, 1) := by decide +kernel
theorem dX1_isRisky_72 : decode cX1_isRisky 72 = .ok (.iaload, 1) := by decide +kernel
theorem dX1_isRisky_73 : decode cX1_isRisky 73 = .ok (.aload_n 0, 1) := by decide +kernel
theorem dX1_isRisky_74 : decode cX1_isRisky 74 = .ok (.getfield 19, 3) := by decide +kernel
theorem dX1_isRisky_77 : decode cX1_isRisky 77 = .ok (.iload_n 3, 1) := by decide +kernel
theorem dX1_isRisky_78 : decode cX1_isRisky 78 = .ok (.iaload, 1) := by decide +kernel
theorem dX1_isRisky_79 : decode cX1_isRisky 79 = .ok (.ior, 1) := by decide +kernel
theorem dX1_isRisky_80 : decode cX1_isRisky 80 = .ok (.invokevirtual 89, 3) := by decide +kernel
theorem dX1_isRisky_83 : decode cX1_isRisky 83 = .ok (.ifCond .ne 5, 3) := by decide +kernel
theorem dX1_isRisky_86 : decode cX1_isRisky 86 = .ok (.iconst 1, 1) := by decide +kernel
theorem dX1_isRisky_87 : decode cX1_isRisky 87 = .ok (.ireturn, 1) := by decide +kernel
theorem dX1_isRisky_88 : decode cX1_isRisky 88 = .ok (.iinc 3 1, 3) := by decide +kernel
theorem dX1_isRisky_91 : decode cX1_isRisky 91 = .ok (.goto (-59), 3) := by decide +kernel
theorem dX1_isRisky_94 : decode cX1_isRisky 94 = .ok (.iinc 2 1, 3) := by decide +kernel
theorem dX1_isRisky_97 : decode cX1_isRisky 97 = .ok (.goto (-73), 3) := by decide +kernel
theorem dX1_isRisky_100 : decode cX1_isRisky 100 = .ok (.iconst 0, 1) := by decide +kernel
theorem dX1_isRisky_101 : decode cX1_isRisky 101 = .ok (.ireturn, 1) := by decide +kernel
end
section
theorem dJ6_lowestOneBit_0f7a4_0 : decode cJ6_lowestOneBit_0f7a4 0 = .ok (.iload_n 0, 1) := by decide +kernel
theorem dJ6_lowestOneBit_0f7a4_1 : decode cJ6_lowestOneBit_0f7a4 1 = .ok (.iload_n 0, 1) := by decide +kernel
theorem dJ6_lowestOneBit_0f7a4_2 : decode cJ6_lowestOneBit_0f7a4 2 = .ok (.ineg, 1) := by decide +kernel
theorem dJ6_lowestOneBit_0f7a4_3 : decode cJ6_lowestOneBit_0f7a4 3 = .ok (.iand, 1) := by decide +kernel
theorem dJ6_lowestOneBit_0f7a4_4 : decode cJ6_lowestOneBit_0f7a4 4 = .ok (.ireturn, 1) := by decide +kernel
theorem dJ6_numberOfTrailingZeros_0f7a4_0 : decode cJ6_numberOfTrailingZeros_0f7a4 0 = .ok (.iload_n 0, 1) := by decide +kernel
theorem dJ6_numberOfTrailingZeros_0f7a4_1 : decode cJ6_numberOfTrailingZeros_0f7a4 1 = .ok (.iconst (-1), 1) := by decide +kernel
theorem dJ6_numberOfTrailingZeros_0f7a4_2 : decode cJ6_numberOfTrailingZeros_0f7a4 2 = .ok (.ixor, 1) := by decide +kernel
theorem dJ6_numberOfTrailingZeros_0f7a4_3 : decode cJ6_numberOfTrailingZeros_0f7a4 3 = .ok (.iload_n 0, 1) := by decide +kernel
theorem dJ6_numberOfTrailingZeros_0f7a4_4 : decode cJ6_numberOfTrailingZeros_0f7a4 4 = .ok (.iconst 1, 1) := by decide +kernel
theorem dJ6_numberOfTrailingZeros_0f7a4_5 : decode cJ6_numberOfTrailingZeros_0f7a4 5 = .ok (.isub, 1) := by decide +kernel
theorem dJ6_numberOfTrailingZeros_0f7a4_6 : decode cJ6_numberOfTrailingZeros_0f7a4 6 = .ok (.iand, 1) := by decide +kernel
theorem dJ6_numberOfTrailingZeros_0f7a4_7 : decode cJ6_numberOfTrailingZeros_0f7a4 7 = .ok (.istore_n 0, 1) := by decide +kernel
theorem dJ6_numberOfTrailingZeros_0f7a4_8 : decode cJ6_numberOfTrailingZeros_0f7a4 8 = .ok (.iload_n 0, 1) := by decide +kernel
theorem dJ6_numberOfTrailingZeros_0f7a4_9 : decode cJ6_numberOfTrailingZeros_0f7a4 9 = .ok (.ifCond .gt 8, 3) := by decide +kernel
theorem dJ6_numberOfTrailingZeros_0f7a4_12 : decode cJ6_numberOfTrailingZeros_0f7a4 12 = .ok (.iload_n 0, 1) := by decide +kernel
theorem dJ6_numberOfTrailingZeros_0f7a4_13 : decode cJ6_numberOfTrailingZeros_0f7a4 13 = .ok (.bipush 32, 2) := by decide +kernel
theorem dJ6_numberOfTrailingZeros_0f7a4_15 : decode cJ6_numberOfTrailingZeros_0f7a4 15 = .ok (.iand, 1) := by decide +kernel
theorem dJ6_numberOfTrailingZeros_0f7a4_16 : decode cJ6_numberOfTrailingZeros_0f7a4 16 = .ok (.ireturn, 1) := by decide +kernel
theorem dJ6_numberOfTrailingZeros_0f7a4_17 : decode cJ6_numberOfTrailingZeros_0f7a4 17 = .ok (.iconst 1, 1) := by decide +kernel
theorem dJ6_numberOfTrailingZeros_0f7a4_18 : decode cJ6_numberOfTrailingZeros_0f7a4 18 = .ok (.istore_n 1, 1) := by decide +kernel
theorem dJ6_numberOfTrailingZeros_0f7a4_19 : decode cJ6_numberOfTrailingZeros_0f7a4 19 = .ok (.iload_n 0, 1) := by decide +kernel
theorem dJ6_numberOfTrailingZeros_0f7a4_20 : decode cJ6_numberOfTrailingZeros_0f7a4 20 = .ok (.ldc_w 264, 3) := by decide +kernel
theorem dJ6_numberOfTrailingZeros_0f7a4_23 : decode cJ6_numberOfTrailingZeros_0f7a4 23 = .ok (.if_icmp .le 11, 3) := by decide +kernel
theorem dJ6_numberOfTrailingZeros_0f7a4_26 : decode cJ6_numberOfTrailingZeros_0f7a4 26 = .ok (.iinc 1 16, 3) := by decide +kernel
theorem dJ6_numberOfTrailingZeros_0f7a4_29 : decode cJ6_numberOfTrailingZeros_0f7a4 29 = .ok (.iload_n 0, 1) := by decide +kernel
theorem dJ6_numberOfTrailingZeros_0f7a4_30 : decode cJ6_numberOfTrailingZeros_0f7a4 30 = .ok (.bipush 16, 2) := by decide +kernel
theorem dJ6_numberOfTrailingZeros_0f7a4_32 : decode cJ6_numberOfTrailingZeros_0f7a4 32 = .ok (.iushr, 1) := by decide +kernel
theorem dJ6_numberOfTrailingZeros_0f7a4_33 : decode cJ6_numberOfTrailingZeros_0f7a4 33 = .ok (.istore_n 0, 1) := by decide +kernel
theorem dJ6_numberOfTrailingZeros_0f7a4_34 : decode cJ6_numberOfTrailingZeros_0f7a4 34 = .ok (.iload_n 0, 1) := by decide +kernel
theorem dJ6_numberOfTrailingZeros_0f7a4_35 : decode cJ6_numberOfTrailingZeros_0f7a4 35 = .ok (.sipush 256, 3) := by decide +kernel
theorem dJ6_numberOfTrailingZeros_0f7a4_38 : decode cJ6_numberOfTrailingZeros_0f7a4 38 = .ok (.if_icmp .le 11, 3) := by decide +kernel
theorem dJ6_numberOfTrailingZeros_0f7a4_41 : decode cJ6_numberOfTrailingZeros_0f7a4 41 = .ok (.iinc 1 8, 3) := by decide +kernel
theorem dJ6_numberOfTrailingZeros_0f7a4_44 : decode cJ6_numberOfTrailingZeros_0f7a4 44 = .ok (.iload_n 0, 1) := by decide +kernel
theorem dJ6_numberOfTrailingZeros_0f7a4_45 : decode cJ6_numberOfTrailingZeros_0f7a4 45 = .ok (.bipush 8, 2) := by decide +kernel
theorem dJ6_numberOfTrailingZeros_0f7a4_47 : decode cJ6_numberOfTrailingZeros_0f7a4 47 = .ok (.iushr, 1) := by decide +kernel
theorem dJ6_numberOfTrailingZeros_0f7a4_48 : decode cJ6_numberOfTrailingZeros_0f7a4 48 = .ok (.istore_n 0, 1) := by decide +kernel
theorem dJ6_numberOfTrailingZeros_0f7a4_49 : decode cJ6_numberOfTrailingZeros_0f7a4 49 = .ok (.iload_n 0, 1) := by decide +kernel
theorem dJ6_numberOfTrailingZeros_0f7a4_50 : decode cJ6_numberOfTrailingZeros_0f7a4 50 = .ok (.bipush 16, 2) := by decide +kernel
theorem dJ6_numberOfTrailingZeros_0f7a4_52 : decode cJ6_numberOfTrailingZeros_0f7a4 52 = .ok (.if_icmp .le 10, 3) := by decide +kernel
theorem dJ6_numberOfTrailingZeros_0f7a4_55 : decode cJ6_numberOfTrailingZeros_0f7a4 55 = .ok (.iinc 1 4, 3) := by decide +kernel
theorem dJ6_numberOfTrailingZeros_0f7a4_58 : decode cJ6_numberOfTrailingZeros_0f7a4 58 = .ok (.iload_n 0, 1) := by decide +kernel
theorem dJ6_numberOfTrailingZeros_0f7a4_59 : decode cJ6_numberOfTrailingZeros_0f7a4 59 = .ok (.iconst 4, 1) := by decide +kernel
theorem dJ6_numberOfTrailingZeros_0f7a4_60 : decode cJ6_numberOfTrailingZeros_0f7a4 60 = .ok (.iushr, 1) := by decide +kernel
theorem dJ6_numberOfTrailingZeros_0f7a4_61 : decode cJ6_numberOfTrailingZeros_0f7a4 61 = .ok (.istore_n 0, 1) := by decide +kernel
theorem dJ6_numberOfTrailingZeros_0f7a4_62 : decode cJ6_numberOfTrailingZeros_0f7a4 62 = .ok (.iload_n 0, 1) := by decide +kernel
theorem dJ6_numberOfTrailingZeros_0f7a4_63 : decode cJ6_numberOfTrailingZeros_0f7a4 63 = .ok (.iconst 4, 1) := by decide +kernel
theorem dJ6_numberOfTrailingZeros_0f7a4_64 : decode cJ6_numberOfTrailingZeros_0f7a4 64 = .ok (.if_icmp .le 10, 3) := by decide +kernel
theorem dJ6_numberOfTrailingZeros_0f7a4_67 : decode cJ6_numberOfTrailingZeros_0f7a4 67 = .ok (.iinc 1 2, 3) := by decide +kernel
theorem dJ6_numberOfTrailingZeros_0f7a4_70 : decode cJ6_numberOfTrailingZeros_0f7a4 70 = .ok (.iload_n 0, 1) := by decide +kernel
theorem dJ6_numberOfTrailingZeros_0f7a4_71 : decode cJ6_numberOfTrailingZeros_0f7a4 71 = .ok (.iconst 2, 1) := by decide +kernel
theorem dJ6_numberOfTrailingZeros_0f7a4_72 : decode cJ6_numberOfTrailingZeros_0f7a4 72 = .ok (.iushr, 1) := by decide +kernel
theorem dJ6_numberOfTrailingZeros_0f7a4_73 : decode cJ6_numberOfTrailingZeros_0f7a4 73 = .ok (.istore_n 0, 1) := by decide +kernel
theorem dJ6_numberOfTrailingZeros_0f7a4_74 : decode cJ6_numberOfTrailingZeros_0f7a4 74 = .ok (.iload_n 1, 1) := by decide +kernel
theorem dJ6_numberOfTrailingZeros_0f7a4_75 : decode cJ6_numberOfTrailingZeros_0f7a4 75 = .ok (.iload_n 0, 1) := by decide +kernel
theorem dJ6_numberOfTrailingZeros_0f7a4_76 : decode cJ6_numberOfTrailingZeros_0f7a4 76 = .ok (.iconst 1, 1) := by decide +kernel
theorem dJ6_numberOfTrailingZeros_0f7a4_77 : decode cJ6_numberOfTrailingZeros_0f7a4 77 = .ok (.iushr, 1) := by decide +kernel
theorem dJ6_numberOfTrailingZeros_0f7a4_78 : decode cJ6_numberOfTrailingZeros_0f7a4 78 = .ok (.iadd, 1) := by decide +kernel
theorem dJ6_numberOfTrailingZeros_0f7a4_79 : decode cJ6_numberOfTrailingZeros_0f7a4 79 = .ok (.ireturn, 1) := by decide +kernel
theorem dJ6_bitCount_0f7a4_0 : decode cJ6_bitCount_0f7a4 0 = .ok (.iload_n 0, 1) := by decide +kernel
theorem dJ6_bitCount_0f7a4_1 : decode cJ6_bitCount_0f7a4 1 = .ok (.iload_n 0, 1) := by decide +kernel
theorem dJ6_bitCount_0f7a4_2 : decode cJ6_bitCount_0f7a4 2 = .ok (.iconst 1, 1) := by decide +kernel
theorem dJ6_bitCount_0f7a4_3 : decode cJ6_bitCount_0f7a4 3 = .ok (.iushr, 1) := by decide +kernel
theorem dJ6_bitCount_0f7a4_4 : decode cJ6_bitCount_0f7a4 4 = .ok (.ldc_w 265, 3) := by decide +kernel
theorem dJ6_bitCount_0f7a4_7 : decode cJ6_bitCount_0f7a4 7 = .ok (.iand, 1) := by decide +kernel
theorem dJ6_bitCount_0f7a4_8 : decode cJ6_bitCount_0f7a4 8 = .ok (.isub, 1) := by decide +kernel
theorem dJ6_bitCount_0f7a4_9 : decode cJ6_bitCount_0f7a4 9 = .ok (.istore_n 0, 1) := by decide +kernel
theorem dJ6_bitCount_0f7a4_10 : decode cJ6_bitCount_0f7a4 10 = .ok (.iload_n 0, 1) := by decide +kernel
theorem dJ6_bitCount_0f7a4_11 : decode cJ6_bitCount_0f7a4 11 = .ok (.ldc_w 266, 3) := by decide +kernel
theorem dJ6_bitCount_0f7a4_14 : decode cJ6_bitCount_0f7a4 14 = .ok (.iand, 1) := by decide +kernel
theorem dJ6_bitCount_0f7a4_15 : decode cJ6_bitCount_0f7a4 15 = .ok (.iload_n 0, 1) := by decide +kernel
theorem dJ6_bitCount_0f7a4_16 : decode cJ6_bitCount_0f7a4 16 = .ok (.iconst 2, 1) := by decide +kernel
theorem dJ6_bitCount_0f7a4_17 : decode cJ6_bitCount_0f7a4 17 = .ok (.iushr, 1) := by decide +kernel
theorem dJ6_bitCount_0f7a4_18 : decode cJ6_bitCount_0f7a4 18 = .ok (.ldc_w 266, 3) := by decide +kernel
theorem dJ6_bitCount_0f7a4_21 : decode cJ6_bitCount_0f7a4 21 = .ok (.iand, 1) := by decide +kernel
theorem dJ6_bitCount_0f7a4_22 : decode cJ6_bitCount_0f7a4 22 = .ok (.iadd, 1) := by decide +kernel
theorem dJ6_bitCount_0f7a4_23 : decode cJ6_bitCount_0f7a4 23 = .ok (.istore_n 0, 1) := by decide +kernel
theorem dJ6_bitCount_0f7a4_24 : decode cJ6_bitCount_0f7a4 24 = .ok (.iload_n 0, 1) := by decide +kernel
theorem dJ6_bitCount_0f7a4_25 : decode cJ6_bitCount_0f7a4 25 = .ok (.iload_n 0, 1) := by decide +kernel
theorem dJ6_bitCount_0f7a4_26 : decode cJ6_bitCount_0f7a4 26 = .ok (.iconst 4, 1) := by decide +kernel
theorem dJ6_bitCount_0f7a4_27 : decode cJ6_bitCount_0f7a4 27 = .ok (.iushr, 1) := by decide +kernel
theorem dJ6_bitCount_0f7a4_28 : decode cJ6_bitCount_0f7a4 28 = .ok (.iadd, 1) := by decide +kernel
theorem dJ6_bitCount_0f7a4_29 : decode cJ6_bitCount_0f7a4 29 = .ok (.ldc_w 267, 3) := by decide +kernel
theorem dJ6_bitCount_0f7a4_32 : decode cJ6_bitCount_0f7a4 32 = .ok (.iand, 1) := by decide +kernel
theorem dJ6_bitCount_0f7a4_33 : decode cJ6_bitCount_0f7a4 33 = .ok (.istore_n 0, 1) := by decide +kernel
theorem dJ6_bitCount_0f7a4_34 : decode cJ6_bitCount_0f7a4 34 = .ok (.iload_n 0, 1) := by decide +kernel
theorem dJ6_bitCount_0f7a4_35 : decode cJ6_bitCount_0f7a4 35 = .ok (.iload_n 0, 1) := by decide +kernel
theorem dJ6_bitCount_0f7a4_36 : decode cJ6_bitCount_0f7a4 36 = .ok (.bipush 8, 2) := by decide +kernel
theorem dJ6_bitCount_0f7a4_38 : decode cJ6_bitCount_0f7a4 38 = .ok (.iushr, 1) := by decide +kernel
theorem dJ6_bitCount_0f7a4_39 : decode cJ6_bitCount_0f7a4 39 = .ok (.iadd, 1) := by decide +kernel
theorem dJ6_bitCount_0f7a4_40 : decode cJ6_bitCount_0f7a4 40 = .ok (.istore_n 0, 1) := by decide +kernel
theorem dJ6_bitCount_0f7a4_41 : decode cJ6_bitCount_0f7a4 41 = .ok (.iload_n 0, 1) := by decide +kernel
theorem dJ6_bitCount_0f7a4_42 : decode cJ6_bitCount_0f7a4 42 = .ok (.iload_n 0, 1) := by decide +kernel
theorem dJ6_bitCount_0f7a4_43 : decode cJ6_bitCount_0f7a4 43 = .ok (.bipush 16, 2) := by decide +kernel
theorem dJ6_bitCount_0f7a4_45 : decode cJ6_bitCount_0f7a4 45 = .ok (.iushr, 1) := by decide +kernel
theorem dJ6_bitCount_0f7a4_46 : decode cJ6_bitCount_0f7a4 46 = .ok (.iadd, 1) := by decide +kernel
theorem dJ6_bitCount_0f7a4_47 : decode cJ6_bitCount_0f7a4 47 = .ok (.istore_n 0, 1) := by decide +kernel
theorem dJ6_bitCount_0f7a4_48 : decode cJ6_bitCount_0f7a4 48 = .ok (.iload_n 0, 1) := by decide +kernel
theorem dJ6_bitCount_0f7a4_49 : decode cJ6_bitCount_0f7a4 49 = .ok (.bipush 63, 2) := by decide +kernel
theorem dJ6_bitCount_0f7a4_51 : decode cJ6_bitCount_0f7a4 51 = .ok (.iand, 1) := by decide +kernel
theorem dJ6_bitCount_0f7a4_52 : decode cJ6_bitCount_0f7a4 52 = .ok (.ireturn, 1) := by decide +kernel
theorem dJ13_bitCount_95d88_0 : decode cJ13_bitCount_95d88 0 = .ok (.lload_n 0, 1) := by decide +kernel
theorem dJ13_bitCount_95d88_1 : decode cJ13_bitCount_95d88 1 = .ok (.lload_n 0, 1) := by decide +kernel
theorem dJ13_bitCount_95d88_2 : decode cJ13_bitCount_95d88 2 = .ok (.iconst 1, 1) := by decide +kernel
theorem dJ13_bitCount_95d88_3 : decode cJ13_bitCount_95d88 3 = .ok (.lushr, 1) := by decide +kernel
theorem dJ13_bitCount_95d88_4 : decode cJ13_bitCount_95d88 4 = .ok (.ldc2_w 314, 3) := by decide +kernel
theorem dJ13_bitCount_95d88_7 : decode cJ13_bitCount_95d88 7 = .ok (.land, 1) := by decide +kernel
theorem dJ13_bitCount_95d88_8 : decode cJ13_bitCount_95d88 8 = .ok (.lsub, 1) := by decide +kernel
theorem dJ13_bitCount_95d88_9 : decode cJ13_bitCount_95d88 9 = .ok (.lstore_n 0, 1) := by decide +kernel
theorem dJ13_bitCount_95d88_10 : decode cJ13_bitCount_95d88 10 = .ok (.lload_n 0, 1) := by decide +kernel
theorem dJ13_bitCount_95d88_11 : decode cJ13_bitCount_95d88 11 = .ok (.ldc2_w 316, 3) := by decide +kernel
theorem dJ13_bitCount_95d88_14 : decode cJ13_bitCount_95d88 14 = .ok (.land, 1) := by decide +kernel
theorem dJ13_bitCount_95d88_15 : decode cJ13_bitCount_95d88 15 = .ok (.lload_n 0, 1) := by decide +kernel
theorem dJ13_bitCount_95d88_16 : decode cJ13_bitCount_95d88 16 = .ok (.iconst 2, 1) := by decide +kernel
theorem dJ13_bitCount_95d88_17 : decode cJ13_bitCount_95d88 17 = .ok (.lushr, 1) := by decide +kernel
theorem dJ13_bitCount_95d88_18 : decode cJ13_bitCount_95d88 18 = .ok (.ldc2_w 316, 3) := by decide +kernel
theorem dJ13_bitCount_95d88_21 : decode cJ13_bitCount_95d88 21 = .ok (.land, 1) := by decide +kernel
theorem dJ13_bitCount_95d88_22 : decode cJ13_bitCount_95d88 22 = .ok (.ladd, 1) := by decide +kernel
theorem dJ13_bitCount_95d88_23 : decode cJ13_bitCount_95d88 23 = .ok (.lstore_n 0, 1) := by decide +kernel
theorem dJ13_bitCount_95d88_24 : decode cJ13_bitCount_95d88 24 = .ok (.lload_n 0, 1) := by decide +kernel
theorem dJ13_bitCount_95d88_25 : decode cJ13_bitCount_95d88 25 = .ok (.lload_n 0, 1) := by decide +kernel
theorem dJ13_bitCount_95d88_26 : decode cJ13_bitCount_95d88 26 = .ok (.iconst 4, 1) := by decide +kernel
theorem dJ13_bitCount_95d88_27 : decode cJ13_bitCount_95d88 27 = .ok (.lushr, 1) := by decide +kernel
theorem dJ13_bitCount_95d88_28 : decode cJ13_bitCount_95d88 28 = .ok (.ladd, 1) := by decide +kernel
theorem dJ13_bitCount_95d88_29 : decode cJ13_bitCount_95d88 29 = .ok (.ldc2_w 318, 3) := by decide +kernel
theorem dJ13_bitCount_95d88_32 : decode cJ13_bitCount_95d88 32 = .ok (.land, 1) := by decide +kernel
theorem dJ13_bitCount_95d88_33 : decode cJ13_bitCount_95d88 33 = .ok (.lstore_n 0, 1) := by decide +kernel
theorem dJ13_bitCount_95d88_34 : decode cJ13_bitCount_95d88 34 = .ok (.lload_n 0, 1) := by decide +kernel
theorem dJ13_bitCount_95d88_35 : decode cJ13_bitCount_95d88 35 = .ok (.lload_n 0, 1) := by decide +kernel
theorem dJ13_bitCount_95d88_36 : decode cJ13_bitCount_95d88 36 = .ok (.bipush 8, 2) := by decide +kernel
theorem dJ13_bitCount_95d88_38 : decode cJ13_bitCount_95d88 38 = .ok (.lushr, 1) := by decide +kernel
theorem dJ13_bitCount_95d88_39 : decode cJ13_bitCount_95d88 39 = .ok (.ladd, 1) := by decide +kernel
theorem dJ13_bitCount_95d88_40 : decode cJ13_bitCount_95d88 40 = .ok (.lstore_n 0, 1) := by decide +kernel
theorem dJ13_bitCount_95d88_41 : decode cJ13_bitCount_95d88 41 = .ok (.lload_n 0, 1) := by decide +kernel
theorem dJ13_bitCount_95d88_42 : decode cJ13_bitCount_95d88 42 = .ok (.lload_n 0, 1) := by decide +kernel
theorem dJ13_bitCount_95d88_43 : decode cJ13_bitCount_95d88 43 = .ok (.bipush 16, 2) := by decide +kernel
theorem dJ13_bitCount_95d88_45 : decode cJ13_bitCount_95d88 45 = .ok (.lushr, 1) := by decide +kernel
theorem dJ13_bitCount_95d88_46 : decode cJ13_bitCount_95d88 46 = .ok (.ladd, 1) := by decide +kernel
theorem dJ13_bitCount_95d88_47 : decode cJ13_bitCount_95d88 47 = .ok (.lstore_n 0, 1) := by decide +kernel
theorem dJ13_bitCount_95d88_48 : decode cJ13_bitCount_95d88 48 = .ok (.lload_n 0, 1) := by decide +kernel
theorem dJ13_bitCount_95d88_49 : decode cJ13_bitCount_95d88 49 = .ok (.lload_n 0, 1) := by decide +kernel
theorem dJ13_bitCount_95d88_50 : decode cJ13_bitCount_95d88 50 = .ok (.bipush 32, 2) := by decide +kernel
theorem dJ13_bitCount_95d88_52 : decode cJ13_bitCount_95d88 52 = .ok (.lushr, 1) := by decide +kernel
theorem dJ13_bitCount_95d88_53 : decode cJ13_bitCount_95d88 53 = .ok (.ladd, 1) := by decide +kernel
theorem dJ13_bitCount_95d88_54 : decode cJ13_bitCount_95d88 54 = .ok (.lstore_n 0, 1) := by decide +kernel
theorem dJ13_bitCount_95d88_55 : decode cJ13_bitCount_95d88 55 = .ok (.lload_n 0, 1) := by decide +kernel
theorem dJ13_bitCount_95d88_56 : decode cJ13_bitCount_95d88 56 = .ok (.l2i, 1) := by decide +kernel
theorem dJ13_bitCount_95d88_57 : decode cJ13_bitCount_95d88 57 = .ok (.bipush 127, 2) := by decide +kernel
theorem dJ13_bitCount_95d88_59 : decode cJ13_bitCount_95d88 59 = .ok (.iand, 1) := by decide +kernel
theorem dJ13_bitCount_95d88_60 : decode cJ13_bitCount_95d88 60 = .ok (.ireturn, 1) := by decide +kernel
theorem dJ9_min_7cf53_0 : decode cJ9_min_7cf53 0 = .ok (.iload_n 0, 1) := by decide +kernel
theorem dJ9_min_7cf53_1 : decode cJ9_min_7cf53 1 = .ok (.iload_n 1, 1) := by decide +kernel
theorem dJ9_min_7cf53_2 : decode cJ9_min_7cf53 2 = .ok (.if_icmp .gt 7, 3) := by decide +kernel
theorem dJ9_min_7cf53_5 : decode cJ9_min_7cf53 5 = .ok (.iload_n 0, 1) := by decide +kernel
theorem dJ9_min_7cf53_6 : decode cJ9_min_7cf53 6 = .ok (.goto 4, 3) := by decide +kernel
theorem dJ9_min_7cf53_9 : decode cJ9_min_7cf53 9 = .ok (.iload_n 1, 1) := by decide +kernel
theorem dJ9_min_7cf53_10 : decode cJ9_min_7cf53 10 = .ok (.ireturn, 1) := by decide +kernel
end
section
set_option maxRecDepth 20000 in
theorem ggL_grant_X0_grant : GoodIn wsL_grant wsX0_grant := goodIn_ca (goodIn_r _ [6, 7, 8, 9, 10, 11, 12, 13, 5, 14, 15, 16, 17, 18, 19, 20, 21, 22, 23, 24, 25, 26, 27, 28, 29, 30, 31, 32, 33, 34, 35, 36, 37, 38, 39] (by decide +kernel) (by decide +kernel)) (goodIn_sub (fun _ h => List.mem_cons_of_mem _ (List.mem_append_right _ h)) (by decide +kernel))
set_option maxRecDepth 20000 in
theorem gL_grant_X0_grant : GoodIn wsL_grant (wsV RL 7 RX0 yX0_grant wsX0_grant) := goodIn_app (goodIn_of _ (by decide +kernel)) ggL_grant_X0_grant
theorem dL_grant_0 : decode cL_grant 0 = .ok (.aload_n 3, 1) := by decide +kernel
theorem dL_grant_1 : decode cL_grant 1 = .ok (.iconst 0, 1) := by decide +kernel
theorem dL_grant_2 : decode cL_grant 2 = .ok (.aload_n 0, 1) := by decide +kernel
theorem dL_grant_3 : decode cL_grant 3 = .ok (.iload_n 1, 1) := by decide +kernel
theorem dL_grant_4 : decode cL_grant 4 = .ok (.iload_n 2, 1) := by decide +kernel
theorem dL_grant_5 : decode cL_grant 5 = .ok (.invokevirtual 7, 3) := by decide +kernel
theorem dL_grant_8 : decode cL_grant 8 = .ok (.ifCond .eq 7, 3) := by decide +kernel
theorem dL_grant_11 : decode cL_grant 11 = .ok (.lconst 1, 1) := by decide +kernel
theorem dL_grant_12 : decode cL_grant 12 = .ok (.goto 4, 3) := by decide +kernel
theorem dL_grant_15 : decode cL_grant 15 = .ok (.lconst 0, 1) := by decide +kernel
theorem dL_grant_16 : decode cL_grant 16 = .ok (.lastore, 1) := by decide +kernel
theorem dL_grant_17 : decode cL_grant 17 = .ok (.goto 7, 3) := by decide +kernel
theorem dL_grant_20 : decode cL_grant 20 = .ok (.astore 4, 2) := by decide +kernel
theorem dL_grant_22 : decode cL_grant 22 = .ok (.iconst 1, 1) := by decide +kernel
theorem dL_grant_23 : decode cL_grant 23 = .ok (.ireturn, 1) := by decide +kernel
theorem dL_grant_24 : decode cL_grant 24 = .ok (.iconst 0, 1) := by decide +kernel
theorem dL_grant_25 : decode cL_grant 25 = .ok (.ireturn, 1) := by decide +kernel
set_option maxRecDepth 20000 in
theorem ggL_revoke_X0_revoke : GoodIn wsL_revoke wsX0_revoke := goodIn_ca (goodIn_r _ [6, 7, 8, 9, 10, 11, 5, 12, 13, 14, 15, 16, 17, 18, 19, 20, 21, 22, 23, 24, 25, 26, 27, 28, 29, 30, 31, 32, 33, 34] (by decide +kernel) (by decide +kernel)) (goodIn_sub (fun _ h => List.mem_cons_of_mem _ (List.mem_append_right _ h)) (by decide +kernel))
set_option maxRecDepth 20000 in
theorem gL_revoke_X0_revoke : GoodIn wsL_revoke (wsV RL 15 RX0 yX0_revoke wsX0_revoke) := goodIn_app (goodIn_of _ (by decide +kernel)) ggL_revoke_X0_revoke
theorem dL_revoke_0 : decode cL_revoke 0 = .ok (.aload_n 3, 1) := by decide +kernel
theorem dL_revoke_1 : decode cL_revoke 1 = .ok (.iconst 0, 1) := by decide +kernel
theorem dL_revoke_2 : decode cL_revoke 2 = .ok (.aload_n 0, 1) := by decide +kernel
theorem dL_revoke_3 : decode cL_revoke 3 = .ok (.iload_n 1, 1) := by decide +kernel
theorem dL_revoke_4 : decode cL_revoke 4 = .ok (.iload_n 2, 1) := by decide +kernel
theorem dL_revoke_5 : decode cL_revoke 5 = .ok (.invokevirtual 15, 3) := by decide +kernel
theorem dL_revoke_8 : decode cL_revoke 8 = .ok (.ifCond .eq 7, 3) := by decide +kernel
theorem dL_revoke_11 : decode cL_revoke 11 = .ok (.lconst 1, 1) := by decide +kernel
theorem dL_revoke_12 : decode cL_revoke 12 = .ok (.goto 4, 3) := by decide +kernel
theorem dL_revoke_15 : decode cL_revoke 15 = .ok (.lconst 0, 1) := by decide +kernel
theorem dL_revoke_16 : decode cL_revoke 16 = .ok (.lastore, 1) := by decide +kernel
theorem dL_revoke_17 : decode cL_revoke 17 = .ok (.goto 7, 3) := by decide +kernel
theorem dL_revoke_20 : decode cL_revoke 20 = .ok (.astore 4, 2) := by decide +kernel
theorem dL_revoke_22 : decode cL_revoke 22 = .ok (.iconst 1, 1) := by decide +kernel
theorem dL_revoke_23 : decode cL_revoke 23 = .ok (.ireturn, 1) := by decide +kernel
theorem dL_revoke_24 : decode cL_revoke 24 = .ok (.iconst 0, 1) := by decide +kernel
theorem dL_revoke_25 : decode cL_revoke 25 = .ok (.ireturn, 1) := by decide +kernel
set_option maxRecDepth 20000 in
theorem ggL_setGrants_X0_setGrants : GoodIn wsL_setGrants wsX0_setGrants := goodIn_ca (goodIn_ca (goodIn_r _ [7, 8, 9, 10, 11, 12, 13, 14, 15, 16, 6, 17, 18, 19, 20, 21, 22, 23, 24, 25, 26, 27, 28, 29, 30, 31, 32, 33, 34, 35, 36, 37, 38, 39, 40, 41, 42, 43, 44, 45, 46, 47, 48, 49] (by decide +kernel) (by decide +kernel)) (goodIn_sub (fun _ h => List.mem_cons_of_mem _ (List.mem_append_left _ (List.mem_append_right _ h))) (by decide +kernel))) (goodIn_sub (fun _ h => List.mem_cons_of_mem _ (List.mem_append_right _ h)) (by decide +kernel))
set_option maxRecDepth 20000 in
theorem gL_setGrants_X0_setGrants : GoodIn wsL_setGrants (wsV RL 18 RX0 yX0_setGrants wsX0_setGrants) := goodIn_app (goodIn_of _ (by decide +kernel)) ggL_setGrants_X0_setGrants
theorem dL_setGrants_0 : decode cL_setGrants 0 = .ok (.aload_n 3, 1) := by decide +kernel
theorem dL_setGrants_1 : decode cL_setGrants 1 = .ok (.iconst 0, 1) := by decide +kernel
theorem dL_setGrants_2 : decode cL_setGrants 2 = .ok (.aload_n 0, 1) := by decide +kernel
theorem dL_setGrants_3 : decode cL_setGrants 3 = .ok (.iload_n 1, 1) := by decide +kernel
theorem dL_setGrants_4 : decode cL_setGrants 4 = .ok (.iload_n 2, 1) := by decide +kernel
theorem dL_setGrants_5 : decode cL_setGrants 5 = .ok (.invokevirtual 18, 3) := by decide +kernel
theorem dL_setGrants_8 : decode cL_setGrants 8 = .ok (.i2l, 1) := by decide +kernel
theorem dL_setGrants_9 : decode cL_setGrants 9 = .ok (.lastore, 1) := by decide +kernel
theorem dL_setGrants_10 : decode cL_setGrants 10 = .ok (.goto 11, 3) := by decide +kernel
theorem dL_setGrants_13 : decode cL_setGrants 13 = .ok (.astore 4, 2) := by decide +kernel
theorem dL_setGrants_15 : decode cL_setGrants 15 = .ok (.iconst 1, 1) := by decide +kernel
theorem dL_setGrants_16 : decode cL_setGrants 16 = .ok (.ireturn, 1) := by decide +kernel
theorem dL_setGrants_17 : decode cL_setGrants 17 = .ok (.astore 4, 2) := by decide +kernel
theorem dL_setGrants_19 : decode cL_setGrants 19 = .ok (.iconst 2, 1) := by decide +kernel
theorem dL_setGrants_20 : decode cL_setGrants 20 = .ok (.ireturn, 1) := by decide +kernel
theorem dL_setGrants_21 : decode cL_setGrants 21 = .ok (.iconst 0, 1) := by decide +kernel
theorem dL_setGrants_22 : decode cL_setGrants 22 = .ok (.ireturn, 1) := by decide +kernel
set_option maxRecDepth 20000 in
theorem ggL_setConflict_X0_setConflict : GoodIn wsL_setConflict wsX0_setConflict := goodIn_ca (goodIn_ca (goodIn_r _ [7, 8, 9, 10, 11, 12, 13, 14, 6, 15, 16, 17, 18, 19, 20, 21, 22, 23, 24, 25, 26, 27, 28, 29, 30, 31, 32, 33, 34] (by decide +kernel) (by decide +kernel)) (goodIn_sub (fun _ h => List.mem_cons_of_mem _ (List.mem_append_left _ (List.mem_append_right _ h))) (by decide +kernel))) (goodIn_sub (fun _ h => List.mem_cons_of_mem _ (List.mem_append_right _ h)) (by decide +kernel))
set_option maxRecDepth 20000 in
theorem gL_setConflict_X0_setConflict : GoodIn wsL_setConflict (wsV RL 24 RX0 yX0_setConflict wsX0_setConflict) := goodIn_app (goodIn_of _ (by decide +kernel)) ggL_setConflict_X0_setConflict
theorem dL_setConflict_0 : decode cL_setConflict 0 = .ok (.aload 4, 2) := by decide +kernel
theorem dL_setConflict_2 : decode cL_setConflict 2 = .ok (.iconst 0, 1) := by decide +kernel
theorem dL_setConflict_3 : decode cL_setConflict 3 = .ok (.aload_n 0, 1) := by decide +kernel
theorem dL_setConflict_4 : decode cL_setConflict 4 = .ok (.iload_n 1, 1) := by decide +kernel
theorem dL_setConflict_5 : decode cL_setConflict 5 = .ok (.iload_n 2, 1) := by decide +kernel
theorem dL_setConflict_6 : decode cL_setConflict 6 = .ok (.iload_n 3, 1) := by decide +kernel
theorem dL_setConflict_7 : decode cL_setConflict 7 = .ok (.invokevirtual 24, 3) := by decide +kernel
theorem dL_setConflict_10 : decode cL_setConflict 10 = .ok (.ifCond .eq 7, 3) := by decide +kernel
theorem dL_setConflict_13 : decode cL_setConflict 13 = .ok (.lconst 1, 1) := by decide +kernel
theorem dL_setConflict_14 : decode cL_setConflict 14 = .ok (.goto 4, 3) := by decide +kernel
theorem dL_setConflict_17 : decode cL_setConflict 17 = .ok (.lconst 0, 1) := by decide +kernel
theorem dL_setConflict_18 : decode cL_setConflict 18 = .ok (.lastore, 1) := by decide +kernel
theorem dL_setConflict_19 : decode cL_setConflict 19 = .ok (.goto 11, 3) := by decide +kernel
theorem dL_setConflict_22 : decode cL_setConflict 22 = .ok (.astore 5, 2) := by decide +kernel
theorem dL_setConflict_24 : decode cL_setConflict 24 = .ok (.iconst 1, 1) := by decide +kernel
theorem dL_setConflict_25 : decode cL_setConflict 25 = .ok (.ireturn, 1) := by decide +kernel
theorem dL_setConflict_26 : decode cL_setConflict 26 = .ok (.astore 5, 2) := by decide +kernel
theorem dL_setConflict_28 : decode cL_setConflict 28 = .ok (.iconst 2, 1) := by decide +kernel
theorem dL_setConflict_29 : decode cL_setConflict 29 = .ok (.ireturn, 1) := by decide +kernel
theorem dL_setConflict_30 : decode cL_setConflict 30 = .ok (.iconst 0, 1) := by decide +kernel
theorem dL_setConflict_31 : decode cL_setConflict 31 = .ok (.ireturn, 1) := by decide +kernel
set_option maxRecDepth 20000 in
theorem ggL_setCosts_X0_setCosts : GoodIn wsL_setCosts wsX0_setCosts := goodIn_ca (goodIn_r _ [6, 7, 8, 9, 10, 11, 12, 5, 13, 14, 15, 16, 17, 18, 19, 20, 21, 22, 23, 24, 25, 26, 27, 28, 29] (by decide +kernel) (by decide +kernel)) (goodIn_sub (fun _ h => List.mem_cons_of_mem _ (List.mem_append_right _ h)) (by decide +kernel))
set_option maxRecDepth 20000 in
theorem gL_setCosts_X0_setCosts : GoodIn wsL_setCosts (wsV RL 28 RX0 yX0_setCosts wsX0_setCosts) := goodIn_app (goodIn_of _ (by decide +kernel)) ggL_setCosts_X0_setCosts
theorem dL_setCosts_0 : decode cL_setCosts 0 = .ok (.aload_n 0, 1) := by decide +kernel
theorem dL_setCosts_1 : decode cL_setCosts 1 = .ok (.iload_n 1, 1) := by decide +kernel
theorem dL_setCosts_2 : decode cL_setCosts 2 = .ok (.iload_n 2, 1) := by decide +kernel
theorem dL_setCosts_3 : decode cL_setCosts 3 = .ok (.invokevirtual 28, 3) := by decide +kernel
theorem dL_setCosts_6 : decode cL_setCosts 6 = .ok (.goto 6, 3) := by decide +kernel
theorem dL_setCosts_9 : decode cL_setCosts 9 = .ok (.astore_n 3, 1) := by decide +kernel
theorem dL_setCosts_10 : decode cL_setCosts 10 = .ok (.iconst 1, 1) := by decide +kernel
theorem dL_setCosts_11 : decode cL_setCosts 11 = .ok (.ireturn, 1) := by decide +kernel
theorem dL_setCosts_12 : decode cL_setCosts 12 = .ok (.iconst 0, 1) := by decide +kernel
theorem dL_setCosts_13 : decode cL_setCosts 13 = .ok (.ireturn, 1) := by decide +kernel
set_option maxRecDepth 20000 in
theorem ggL_setSupport_X0_setSupport : GoodIn wsL_setSupport wsX0_setSupport := goodIn_ca (goodIn_r _ [6, 7, 8, 9, 10, 11, 12, 13, 14, 15, 16, 17, 18, 19, 20, 21, 22, 23, 24, 25] (by decide +kernel) (by decide +kernel)) (goodIn_sub (fun _ h => List.mem_cons_of_mem _ (List.mem_append_right _ h)) (by decide +kernel))
set_option maxRecDepth 20000 in
theorem gL_setSupport_X0_setSupport : GoodIn wsL_setSupport (wsV RL 32 RX0 yX0_setSupport wsX0_setSupport) := goodIn_app (goodIn_of _ (by decide +kernel)) ggL_setSupport_X0_setSupport
theorem dL_setSupport_0 : decode cL_setSupport 0 = .ok (.aload_n 2, 1) := by decide +kernel
theorem dL_setSupport_1 : decode cL_setSupport 1 = .ok (.iconst 0, 1) := by decide +kernel
theorem dL_setSupport_2 : decode cL_setSupport 2 = .ok (.aload_n 0, 1) := by decide +kernel
theorem dL_setSupport_3 : decode cL_setSupport 3 = .ok (.iload_n 1, 1) := by decide +kernel
theorem dL_setSupport_4 : decode cL_setSupport 4 = .ok (.invokevirtual 32, 3) := by decide +kernel
theorem dL_setSupport_7 : decode cL_setSupport 7 = .ok (.i2l, 1) := by decide +kernel
theorem dL_setSupport_8 : decode cL_setSupport 8 = .ok (.lastore, 1) := by decide +kernel
theorem dL_setSupport_9 : decode cL_setSupport 9 = .ok (.goto 6, 3) := by decide +kernel
theorem dL_setSupport_12 : decode cL_setSupport 12 = .ok (.astore_n 3, 1) := by decide +kernel
theorem dL_setSupport_13 : decode cL_setSupport 13 = .ok (.iconst 1, 1) := by decide +kernel
theorem dL_setSupport_14 : decode cL_setSupport 14 = .ok (.ireturn, 1) := by decide +kernel
theorem dL_setSupport_15 : decode cL_setSupport 15 = .ok (.iconst 0, 1) := by decide +kernel
theorem dL_setSupport_16 : decode cL_setSupport 16 = .ok (.ireturn, 1) := by decide +kernel
set_option maxRecDepth 20000 in
theorem ggL_setPeriod_X0_setPeriod : GoodIn wsL_setPeriod wsX0_setPeriod := goodIn_ca (goodIn_r _ [6, 7, 8, 9, 10, 11, 12, 13, 14, 15, 16, 17, 18, 19, 20, 21, 22, 23, 24, 25] (by decide +kernel) (by decide +kernel)) (goodIn_sub (fun _ h => List.mem_cons_of_mem _ (List.mem_append_right _ h)) (by decide +kernel))
set_option maxRecDepth 20000 in
theorem gL_setPeriod_X0_setPeriod : GoodIn wsL_setPeriod (wsV RL 36 RX0 yX0_setPeriod wsX0_setPeriod) := goodIn_app (goodIn_of _ (by decide +kernel)) ggL_setPeriod_X0_setPeriod
theorem dL_setPeriod_0 : decode cL_setPeriod 0 = .ok (.aload_n 2, 1) := by decide +kernel
theorem dL_setPeriod_1 : decode cL_setPeriod 1 = .ok (.iconst 0, 1) := by decide +kernel
theorem dL_setPeriod_2 : decode cL_setPeriod 2 = .ok (.aload_n 0, 1) := by decide +kernel
theorem dL_setPeriod_3 : decode cL_setPeriod 3 = .ok (.iload_n 1, 1) := by decide +kernel
theorem dL_setPeriod_4 : decode cL_setPeriod 4 = .ok (.invokevirtual 36, 3) := by decide +kernel
theorem dL_setPeriod_7 : decode cL_setPeriod 7 = .ok (.i2l, 1) := by decide +kernel
theorem dL_setPeriod_8 : decode cL_setPeriod 8 = .ok (.lastore, 1) := by decide +kernel
theorem dL_setPeriod_9 : decode cL_setPeriod 9 = .ok (.goto 6, 3) := by decide +kernel
theorem dL_setPeriod_12 : decode cL_setPeriod 12 = .ok (.astore_n 3, 1) := by decide +kernel
theorem dL_setPeriod_13 : decode cL_setPeriod 13 = .ok (.iconst 1, 1) := by decide +kernel
theorem dL_setPeriod_14 : decode cL_setPeriod 14 = .ok (.ireturn, 1) := by decide +kernel
theorem dL_setPeriod_15 : decode cL_setPeriod 15 = .ok (.iconst 0, 1) := by decide +kernel
theorem dL_setPeriod_16 : decode cL_setPeriod 16 = .ok (.ireturn, 1) := by decide +kernel
set_option maxRecDepth 20000 in
theorem ggL_review_X0_review : GoodIn wsL_review wsX0_review := goodIn_ca (goodIn_ca (goodIn_r _ [7, 8, 9, 10, 11, 12, 13, 14, 15, 16, 6, 17, 18, 19, 20, 21, 22, 23, 24, 25, 26, 27, 28, 29, 30, 31, 32, 33, 34, 35, 36, 37, 38, 39, 40, 41, 42] (by decide +kernel) (by decide +kernel)) (goodIn_sub (fun _ h => List.mem_cons_of_mem _ (List.mem_append_left _ (List.mem_append_right _ h))) (by decide +kernel))) (goodIn_sub (fun _ h => List.mem_cons_of_mem _ (List.mem_append_right _ h)) (by decide +kernel))
set_option maxRecDepth 20000 in
theorem gL_review_X0_review : GoodIn wsL_review (wsV RL 39 RX0 yX0_review wsX0_review) := goodIn_app (goodIn_of _ (by decide +kernel)) ggL_review_X0_review
theorem dL_review_0 : decode cL_review 0 = .ok (.aload_n 3, 1) := by decide +kernel
theorem dL_review_1 : decode cL_review 1 = .ok (.iconst 0, 1) := by decide +kernel
theorem dL_review_2 : decode cL_review 2 = .ok (.aload_n 0, 1) := by decide +kernel
theorem dL_review_3 : decode cL_review 3 = .ok (.iload_n 1, 1) := by decide +kernel
theorem dL_review_4 : decode cL_review 4 = .ok (.iload_n 2, 1) := by decide +kernel
theorem dL_review_5 : decode cL_review 5 = .ok (.invokevirtual 39, 3) := by decide +kernel
theorem dL_review_8 : decode cL_review 8 = .ok (.i2l, 1) := by decide +kernel
theorem dL_review_9 : decode cL_review 9 = .ok (.lastore, 1) := by decide +kernel
theorem dL_review_10 : decode cL_review 10 = .ok (.goto 11, 3) := by decide +kernel
theorem dL_review_13 : decode cL_review 13 = .ok (.astore 4, 2) := by decide +kernel
theorem dL_review_15 : decode cL_review 15 = .ok (.iconst 1, 1) := by decide +kernel
theorem dL_review_16 : decode cL_review 16 = .ok (.ireturn, 1) := by decide +kernel
theorem dL_review_17 : decode cL_review 17 = .ok (.astore 4, 2) := by decide +kernel
theorem dL_review_19 : decode cL_review 19 = .ok (.iconst 2, 1) := by decide +kernel
theorem dL_review_20 : decode cL_review 20 = .ok (.ireturn, 1) := by decide +kernel
theorem dL_review_21 : decode cL_review 21 = .ok (.iconst 0, 1) := by decide +kernel
theorem dL_review_22 : decode cL_review 22 = .ok (.ireturn, 1) := by decide +kernel
set_option maxRecDepth 20000 in
theorem ggL_nextQuarter_X0_nextQuarter : GoodIn wsL_nextQuarter wsX0_nextQuarter := goodIn_ca (goodIn_r _ [6, 7, 8, 9, 10, 11, 12, 13, 5, 14, 15, 16, 17, 18, 19, 20, 21, 22, 23, 24, 25, 26, 27, 28, 29, 30, 31, 32, 33, 34, 35, 36, 37, 38, 39, 40, 41, 42, 43, 44, 45] (by decide +kernel) (by decide +kernel)) (goodIn_sub (fun _ h => List.mem_cons_of_mem _ (List.mem_append_right _ h)) (by decide +kernel))
set_option maxRecDepth 20000 in
theorem gL_nextQuarter_X0_nextQuarter : GoodIn wsL_nextQuarter (wsV RL 44 RX0 yX0_nextQuarter wsX0_nextQuarter) := goodIn_app (goodIn_of _ (by decide +kernel)) ggL_nextQuarter_X0_nextQuarter
theorem dL_nextQuarter_0 : decode cL_nextQuarter 0 = .ok (.aload_n 1, 1) := by decide +kernel
theorem dL_nextQuarter_1 : decode cL_nextQuarter 1 = .ok (.iconst 0, 1) := by decide +kernel
theorem dL_nextQuarter_2 : decode cL_nextQuarter 2 = .ok (.aload_n 0, 1) := by decide +kernel
theorem dL_nextQuarter_3 : decode cL_nextQuarter 3 = .ok (.invokevirtual 44, 3) := by decide +kernel
theorem dL_nextQuarter_6 : decode cL_nextQuarter 6 = .ok (.i2l, 1) := by decide +kernel
theorem dL_nextQuarter_7 : decode cL_nextQuarter 7 = .ok (.lastore, 1) := by decide +kernel
theorem dL_nextQuarter_8 : decode cL_nextQuarter 8 = .ok (.goto 6, 3) := by decide +kernel
theorem dL_nextQuarter_11 : decode cL_nextQuarter 11 = .ok (.astore_n 2, 1) := by decide +kernel
theorem dL_nextQuarter_12 : decode cL_nextQuarter 12 = .ok (.iconst 1, 1) := by decide +kernel
theorem dL_nextQuarter_13 : decode cL_nextQuarter 13 = .ok (.ireturn, 1) := by decide +kernel
theorem dL_nextQuarter_14 : decode cL_nextQuarter 14 = .ok (.iconst 0, 1) := by decide +kernel
theorem dL_nextQuarter_15 : decode cL_nextQuarter 15 = .ok (.ireturn, 1) := by decide +kernel
set_option maxRecDepth 20000 in
theorem ggL_mineBest_X0_mineBest : GoodIn wsL_mineBest wsX0_mineBest := goodIn_ca (goodIn_r _ [6, 7, 8, 9, 10, 11, 12, 13, 14, 15, 5, 16, 17, 18, 19, 20, 21, 22, 23, 24, 25, 26, 27, 28, 29, 30, 31, 32, 33, 34, 35, 36, 37, 38, 39, 40, 41, 42, 43, 44, 45, 46, 47, 48, 49, 50, 51, 52, 53, 54, 55, 56, 57, 58, 59, 60, 61, 62, 63, 64, 65, 66, 67, 68, 69, 70, 71, 72, 73, 74, 75, 76, 77, 78, 79, 80, 81, 82, 83, 84, 85, 86, 87, 88, 89, 90, 91, 92, 93, 94, 95, 96, 97, 98, 99, 100, 101, 102, 103, 104, 105, 106, 107, 108, 109, 110, 111, 112, 113, 114, 115, 116, 117, 118] (by decide +kernel) (by decide +kernel)) (goodIn_sub (fun _ h => List.mem_cons_of_mem _ (List.mem_append_right _ h)) (by decide +kernel))
set_option maxRecDepth 20000 in
theorem gL_mineBest_X0_mineBest : GoodIn wsL_mineBest (wsV RL 48 RX0 yX0_mineBest wsX0_mineBest) := goodIn_app (goodIn_of _ (by decide +kernel)) ggL_mineBest_X0_mineBest
theorem dL_mineBest_0 : decode cL_mineBest 0 = .ok (.aload_n 1, 1) := by decide +kernel
theorem dL_mineBest_1 : decode cL_mineBest 1 = .ok (.iconst 0, 1) := by decide +kernel
theorem dL_mineBest_2 : decode cL_mineBest 2 = .ok (.aload_n 0, 1) := by decide +kernel
theorem dL_mineBest_3 : decode cL_mineBest 3 = .ok (.invokevirtual 48, 3) := by decide +kernel
theorem dL_mineBest_6 : decode cL_mineBest 6 = .ok (.i2l, 1) := by decide +kernel
theorem dL_mineBest_7 : decode cL_mineBest 7 = .ok (.lastore, 1) := by decide +kernel
theorem dL_mineBest_8 : decode cL_mineBest 8 = .ok (.goto 6, 3) := by decide +kernel
theorem dL_mineBest_11 : decode cL_mineBest 11 = .ok (.astore_n 2, 1) := by decide +kernel
theorem dL_mineBest_12 : decode cL_mineBest 12 = .ok (.iconst 1, 1) := by decide +kernel
theorem dL_mineBest_13 : decode cL_mineBest 13 = .ok (.ireturn, 1) := by decide +kernel
theorem dL_mineBest_14 : decode cL_mineBest 14 = .ok (.iconst 0, 1) := by decide +kernel
theorem dL_mineBest_15 : decode cL_mineBest 15 = .ok (.ireturn, 1) := by decide +kernel
set_option maxRecDepth 20000 in
theorem ggL_permissions_X0_permissions : GoodIn wsL_permissions wsX0_permissions := goodIn_ca (goodIn_r _ [6, 7, 8, 9, 10, 11, 5, 12, 13, 14, 15, 16, 17, 18, 19, 20, 21, 22, 23, 24, 25, 26, 27, 28] (by decide +kernel) (by decide +kernel)) (goodIn_sub (fun _ h => List.mem_cons_of_mem _ (List.mem_append_right _ h)) (by decide +kernel))
set_option maxRecDepth 20000 in
theorem gL_permissions_X0_permissions : GoodIn wsL_permissions (wsV RL 51 RX0 yX0_permissions wsX0_permissions) := goodIn_app (goodIn_of _ (by decide +kernel)) ggL_permissions_X0_permissions
theorem dL_permissions_0 : decode cL_permissions 0 = .ok (.aload_n 2, 1) := by decide +kernel
theorem dL_permissions_1 : decode cL_permissions 1 = .ok (.iconst 0, 1) := by decide +kernel
theorem dL_permissions_2 : decode cL_permissions 2 = .ok (.aload_n 0, 1) := by decide +kernel
theorem dL_permissions_3 : decode cL_permissions 3 = .ok (.iload_n 1, 1) := by decide +kernel
theorem dL_permissions_4 : decode cL_permissions 4 = .ok (.invokevirtual 51, 3) := by decide +kernel
theorem dL_permissions_7 : decode cL_permissions 7 = .ok (.i2l, 1) := by decide +kernel
theorem dL_permissions_8 : decode cL_permissions 8 = .ok (.lastore, 1) := by decide +kernel
theorem dL_permissions_9 : decode cL_permissions 9 = .ok (.goto 6, 3) := by decide +kernel
theorem dL_permissions_12 : decode cL_permissions 12 = .ok (.astore_n 3, 1) := by decide +kernel
theorem dL_permissions_13 : decode cL_permissions 13 = .ok (.iconst 1, 1) := by decide +kernel
theorem dL_permissions_14 : decode cL_permissions 14 = .ok (.ireturn, 1) := by decide +kernel
theorem dL_permissions_15 : decode cL_permissions 15 = .ok (.iconst 0, 1) := by decide +kernel
theorem dL_permissions_16 : decode cL_permissions 16 = .ok (.ireturn, 1) := by decide +kernel
set_option maxRecDepth 20000 in
theorem ggL_violations_X0_violations : GoodIn wsL_violations wsX0_violations := goodIn_ca (goodIn_r _ [6, 7, 8, 9, 10, 11, 12, 5, 13, 14, 15, 16, 17, 18, 19, 20, 21, 22, 23, 24, 25, 26, 27, 28, 29, 30, 31, 32, 33, 34, 35, 36, 37, 38, 39] (by decide +kernel) (by decide +kernel)) (goodIn_sub (fun _ h => List.mem_cons_of_mem _ (List.mem_append_right _ h)) (by decide +kernel))
set_option maxRecDepth 20000 in
theorem gL_violations_X0_violations : GoodIn wsL_violations (wsV RL 54 RX0 yX0_violations wsX0_violations) := goodIn_app (goodIn_of _ (by decide +kernel)) ggL_violations_X0_violations
theorem dL_violations_0 : decode cL_violations 0 = .ok (.aload_n 2, 1) := by decide +kernel
theorem dL_violations_1 : decode cL_violations 1 = .ok (.iconst 0, 1) := by decide +kernel
theorem dL_violations_2 : decode cL_violations 2 = .ok (.aload_n 0, 1) := by decide +kernel
theorem dL_violations_3 : decode cL_violations 3 = .ok (.iload_n 1, 1) := by decide +kernel
theorem dL_violations_4 : decode cL_violations 4 = .ok (.invokevirtual 54, 3) := by decide +kernel
theorem dL_violations_7 : decode cL_violations 7 = .ok (.i2l, 1) := by decide +kernel
theorem dL_violations_8 : decode cL_violations 8 = .ok (.lastore, 1) := by decide +kernel
theorem dL_violations_9 : decode cL_violations 9 = .ok (.goto 6, 3) := by decide +kernel
theorem dL_violations_12 : decode cL_violations 12 = .ok (.astore_n 3, 1) := by decide +kernel
theorem dL_violations_13 : decode cL_violations 13 = .ok (.iconst 1, 1) := by decide +kernel
theorem dL_violations_14 : decode cL_violations 14 = .ok (.ireturn, 1) := by decide +kernel
theorem dL_violations_15 : decode cL_violations 15 = .ok (.iconst 0, 1) := by decide +kernel
theorem dL_violations_16 : decode cL_violations 16 = .ok (.ireturn, 1) := by decide +kernel
set_option maxRecDepth 20000 in
theorem ggL_due_X0_due : GoodIn wsL_due wsX0_due := goodIn_ca (goodIn_r _ [6, 7, 8, 9, 10, 11, 5, 12, 13, 14, 15, 16, 17, 18, 19, 20, 21, 22, 23, 24, 25, 26, 27, 28, 29, 30, 31, 32, 33, 34, 35, 36, 37, 38, 39, 40, 41] (by decide +kernel) (by decide +kernel)) (goodIn_sub (fun _ h => List.mem_cons_of_mem _ (List.mem_append_right _ h)) (by decide +kernel))
set_option maxRecDepth 20000 in
theorem gL_due_X0_due : GoodIn wsL_due (wsV RL 57 RX0 yX0_due wsX0_due) := goodIn_app (goodIn_of _ (by decide +kernel)) ggL_due_X0_due
theorem dL_due_0 : decode cL_due 0 = .ok (.aload_n 2, 1) := by decide +kernel
theorem dL_due_1 : decode cL_due 1 = .ok (.iconst 0, 1) := by decide +kernel
theorem dL_due_2 : decode cL_due 2 = .ok (.aload_n 0, 1) := by decide +kernel
theorem dL_due_3 : decode cL_due 3 = .ok (.iload_n 1, 1) := by decide +kernel
theorem dL_due_4 : decode cL_due 4 = .ok (.invokevirtual 57, 3) := by decide +kernel
theorem dL_due_7 : decode cL_due 7 = .ok (.i2l, 1) := by decide +kernel
theorem dL_due_8 : decode cL_due 8 = .ok (.lastore, 1) := by decide +kernel
theorem dL_due_9 : decode cL_due 9 = .ok (.goto 6, 3) := by decide +kernel
theorem dL_due_12 : decode cL_due 12 = .ok (.astore_n 3, 1) := by decide +kernel
theorem dL_due_13 : decode cL_due 13 = .ok (.iconst 1, 1) := by decide +kernel
theorem dL_due_14 : decode cL_due 14 = .ok (.ireturn, 1) := by decide +kernel
theorem dL_due_15 : decode cL_due 15 = .ok (.iconst 0, 1) := by decide +kernel
theorem dL_due_16 : decode cL_due 16 = .ok (.ireturn, 1) := by decide +kernel
set_option maxRecDepth 20000 in
theorem ggL_candidate_X0_candidate : GoodIn wsL_candidate wsX0_candidate := goodIn_ca (goodIn_r _ [6, 7, 8, 9, 10, 11, 12, 13, 5, 14, 15, 16, 17, 18, 19, 20, 21, 22, 23, 24, 25, 26, 27, 28, 29, 30, 31, 32, 33, 34, 35, 36, 37, 38, 39, 40, 41, 42, 43, 44, 45, 46, 47, 48, 49, 50, 51, 52, 53, 54, 55, 56, 57, 58, 59, 60, 61, 62, 63, 64, 65, 66, 67, 68, 69, 70, 71, 72, 73, 74, 75, 76, 77, 78, 79, 80] (by decide +kernel) (by decide +kernel)) (goodIn_sub (fun _ h => List.mem_cons_of_mem _ (List.mem_append_right _ h)) (by decide +kernel))
set_option maxRecDepth 20000 in
theorem gL_candidate_X0_candidate : GoodIn wsL_candidate (wsV RL 60 RX0 yX0_candidate wsX0_candidate) := goodIn_app (goodIn_of _ (by decide +kernel)) ggL_candidate_X0_candidate
theorem dL_candidate_0 : decode cL_candidate 0 = .ok (.aload_n 2, 1) := by decide +kernel
theorem dL_candidate_1 : decode cL_candidate 1 = .ok (.iconst 0, 1) := by decide +kernel
theorem dL_candidate_2 : decode cL_candidate 2 = .ok (.aload_n 0, 1) := by decide +kernel
theorem dL_candidate_3 : decode cL_candidate 3 = .ok (.iload_n 1, 1) := by decide +kernel
theorem dL_candidate_4 : decode cL_candidate 4 = .ok (.invokevirtual 60, 3) := by decide +kernel
theorem dL_candidate_7 : decode cL_candidate 7 = .ok (.i2l, 1) := by decide +kernel
theorem dL_candidate_8 : decode cL_candidate 8 = .ok (.lastore, 1) := by decide +kernel
theorem dL_candidate_9 : decode cL_candidate 9 = .ok (.goto 6, 3) := by decide +kernel
theorem dL_candidate_12 : decode cL_candidate 12 = .ok (.astore_n 3, 1) := by decide +kernel
theorem dL_candidate_13 : decode cL_candidate 13 = .ok (.iconst 1, 1) := by decide +kernel
theorem dL_candidate_14 : decode cL_candidate 14 = .ok (.ireturn, 1) := by decide +kernel
theorem dL_candidate_15 : decode cL_candidate 15 = .ok (.iconst 0, 1) := by decide +kernel
theorem dL_candidate_16 : decode cL_candidate 16 = .ok (.ireturn, 1) := by decide +kernel
set_option maxRecDepth 20000 in
theorem ggL_holders_X0_holders : GoodIn wsL_holders wsX0_holders := goodIn_ca (goodIn_r _ [6, 7, 8, 9, 10, 5, 11, 12, 13, 14, 15, 16, 17, 18, 19, 20, 21, 22, 23, 24, 25, 26, 27, 28, 29, 30, 31, 32, 33, 34, 35, 36] (by decide +kernel) (by decide +kernel)) (goodIn_sub (fun _ h => List.mem_cons_of_mem _ (List.mem_append_right _ h)) (by decide +kernel))
set_option maxRecDepth 20000 in
theorem gL_holders_X0_holders : GoodIn wsL_holders (wsV RL 63 RX0 yX0_holders wsX0_holders) := goodIn_app (goodIn_of _ (by decide +kernel)) ggL_holders_X0_holders
theorem dL_holders_0 : decode cL_holders 0 = .ok (.aload_n 2, 1) := by decide +kernel
theorem dL_holders_1 : decode cL_holders 1 = .ok (.iconst 0, 1) := by decide +kernel
theorem dL_holders_2 : decode cL_holders 2 = .ok (.aload_n 0, 1) := by decide +kernel
theorem dL_holders_3 : decode cL_holders 3 = .ok (.iload_n 1, 1) := by decide +kernel
theorem dL_holders_4 : decode cL_holders 4 = .ok (.invokevirtual 63, 3) := by decide +kernel
theorem dL_holders_7 : decode cL_holders 7 = .ok (.i2l, 1) := by decide +kernel
theorem dL_holders_8 : decode cL_holders 8 = .ok (.lastore, 1) := by decide +kernel
theorem dL_holders_9 : decode cL_holders 9 = .ok (.goto 6, 3) := by decide +kernel
theorem dL_holders_12 : decode cL_holders 12 = .ok (.astore_n 3, 1) := by decide +kernel
theorem dL_holders_13 : decode cL_holders 13 = .ok (.iconst 1, 1) := by decide +kernel
theorem dL_holders_14 : decode cL_holders 14 = .ok (.ireturn, 1) := by decide +kernel
theorem dL_holders_15 : decode cL_holders 15 = .ok (.iconst 0, 1) := by decide +kernel
theorem dL_holders_16 : decode cL_holders 16 = .ok (.ireturn, 1) := by decide +kernel
set_option maxRecDepth 20000 in
theorem ggL_costOf_X0_costOf : GoodIn wsL_costOf wsX0_costOf := goodIn_ca (goodIn_ca (goodIn_r _ [7, 8, 9, 10, 11, 12, 13, 14, 15, 6, 16, 17, 18, 19, 20, 21, 22, 23, 24, 25, 26, 27, 28, 29, 30, 31, 32, 33, 34, 35, 36, 37, 38, 39, 40, 41, 42, 43, 44, 45, 46, 47, 48, 49, 50, 51, 52, 53, 54, 55, 56, 57, 58, 59, 60, 61, 62, 63, 64, 65, 66, 67, 68, 69, 70, 71, 72, 73, 74, 75, 76, 77, 78, 79, 80, 81, 82, 83, 84, 85, 86, 87, 88, 89, 90, 91, 92, 93, 94, 95, 96, 97, 98, 99, 100, 101] (by decide +kernel) (by decide +kernel)) (goodIn_sub (fun _ h => List.mem_cons_of_mem _ (List.mem_append_left _ (List.mem_append_right _ h))) (by decide +kernel))) (goodIn_sub (fun _ h => List.mem_cons_of_mem _ (List.mem_append_right _ h)) (by decide +kernel))
set_option maxRecDepth 20000 in
theorem gL_costOf_X0_costOf : GoodIn wsL_costOf (wsV RL 66 RX0 yX0_costOf wsX0_costOf) := goodIn_app (goodIn_of _ (by decide +kernel)) ggL_costOf_X0_costOf
theorem dL_costOf_0 : decode cL_costOf 0 = .ok (.aload_n 2, 1) := by decide +kernel
theorem dL_costOf_1 : decode cL_costOf 1 = .ok (.iconst 0, 1) := by decide +kernel
theorem dL_costOf_2 : decode cL_costOf 2 = .ok (.aload_n 0, 1) := by decide +kernel
theorem dL_costOf_3 : decode cL_costOf 3 = .ok (.iload_n 1, 1) := by decide +kernel
theorem dL_costOf_4 : decode cL_costOf 4 = .ok (.invokevirtual 66, 3) := by decide +kernel
theorem dL_costOf_7 : decode cL_costOf 7 = .ok (.i2l, 1) := by decide +kernel
theorem dL_costOf_8 : decode cL_costOf 8 = .ok (.lastore, 1) := by decide +kernel
theorem dL_costOf_9 : decode cL_costOf 9 = .ok (.goto 9, 3) := by decide +kernel
theorem dL_costOf_12 : decode cL_costOf 12 = .ok (.astore_n 3, 1) := by decide +kernel
theorem dL_costOf_13 : decode cL_costOf 13 = .ok (.iconst 1, 1) := by decide +kernel
theorem dL_costOf_14 : decode cL_costOf 14 = .ok (.ireturn, 1) := by decide +kernel
theorem dL_costOf_15 : decode cL_costOf 15 = .ok (.astore_n 3, 1) := by decide +kernel
theorem dL_costOf_16 : decode cL_costOf 16 = .ok (.iconst 2, 1) := by decide +kernel
theorem dL_costOf_17 : decode cL_costOf 17 = .ok (.ireturn, 1) := by decide +kernel
theorem dL_costOf_18 : decode cL_costOf 18 = .ok (.iconst 0, 1) := by decide +kernel
theorem dL_costOf_19 : decode cL_costOf 19 = .ok (.ireturn, 1) := by decide +kernel
set_option maxRecDepth 20000 in
theorem ggL_leastCost_X0_leastCost : GoodIn wsL_leastCost wsX0_leastCost := goodIn_ca (goodIn_r _ [6, 7, 8, 9, 10, 11, 12, 5, 13, 14, 15, 16, 17, 18, 19, 20, 21, 22, 23, 24, 25, 26, 27, 28, 29, 30, 31, 32, 33, 34, 35, 36, 37, 38, 39, 40, 41, 42, 43, 44, 45, 46, 47, 48, 49, 50, 51, 52, 53, 54, 55, 56, 57, 58, 59, 60, 61, 62, 63, 64, 65, 66, 67, 68, 69, 70, 71, 72, 73, 74, 75, 76, 77, 78, 79, 80, 81, 82, 83, 84, 85, 86, 87, 88, 89, 90, 91, 92, 93, 94, 95, 96, 97, 98, 99, 100, 101, 102, 103, 104, 105, 106, 107, 108, 109, 110, 111, 112, 113, 114, 115, 116] (by decide +kernel) (by decide +kernel)) (goodIn_sub (fun _ h => List.mem_cons_of_mem _ (List.mem_append_right _ h)) (by decide +kernel))
set_option maxRecDepth 20000 in
theorem gL_leastCost_X0_leastCost : GoodIn wsL_leastCost (wsV RL 69 RX0 yX0_leastCost wsX0_leastCost) := goodIn_app (goodIn_of _ (by decide +kernel)) ggL_leastCost_X0_leastCost
theorem dL_leastCost_0 : decode cL_leastCost 0 = .ok (.aload_n 1, 1) := by decide +kernel
theorem dL_leastCost_1 : decode cL_leastCost 1 = .ok (.iconst 0, 1) := by decide +kernel
theorem dL_leastCost_2 : decode cL_leastCost 2 = .ok (.aload_n 0, 1) := by decide +kernel
theorem dL_leastCost_3 : decode cL_leastCost 3 = .ok (.invokevirtual 69, 3) := by decide +kernel
theorem dL_leastCost_6 : decode cL_leastCost 6 = .ok (.i2l, 1) := by decide +kernel
theorem dL_leastCost_7 : decode cL_leastCost 7 = .ok (.lastore, 1) := by decide +kernel
theorem dL_leastCost_8 : decode cL_leastCost 8 = .ok (.goto 6, 3) := by decide +kernel
theorem dL_leastCost_11 : decode cL_leastCost 11 = .ok (.astore_n 2, 1) := by decide +kernel
theorem dL_leastCost_12 : decode cL_leastCost 12 = .ok (.iconst 1, 1) := by decide +kernel
theorem dL_leastCost_13 : decode cL_leastCost 13 = .ok (.ireturn, 1) := by decide +kernel
theorem dL_leastCost_14 : decode cL_leastCost 14 = .ok (.iconst 0, 1) := by decide +kernel
theorem dL_leastCost_15 : decode cL_leastCost 15 = .ok (.ireturn, 1) := by decide +kernel
set_option maxRecDepth 20000 in
theorem ggL_role_X0_role : GoodIn wsL_role wsX0_role := goodIn_ca (goodIn_r _ [6, 7, 8, 9, 10, 11, 12, 13, 14, 15, 16, 17, 18, 19, 20, 21, 22, 23, 24, 25, 26] (by decide +kernel) (by decide +kernel)) (goodIn_sub (fun _ h => List.mem_cons_of_mem _ (List.mem_append_right _ h)) (by decide +kernel))
set_option maxRecDepth 20000 in
theorem gL_role_X0_role : GoodIn wsL_role (wsV RL 72 RX0 yX0_role wsX0_role) := goodIn_app (goodIn_of _ (by decide +kernel)) ggL_role_X0_role
theorem dL_role_0 : decode cL_role 0 = .ok (.aload_n 2, 1) := by decide +kernel
theorem dL_role_1 : decode cL_role 1 = .ok (.iconst 0, 1) := by decide +kernel
theorem dL_role_2 : decode cL_role 2 = .ok (.aload_n 0, 1) := by decide +kernel
theorem dL_role_3 : decode cL_role 3 = .ok (.iload_n 1, 1) := by decide +kernel
theorem dL_role_4 : decode cL_role 4 = .ok (.invokevirtual 72, 3) := by decide +kernel
theorem dL_role_7 : decode cL_role 7 = .ok (.i2l, 1) := by decide +kernel
theorem dL_role_8 : decode cL_role 8 = .ok (.lastore, 1) := by decide +kernel
theorem dL_role_9 : decode cL_role 9 = .ok (.goto 6, 3) := by decide +kernel
theorem dL_role_12 : decode cL_role 12 = .ok (.astore_n 3, 1) := by decide +kernel
theorem dL_role_13 : decode cL_role 13 = .ok (.iconst 1, 1) := by decide +kernel
theorem dL_role_14 : decode cL_role 14 = .ok (.ireturn, 1) := by decide +kernel
theorem dL_role_15 : decode cL_role 15 = .ok (.iconst 0, 1) := by decide +kernel
theorem dL_role_16 : decode cL_role 16 = .ok (.ireturn, 1) := by decide +kernel
set_option maxRecDepth 20000 in
theorem ggL_rolesOf_X0_rolesOf : GoodIn wsL_rolesOf wsX0_rolesOf := goodIn_ca (goodIn_r _ [6, 7, 8, 9, 10, 11, 12, 5, 13, 14, 15, 16, 17, 18, 19, 20, 21, 22, 23, 24, 25, 26, 27, 28, 29, 30, 31, 32, 33, 34] (by decide +kernel) (by decide +kernel)) (goodIn_sub (fun _ h => List.mem_cons_of_mem _ (List.mem_append_right _ h)) (by decide +kernel))
set_option maxRecDepth 20000 in
theorem gL_rolesOf_X0_rolesOf : GoodIn wsL_rolesOf (wsV RL 75 RX0 yX0_rolesOf wsX0_rolesOf) := goodIn_app (goodIn_of _ (by decide +kernel)) ggL_rolesOf_X0_rolesOf
theorem dL_rolesOf_0 : decode cL_rolesOf 0 = .ok (.aload_n 2, 1) := by decide +kernel
theorem dL_rolesOf_1 : decode cL_rolesOf 1 = .ok (.iconst 0, 1) := by decide +kernel
theorem dL_rolesOf_2 : decode cL_rolesOf 2 = .ok (.aload_n 0, 1) := by decide +kernel
theorem dL_rolesOf_3 : decode cL_rolesOf 3 = .ok (.iload_n 1, 1) := by decide +kernel
theorem dL_rolesOf_4 : decode cL_rolesOf 4 = .ok (.invokevirtual 75, 3) := by decide +kernel
theorem dL_rolesOf_7 : decode cL_rolesOf 7 = .ok (.i2l, 1) := by decide +kernel
theorem dL_rolesOf_8 : decode cL_rolesOf 8 = .ok (.lastore, 1) := by decide +kernel
theorem dL_rolesOf_9 : decode cL_rolesOf 9 = .ok (.goto 6, 3) := by decide +kernel
theorem dL_rolesOf_12 : decode cL_rolesOf 12 = .ok (.astore_n 3, 1) := by decide +kernel
theorem dL_rolesOf_13 : decode cL_rolesOf 13 = .ok (.iconst 1, 1) := by decide +kernel
theorem dL_rolesOf_14 : decode cL_rolesOf 14 = .ok (.ireturn, 1) := by decide +kernel
theorem dL_rolesOf_15 : decode cL_rolesOf 15 = .ok (.iconst 0, 1) := by decide +kernel
theorem dL_rolesOf_16 : decode cL_rolesOf 16 = .ok (.ireturn, 1) := by decide +kernel
set_option maxRecDepth 20000 in
theorem ggL_byRoles_X0_byRoles : GoodIn wsL_byRoles wsX0_byRoles := goodIn_ca (goodIn_r _ [6, 7, 8, 9, 10, 5, 11, 12, 13, 14, 15, 16, 17, 18, 19, 20, 21, 22, 23, 24, 25, 26, 27, 28, 29, 30, 31, 32, 33, 34, 35, 36, 37, 38] (by decide +kernel) (by decide +kernel)) (goodIn_sub (fun _ h => List.mem_cons_of_mem _ (List.mem_append_right _ h)) (by decide +kernel))
set_option maxRecDepth 20000 in
theorem gL_byRoles_X0_byRoles : GoodIn wsL_byRoles (wsV RL 78 RX0 yX0_byRoles wsX0_byRoles) := goodIn_app (goodIn_of _ (by decide +kernel)) ggL_byRoles_X0_byRoles
theorem dL_byRoles_0 : decode cL_byRoles 0 = .ok (.aload_n 2, 1) := by decide +kernel
theorem dL_byRoles_1 : decode cL_byRoles 1 = .ok (.iconst 0, 1) := by decide +kernel
theorem dL_byRoles_2 : decode cL_byRoles 2 = .ok (.aload_n 0, 1) := by decide +kernel
theorem dL_byRoles_3 : decode cL_byRoles 3 = .ok (.iload_n 1, 1) := by decide +kernel
theorem dL_byRoles_4 : decode cL_byRoles 4 = .ok (.invokevirtual 78, 3) := by decide +kernel
theorem dL_byRoles_7 : decode cL_byRoles 7 = .ok (.i2l, 1) := by decide +kernel
theorem dL_byRoles_8 : decode cL_byRoles 8 = .ok (.lastore, 1) := by decide +kernel
theorem dL_byRoles_9 : decode cL_byRoles 9 = .ok (.goto 6, 3) := by decide +kernel
theorem dL_byRoles_12 : decode cL_byRoles 12 = .ok (.astore_n 3, 1) := by decide +kernel
theorem dL_byRoles_13 : decode cL_byRoles 13 = .ok (.iconst 1, 1) := by decide +kernel
theorem dL_byRoles_14 : decode cL_byRoles 14 = .ok (.ireturn, 1) := by decide +kernel
theorem dL_byRoles_15 : decode cL_byRoles 15 = .ok (.iconst 0, 1) := by decide +kernel
theorem dL_byRoles_16 : decode cL_byRoles 16 = .ok (.ireturn, 1) := by decide +kernel
set_option maxRecDepth 20000 in
theorem ggL_exceptions_X0_exceptions : GoodIn wsL_exceptions wsX0_exceptions := goodIn_ca (goodIn_r _ [6, 7, 8, 9, 10, 11, 5, 12, 13, 14, 15, 16, 17, 18, 19, 20, 21, 22, 23, 24, 25, 26, 27, 28, 29, 30, 31, 32, 33, 34, 35, 36, 37, 38] (by decide +kernel) (by decide +kernel)) (goodIn_sub (fun _ h => List.mem_cons_of_mem _ (List.mem_append_right _ h)) (by decide +kernel))
set_option maxRecDepth 20000 in
theorem gL_exceptions_X0_exceptions : GoodIn wsL_exceptions (wsV RL 81 RX0 yX0_exceptions wsX0_exceptions) := goodIn_app (goodIn_of _ (by decide +kernel)) ggL_exceptions_X0_exceptions
theorem dL_exceptions_0 : decode cL_exceptions 0 = .ok (.aload_n 2, 1) := by decide +kernel
theorem dL_exceptions_1 : decode cL_exceptions 1 = .ok (.iconst 0, 1) := by decide +kernel
theorem dL_exceptions_2 : decode cL_exceptions 2 = .ok (.aload_n 0, 1) := by decide +kernel
theorem dL_exceptions_3 : decode cL_exceptions 3 = .ok (.iload_n 1, 1) := by decide +kernel
theorem dL_exceptions_4 : decode cL_exceptions 4 = .ok (.invokevirtual 81, 3) := by decide +kernel
theorem dL_exceptions_7 : decode cL_exceptions 7 = .ok (.i2l, 1) := by decide +kernel
theorem dL_exceptions_8 : decode cL_exceptions 8 = .ok (.lastore, 1) := by decide +kernel
theorem dL_exceptions_9 : decode cL_exceptions 9 = .ok (.goto 6, 3) := by decide +kernel
theorem dL_exceptions_12 : decode cL_exceptions 12 = .ok (.astore_n 3, 1) := by decide +kernel
theorem dL_exceptions_13 : decode cL_exceptions 13 = .ok (.iconst 1, 1) := by decide +kernel
theorem dL_exceptions_14 : decode cL_exceptions 14 = .ok (.ireturn, 1) := by decide +kernel
theorem dL_exceptions_15 : decode cL_exceptions 15 = .ok (.iconst 0, 1) := by decide +kernel
theorem dL_exceptions_16 : decode cL_exceptions 16 = .ok (.ireturn, 1) := by decide +kernel
set_option maxRecDepth 20000 in
theorem ggL_isRisky_X0_isRisky : GoodIn wsL_isRisky wsX0_isRisky := goodIn_ca (goodIn_r _ [6, 7, 8, 9, 10, 11, 12, 13, 5, 14, 15, 16, 17, 18, 19, 20, 21, 22, 23, 24, 25, 26, 27, 28, 29, 30, 31, 32, 33, 34, 35, 36, 37, 38, 39, 40, 41, 42, 43] (by decide +kernel) (by decide +kernel)) (goodIn_sub (fun _ h => List.mem_cons_of_mem _ (List.mem_append_right _ h)) (by decide +kernel))
set_option maxRecDepth 20000 in
theorem gL_isRisky_X0_isRisky : GoodIn wsL_isRisky (wsV RL 84 RX0 yX0_isRisky wsX0_isRisky) := goodIn_app (goodIn_of _ (by decide +kernel)) ggL_isRisky_X0_isRisky
theorem dL_isRisky_0 : decode cL_isRisky 0 = .ok (.aload_n 2, 1) := by decide +kernel
theorem dL_isRisky_1 : decode cL_isRisky 1 = .ok (.iconst 0, 1) := by decide +kernel
theorem dL_isRisky_2 : decode cL_isRisky 2 = .ok (.aload_n 0, 1) := by decide +kernel
theorem dL_isRisky_3 : decode cL_isRisky 3 = .ok (.iload_n 1, 1) := by decide +kernel
theorem dL_isRisky_4 : decode cL_isRisky 4 = .ok (.invokevirtual 84, 3) := by decide +kernel
theorem dL_isRisky_7 : decode cL_isRisky 7 = .ok (.ifCond .eq 7, 3) := by decide +kernel
theorem dL_isRisky_10 : decode cL_isRisky 10 = .ok (.lconst 1, 1) := by decide +kernel
theorem dL_isRisky_11 : decode cL_isRisky 11 = .ok (.goto 4, 3) := by decide +kernel
theorem dL_isRisky_14 : decode cL_isRisky 14 = .ok (.lconst 0, 1) := by decide +kernel
theorem dL_isRisky_15 : decode cL_isRisky 15 = .ok (.lastore, 1) := by decide +kernel
theorem dL_isRisky_16 : decode cL_isRisky 16 = .ok (.goto 6, 3) := by decide +kernel
theorem dL_isRisky_19 : decode cL_isRisky 19 = .ok (.astore_n 3, 1) := by decide +kernel
theorem dL_isRisky_20 : decode cL_isRisky 20 = .ok (.iconst 1, 1) := by decide +kernel
theorem dL_isRisky_21 : decode cL_isRisky 21 = .ok (.ireturn, 1) := by decide +kernel
theorem dL_isRisky_22 : decode cL_isRisky 22 = .ok (.iconst 0, 1) := by decide +kernel
theorem dL_isRisky_23 : decode cL_isRisky 23 = .ok (.ireturn, 1) := by decide +kernel
end
section
-- the row at an index, when the index lies in it
def ix {α : Type} (i : Int32) (n : Nat) (A : Option α) : Option α := if ¬ (i < 0 ∨ n ≤ i.toNatClampNeg) then A else none
theorem ix_some {α : Type} {i : Int32} {n : Nat} {A : Option α} {r : α} (h : ix i n A = some r) : vp_in i n ∧ A = some r := by
  unfold ix at h
  split at h
  · next h1 => exact ⟨h1, h⟩
  · cases h
theorem ix_in {α : Type} {i : Int32} {n : Nat} {A : Option α} (h : vp_in i n) : ix i n A = A := if_pos h
def bnd0 {α : Type} (e : Option Unit) (f : Option α) : Option α := match e with
  | none => none
  | some _ => f
def bnd1 {α β : Type} (e : Option β) (f : β → Option α) : Option α := match e with
  | none => none
  | some x => f x
def bnd2 {α β γ : Type} (e : Option (β × γ)) (f : β → γ → Option α) : Option α := match e with
  | none => none
  | some x => f x.1 x.2
def bnd3 {α β γ δ : Type} (e : Option (β × γ × δ)) (f : β → γ → δ → Option α) : Option α := match e with
  | none => none
  | some x => f x.1 x.2.1 x.2.2
def bnd4 {α a1 a2 a3 a4 : Type} (e : Option (a1 × a2 × a3 × a4)) (f : a1 → a2 → a3 → a4 → Option α) : Option α := match e with
  | none => none
  | some x => f x.1 x.2.1 x.2.2.1 x.2.2.2
def bnd6 {α a1 a2 a3 a4 a5 a6 : Type} (e : Option (a1 × a2 × a3 × a4 × a5 × a6)) (f : a1 → a2 → a3 → a4 → a5 → a6 → Option α) : Option α := match e with
  | none => none
  | some x => f x.1 x.2.1 x.2.2.1 x.2.2.2.1 x.2.2.2.2.1 x.2.2.2.2.2
theorem bnd0_some {α : Type} {e : Option Unit} {f : Option α} {r : α} (h : bnd0 e f = some r) : e = some () ∧ f = some r := by
  cases e with
  | none => cases h
  | some x => exact ⟨rfl, h⟩
theorem bnd1_some {α β : Type} {e : Option β} {f : β → Option α} {r : α} (h : bnd1 e f = some r) : ∃ x, e = some x ∧ f x = some r := by
  cases e with
  | none => cases h
  | some x => exact ⟨x, rfl, h⟩
theorem bnd2_some {α β γ : Type} {e : Option (β × γ)} {f : β → γ → Option α} {r : α} (h : bnd2 e f = some r) : ∃ x y, e = some (x, y) ∧ f x y = some r := by
  cases e with
  | none => cases h
  | some x => exact ⟨x.1, x.2, rfl, h⟩
theorem bnd3_some {α β γ δ : Type} {e : Option (β × γ × δ)} {f : β → γ → δ → Option α} {r : α} (h : bnd3 e f = some r) : ∃ x y z, e = some (x, y, z) ∧ f x y z = some r := by
  cases e with
  | none => cases h
  | some x => exact ⟨x.1, x.2.1, x.2.2, rfl, h⟩
theorem bnd4_some {α a1 a2 a3 a4 : Type} {e : Option (a1 × a2 × a3 × a4)} {f : a1 → a2 → a3 → a4 → Option α} {r : α} (h : bnd4 e f = some r) : ∃ x1 x2 x3 x4, e = some (x1, x2, x3, x4) ∧ f x1 x2 x3 x4 = some r := by
  cases e with
  | none => cases h
  | some x => exact ⟨x.1, x.2.1, x.2.2.1, x.2.2.2, rfl, h⟩
theorem bnd6_some {α a1 a2 a3 a4 a5 a6 : Type} {e : Option (a1 × a2 × a3 × a4 × a5 × a6)} {f : a1 → a2 → a3 → a4 → a5 → a6 → Option α} {r : α} (h : bnd6 e f = some r) : ∃ x1 x2 x3 x4 x5 x6, e = some (x1, x2, x3, x4, x5, x6) ∧ f x1 x2 x3 x4 x5 x6 = some r := by
  cases e with
  | none => cases h
  | some x => exact ⟨x.1, x.2.1, x.2.2.1, x.2.2.2.1, x.2.2.2.2.1, x.2.2.2.2.2, rfl, h⟩
abbrev bx_Post (D : va_G) (tys : List (ClassId × FieldType)) (ws : va_W) (A : Nat → Prop) (t : State) : Prop := va_P D vwCl ws t.heap ∧ va_K D vwCl tys t ∧ va_D A ws
abbrev bx_Pre (D : va_G) (tys : List (ClassId × FieldType)) (ws : va_W) (sz : Nat) (U : State) : Prop := U.heap.size = sz ∧ va_P D vwCl ws U.heap ∧ va_K D vwCl tys U ∧ va_D (fun _ => True) ws
theorem bx_blind {av : List Value} {D : va_G} {tys : List (ClassId × FieldType)} {ws : va_W} {sz : Nat} : FrameBlind (va_Pc av (bx_Pre D tys ws sz)) := fun a U g mk q => by
  obtain ⟨q0, q1, qP, qK, qD⟩ := q
  exact ⟨q0, q1, qP, va_K.moved (u := U) (U := U.calling g mk a) (Vm.Alike.refl U.vm) qK, qD⟩
theorem cl_cut {D : va_G} {ws wc : va_W} {H : Heap} {isC : List Nat} (hP : va_P D vwCl ws H) (hC : isC.map (fun i => ws[i]?) = wc.map some) : va_P D vwCl wc H := by
  intro k q hq
  have h1 : (isC.map (fun i => ws[i]?))[k]? = some (some q) := by rw [hC, List.getElem?_map, hq]; rfl
  rw [List.getElem?_map] at h1
  cases hi : isC[k]? with
  | none => rw [hi] at h1; cases h1
  | some i => rw [hi] at h1; exact hP i q (Option.some.inj h1)
section
variable {p : Program} {l : Launch} {e : Env} {R : Room} {s : State} {m : MethodId} {args : Array Value} {below : List Frame} {meth : Method} {c : Code} {H : Heap} {locs : List Loc} {cells slots : Nat} {Q : State → Prop}
  {Ts wsY ws' : List Cond} {cc bytes : ByteArray} {nL maxL index n : Nat} {own C : String} {y : MethodName} {ret : Option FieldType} {rm : Room} {b ci : Nat} {As rest st0 : List Value} {D : va_G} {ws wc wr w1 : va_W} {tys tysc : List (ClassId × FieldType)} {A : Nat → Prop} {H0 : Heap} {pc : Nat} {ls : Array Slot} {fs : List Value} {q : vw_C}
/-- a static call that reads and writes no cell -/
theorem cl_Si0 {r0 : Int32} (SF : CallFix p m c cc nL s args Ts own)
    (hM : Met l y wsY rm (va_Pc As (bx_Pre D [] [] H.size)) (va_Qi (fun (r : Int32) (_ : Unit) => r = r0) (fun (_ : Unit) t => bx_Post D [] [] (va_A [] H.size) t) (va_A [] H.size)) 0 0 (va_A [] H.size))
    (cw : CallB R s args own index y bytes maxL ret wsY rm 0 0 n ∧ (Cond.static y).before args s = true)
    (hK : va_K D vwCl tys s) (hP : va_P D vwCl ws H) (hD : va_D A ws) (hS : va_S A H0 H locs) (hA : ∀ q, H0.size ≤ q → A q)
    (hg : (F0 m pc ls st0).method = m) (hn : As.length = n) (hsize : (F0 m pc ls st0).locals.size = nL) (hst : (F0 m pc ls st0).stack = As.reverse ++ rest) (hW : 2 * (F0 m pc ls st0).monitorRoom + (rest.map fun v => v.category).sum ≤ 8) (hdg : decode cc pc = .ok (.invokestatic index, 3))
    (kk : ∀ (H1 : Heap) (locs1 : List Loc), va_P D vwCl ws H1 → va_D A ws → va_S A H0 H1 locs1 → W p l e R s m args below meth c H1 locs1 0 0 Q (F0 m (pc + 3) ls (.int r0 :: rest))) : W p l e R s m args below meth c H locs 0 0 Q (F0 m pc ls st0) := by
  have hFc := va_free (wc := []) hD hS hA [] rfl
  have hKc := hK.sub (tys' := []) [] rfl
  have hPc : va_P D vwCl [] H := fun k q h => by simp at h
  have hDc : va_D (fun _ => True) [] := ⟨fun i j p q h => by simp at h, fun k q h => by simp at h⟩
  refine va_calli (va_runS (As := As) (rest := rest) SF hM cw ⟨bx_blind, fun U hU hW => ⟨rfl, by rw [hU], by rw [hU]; exact hPc, va_K.moved hW.alike hKc, hDc⟩⟩ hg hn hsize hst hW hdg ⟨Nat.zero_le _, Nat.zero_le _⟩) hS (fun q _ h => hFc q h) hFc (fun r u t H1 locs1 ht hvm hw hB hz1 hk1 hS => ?_)
  have hw : r = r0 := hw
  subst hw
  refine kk H1 locs1 (hP.kept (fun k q hk => hk1 q.1 (hP k q hk).lt ?_)) hD hS
  rintro (⟨k9, e9, h9⟩ | h9)
  · simp at h9
  · exact absurd (hP k q hk).lt (Nat.not_lt.mpr h9)
/-- a static call that reads and writes no cell -/
theorem cl_Sl0 {r0 : Int64} (SF : CallFix p m c cc nL s args Ts own)
    (hM : Met l y wsY rm (va_Pc As (bx_Pre D [] [] H.size)) (va_Ql (fun (r : Int64) (_ : Unit) => r = r0) (fun (_ : Unit) t => bx_Post D [] [] (va_A [] H.size) t) (va_A [] H.size)) 0 0 (va_A [] H.size))
    (cw : CallB R s args own index y bytes maxL ret wsY rm 0 0 n ∧ (Cond.static y).before args s = true)
    (hK : va_K D vwCl tys s) (hP : va_P D vwCl ws H) (hD : va_D A ws) (hS : va_S A H0 H locs) (hA : ∀ q, H0.size ≤ q → A q)
    (hg : (F0 m pc ls st0).method = m) (hn : As.length = n) (hsize : (F0 m pc ls st0).locals.size = nL) (hst : (F0 m pc ls st0).stack = As.reverse ++ rest) (hW : 2 * (F0 m pc ls st0).monitorRoom + (rest.map fun v => v.category).sum ≤ 8) (hdg : decode cc pc = .ok (.invokestatic index, 3))
    (kk : ∀ (H1 : Heap) (locs1 : List Loc), va_P D vwCl ws H1 → va_D A ws → va_S A H0 H1 locs1 → W p l e R s m args below meth c H1 locs1 0 0 Q (F0 m (pc + 3) ls (.long r0 :: rest))) : W p l e R s m args below meth c H locs 0 0 Q (F0 m pc ls st0) := by
  have hFc := va_free (wc := []) hD hS hA [] rfl
  have hKc := hK.sub (tys' := []) [] rfl
  have hPc : va_P D vwCl [] H := fun k q h => by simp at h
  have hDc : va_D (fun _ => True) [] := ⟨fun i j p q h => by simp at h, fun k q h => by simp at h⟩
  refine va_calll (va_runS (As := As) (rest := rest) SF hM cw ⟨bx_blind, fun U hU hW => ⟨rfl, by rw [hU], by rw [hU]; exact hPc, va_K.moved hW.alike hKc, hDc⟩⟩ hg hn hsize hst hW hdg ⟨Nat.zero_le _, Nat.zero_le _⟩) hS (fun q _ h => hFc q h) hFc (fun r u t H1 locs1 ht hvm hw hB hz1 hk1 hS => ?_)
  have hw : r = r0 := hw
  subst hw
  refine kk H1 locs1 (hP.kept (fun k q hk => hk1 q.1 (hP k q hk).lt ?_)) hD hS
  rintro (⟨k9, e9, h9⟩ | h9)
  · simp at h9
  · exact absurd (hP k q hk).lt (Nat.not_lt.mpr h9)
theorem cl_Vi {r0 : Int32} {TC : u_T} {NC : Nat} (SF : CallFix p m c cc nL s args Ts own)
    (hM : Met l y wsY rm (va_Pc (.ref b :: As) (bx_Pre D tys wc H.size)) (va_Qi (fun (r : Int32) (_ : Unit) => r = r0) (fun (_ : Unit) t => bx_Post D tys w1 (va_A wc H.size) t) (va_A wc H.size)) 0 0 (va_A wc H.size))
    (cw : CallW R s args own C index y bytes maxL ret wsY rm 0 0 n)
    (hK : va_K D vwCl tys s) (hP : va_P D vwCl ws H) (hD : va_D A ws) (hS : va_S A H0 H locs) (hA : ∀ q, H0.size ≤ q → A q)
    (isC isR : List Nat) (hC : isC.map (fun i => ws[i]?) = wc.map some) (hR : isR.map (fun i => ws[i]?) = wr.map some) (hnR : va_nd isR = true) (hdis : ∀ i ∈ isR, i ∉ isC) (hnC : va_nd isC = true) (hq : vwCl[ci]? = some (C, TC, NC)) (he : wc[0]? = some (b, .inr (ci, fs))) 
    (hg : (F0 m pc ls st0).method = m) (hn : As.length = n) (hsize : (F0 m pc ls st0).locals.size = nL) (hst : (F0 m pc ls st0).stack = As.reverse ++ .ref b :: rest) (hW : 2 * (F0 m pc ls st0).monitorRoom + (rest.map fun v => v.category).sum ≤ 8) (hdg : decode cc pc = .ok (.invokevirtual index, 3))
    (kk : ∀ (H1 : Heap) (locs1 : List Loc), va_P D vwCl (wr ++ w1) H1 → va_D A (wr ++ w1) → va_S A H0 H1 locs1 → W p l e R s m args below meth c H1 locs1 0 0 Q (F0 m (pc + 3) ls (.int r0 :: rest))) : W p l e R s m args below meth c H locs 0 0 Q (F0 m pc ls st0) := by
  have hFc := va_free (wc := wc) hD hS hA isC hC
  have hDc := hD.sub (ws' := wc) isC hnC hC
  have hPc : va_P D vwCl wc H := cl_cut hP hC
  refine va_calli (va_runV (As := As) (rest := rest) SF hM cw ⟨bx_blind, va_recv hK hPc hq he, fun U hU hW => ⟨rfl, by rw [hU], by rw [hU]; exact hPc, va_K.moved hW.alike hK, hDc.weaken (fun _ _ _ _ => trivial)⟩⟩ hg hn hsize hst hW hdg ⟨Nat.zero_le _, Nat.zero_le _⟩) hS (fun q _ h => hFc q h) hFc (fun r u t H1 locs1 ht hvm hw hB hz1 hk1 hS => ?_)
  have hw : r = r0 := hw
  subst hw
  obtain ⟨hP1, hK1, hD1⟩ := hB
  rw [ht] at hP1
  obtain ⟨hP2, hD2⟩ := va_join (wr := wr) (w1 := w1) hP hD isC isR hC hR hnR hdis hk1 hFc hP1 hD1
  exact kk H1 locs1 hP2 hD2 hS
theorem cl_Vv {TC : u_T} {NC : Nat} (SF : CallFix p m c cc nL s args Ts own)
    (hM : Met l y wsY rm (va_Pc (.ref b :: As) (bx_Pre D tys wc H.size)) (va_Qv (fun (_ : Unit) => True) (fun (_ : Unit) t => bx_Post D tys w1 (va_A wc H.size) t) (va_A wc H.size)) 0 0 (va_A wc H.size))
    (cw : CallW R s args own C index y bytes maxL ret wsY rm 0 0 n)
    (hK : va_K D vwCl tys s) (hP : va_P D vwCl ws H) (hD : va_D A ws) (hS : va_S A H0 H locs) (hA : ∀ q, H0.size ≤ q → A q)
    (isC isR : List Nat) (hC : isC.map (fun i => ws[i]?) = wc.map some) (hR : isR.map (fun i => ws[i]?) = wr.map some) (hnR : va_nd isR = true) (hdis : ∀ i ∈ isR, i ∉ isC) (hnC : va_nd isC = true) (hq : vwCl[ci]? = some (C, TC, NC)) (he : wc[0]? = some (b, .inr (ci, fs))) 
    (hg : (F0 m pc ls st0).method = m) (hn : As.length = n) (hsize : (F0 m pc ls st0).locals.size = nL) (hst : (F0 m pc ls st0).stack = As.reverse ++ .ref b :: rest) (hW : 2 * (F0 m pc ls st0).monitorRoom + (rest.map fun v => v.category).sum ≤ 8) (hdg : decode cc pc = .ok (.invokevirtual index, 3))
    (kk : ∀ (H1 : Heap) (locs1 : List Loc), va_P D vwCl (wr ++ w1) H1 → va_D A (wr ++ w1) → va_S A H0 H1 locs1 → W p l e R s m args below meth c H1 locs1 0 0 Q (F0 m (pc + 3) ls (rest))) : W p l e R s m args below meth c H locs 0 0 Q (F0 m pc ls st0) := by
  have hFc := va_free (wc := wc) hD hS hA isC hC
  have hDc := hD.sub (ws' := wc) isC hnC hC
  have hPc : va_P D vwCl wc H := cl_cut hP hC
  refine va_callv (va_runV (As := As) (rest := rest) SF hM cw ⟨bx_blind, va_recv hK hPc hq he, fun U hU hW => ⟨rfl, by rw [hU], by rw [hU]; exact hPc, va_K.moved hW.alike hK, hDc.weaken (fun _ _ _ _ => trivial)⟩⟩ hg hn hsize hst hW hdg ⟨Nat.zero_le _, Nat.zero_le _⟩) hS (fun q _ h => hFc q h) hFc (fun u t H1 locs1 ht hvm hw hB hz1 hk1 hS => ?_)
  have _ := hw
  obtain ⟨hP1, hK1, hD1⟩ := hB
  rw [ht] at hP1
  obtain ⟨hP2, hD2⟩ := va_join (wr := wr) (w1 := w1) hP hD isC isR hC hR hnR hdis hk1 hFc hP1 hD1
  exact kk H1 locs1 hP2 hD2 hS
theorem cl_Si {r0 : Int32} (SF : CallFix p m c cc nL s args Ts own)
    (hM : Met l y wsY rm (va_Pc As (bx_Pre D tys wc H.size)) (va_Qi (fun (r : Int32) (_ : Unit) => r = r0) (fun (_ : Unit) t => bx_Post D tys w1 (va_A wc H.size) t) (va_A wc H.size)) 0 0 (va_A wc H.size))
    (cw : CallB R s args own index y bytes maxL ret wsY rm 0 0 n ∧ (Cond.static y).before args s = true)
    (hK : va_K D vwCl tys s) (hP : va_P D vwCl ws H) (hD : va_D A ws) (hS : va_S A H0 H locs) (hA : ∀ q, H0.size ≤ q → A q)
    (isC isR : List Nat) (hC : isC.map (fun i => ws[i]?) = wc.map some) (hR : isR.map (fun i => ws[i]?) = wr.map some) (hnR : va_nd isR = true) (hdis : ∀ i ∈ isR, i ∉ isC) (hnC : va_nd isC = true) 
    (hg : (F0 m pc ls st0).method = m) (hn : As.length = n) (hsize : (F0 m pc ls st0).locals.size = nL) (hst : (F0 m pc ls st0).stack = As.reverse ++ rest) (hW : 2 * (F0 m pc ls st0).monitorRoom + (rest.map fun v => v.category).sum ≤ 8) (hdg : decode cc pc = .ok (.invokestatic index, 3))
    (kk : ∀ (H1 : Heap) (locs1 : List Loc), va_P D vwCl (wr ++ w1) H1 → va_D A (wr ++ w1) → va_S A H0 H1 locs1 → W p l e R s m args below meth c H1 locs1 0 0 Q (F0 m (pc + 3) ls (.int r0 :: rest))) : W p l e R s m args below meth c H locs 0 0 Q (F0 m pc ls st0) := by
  have hFc := va_free (wc := wc) hD hS hA isC hC
  have hDc := hD.sub (ws' := wc) isC hnC hC
  have hPc : va_P D vwCl wc H := cl_cut hP hC
  refine va_calli (va_runS (As := As) (rest := rest) SF hM cw ⟨bx_blind, fun U hU hW => ⟨rfl, by rw [hU], by rw [hU]; exact hPc, va_K.moved hW.alike hK, hDc.weaken (fun _ _ _ _ => trivial)⟩⟩ hg hn hsize hst hW hdg ⟨Nat.zero_le _, Nat.zero_le _⟩) hS (fun q _ h => hFc q h) hFc (fun r u t H1 locs1 ht hvm hw hB hz1 hk1 hS => ?_)
  have hw : r = r0 := hw
  subst hw
  obtain ⟨hP1, hK1, hD1⟩ := hB
  rw [ht] at hP1
  obtain ⟨hP2, hD2⟩ := va_join (wr := wr) (w1 := w1) hP hD isC isR hC hR hnR hdis hk1 hFc hP1 hD1
  exact kk H1 locs1 hP2 hD2 hS
end
def xi_0 : MethodName := ⟨"java/lang/RuntimeException", "<init>", "(Ljava/lang/String;)V"⟩
def xi_1 : MethodName := ⟨"java/lang/Exception", "<init>", "(Ljava/lang/String;)V"⟩
def xi_2 : MethodName := ⟨"java/lang/Throwable", "<init>", "(Ljava/lang/String;)V"⟩
/-- what a throw needs of the machine beside the words of the method itself: three casts, two statics, the texts -/
def xThr (A : Nat → Prop) (U : State) : Prop := (va_Nw (.castable "java/lang/IndexOutOfBoundsException" "java/lang/IndexOutOfBoundsException") U ∧ va_Nw (.castable "java/lang/IllegalArgumentException" "java/lang/IllegalArgumentException") U ∧ va_Nw (.castable "java/lang/IllegalStateException" "java/lang/IllegalStateException") U ∧ va_Nw (.declares xi_0) U ∧ va_Nw (.declares xi_1) U ∧ va_Nw (.declares xi_2) U) ∧ (vx_Zq Bundle.tN "UNASSIGNED_STACK" Bundle.steD A U U.heap ∧ vx_Zq Bundle.tN "SUPPRESSED_SENTINEL" Bundle.listD A U U.heap) ∧ (∃ sa, vk_R RX0 69 "no such user or permission" sa U) ∧ (∃ sa, vk_R RX0 82 "no such user" sa U) ∧ (∃ sa, vk_R RX0 89 "permissions is not 0 to 4095" sa U) ∧ (∃ sa, vk_R RX0 98 "no such permission" sa U) ∧ (∃ sa, vk_R RX0 100 "both permissions are the same" sa U) ∧ (∃ sa, vk_R RX0 105 "a cost is not 0 to 100" sa U) ∧ (∃ sa, vk_R RX0 107 "the support is not 1 to 8" sa U) ∧ (∃ sa, vk_R RX0 109 "the period is not 1 to 8" sa U) ∧ (∃ sa, vk_R RX0 113 "the permission is not granted" sa U) ∧ (∃ sa, vk_R RX0 116 "the quarter is 100" sa U) ∧ (∃ sa, vk_R RX0 138 "more than 14 candidates" sa U) ∧ (∃ sa, vk_R RX0 147 "no such candidate" sa U) ∧ (∃ sa, vk_R RX0 152 "the choice has a bit of no candidate" sa U) ∧ (∃ sa, vk_R RX0 154 "no such role" sa U)
abbrev bx_PreT (D : va_G) (tys : List (ClassId × FieldType)) (ws : va_W) (sz : Nat) (U : State) : Prop := U.heap.size = sz ∧ va_P D vwCl ws U.heap ∧ va_K D vwCl tys U ∧ va_D (fun _ => True) ws ∧ xThr (va_A ws sz) U
theorem xt_hat {args : Array Value} {s : State} {L Ts : List Cond} {X : String} (hts : ∀ w ∈ Ts, w.before args s = true) (h1 : ∀ w ∈ L.filter goodWord, w ∈ Ts) (h2 : ∀ w ∈ L.filter (fun w => !goodWord w), w ∈ [Cond.castable X X, .declares xi_0, .declares xi_1, .declares xi_2]) (hc : va_Nw (.castable X X) s) (h0 : va_Nw (.declares xi_0) s) (h1b : va_Nw (.declares xi_1) s) (h2b : va_Nw (.declares xi_2) s) : ∀ w ∈ L, w.before args s = true :=
  vx_hat (B := [Cond.castable X X, .declares xi_0, .declares xi_1, .declares xi_2]) (fun w hw => hts w (h1 w hw)) h2 (fun w hw => by
    simp only [List.mem_cons, List.not_mem_nil, or_false] at hw
    rcases hw with rfl | rfl | rfl | rfl
    · exact va_Nw.use (A := args) rfl hc
    · exact va_Nw.use (A := args) rfl h0
    · exact va_Nw.use (A := args) rfl h1b
    · exact va_Nw.use (A := args) rfl h2b)
set_option maxRecDepth 20000 in
theorem xo_71 : ∀ w ∈ (vx_atS RX0 71 "java/lang/IndexOutOfBoundsException" ["java/lang/RuntimeException", "java/lang/Exception"]).filter (fun w => !goodWord w), w ∈ [Cond.castable "java/lang/IndexOutOfBoundsException" "java/lang/IndexOutOfBoundsException", .declares xi_0, .declares xi_1, .declares xi_2] := by decide +kernel
set_option maxRecDepth 20000 in
theorem xg_71 : ∀ w ∈ Cond.classLink RX0 67 "java/lang/IndexOutOfBoundsException" :: Cond.initialized "java/lang/IndexOutOfBoundsException" :: vx_atS RX0 71 "java/lang/IndexOutOfBoundsException" ["java/lang/RuntimeException", "java/lang/Exception"], vx_ot w = true := by decide +kernel
set_option maxRecDepth 20000 in
theorem xo_91 : ∀ w ∈ (vx_atS RX0 91 "java/lang/IllegalArgumentException" ["java/lang/RuntimeException", "java/lang/Exception"]).filter (fun w => !goodWord w), w ∈ [Cond.castable "java/lang/IllegalArgumentException" "java/lang/IllegalArgumentException", .declares xi_0, .declares xi_1, .declares xi_2] := by decide +kernel
set_option maxRecDepth 20000 in
theorem xg_91 : ∀ w ∈ Cond.classLink RX0 87 "java/lang/IllegalArgumentException" :: Cond.initialized "java/lang/IllegalArgumentException" :: vx_atS RX0 91 "java/lang/IllegalArgumentException" ["java/lang/RuntimeException", "java/lang/Exception"], vx_ot w = true := by decide +kernel
set_option maxRecDepth 20000 in
theorem xo_115 : ∀ w ∈ (vx_atS RX0 115 "java/lang/IllegalStateException" ["java/lang/RuntimeException", "java/lang/Exception"]).filter (fun w => !goodWord w), w ∈ [Cond.castable "java/lang/IllegalStateException" "java/lang/IllegalStateException", .declares xi_0, .declares xi_1, .declares xi_2] := by decide +kernel
set_option maxRecDepth 20000 in
theorem xg_115 : ∀ w ∈ Cond.classLink RX0 111 "java/lang/IllegalStateException" :: Cond.initialized "java/lang/IllegalStateException" :: vx_atS RX0 115 "java/lang/IllegalStateException" ["java/lang/RuntimeException", "java/lang/Exception"], vx_ot w = true := by decide +kernel
abbrev wX (cI cJ : ClassId) (x0 x1 x2 x3 x4 x5 x6 x7 x8 x9 : Nat) (g : Nat → Int32) (rm : Nat → Int32) (op : Nat → Int32) (rc : Int32) (ec : Int32) (su : Int32) (pe : Int32) (qt : Int32) (rs : Nat → Int32) (rn : Int32) (cs : Nat → Int32) (cn : Int32) (lc : Nat → Int64) (hc : Nat → Int64) (lg : Nat → Int64) (hg : Nat → Int64) : va_W := [(x0, .inr (0, [.ref x1, .ref x2, .ref x3, .int rc, .int ec, .int su, .int pe, .int qt, .ref x4, .int rn, .ref x5, .int cn, .ref x6, .ref x7, .ref x8, .ref x9])), (x1, .inl (cI, 8, .inl g)), (x2, .inl (cI, 96, .inl rm)), (x3, .inl (cI, 12, .inl op)), (x4, .inl (cI, 255, .inl rs)), (x5, .inl (cI, 255, .inl cs)), (x6, .inl (cJ, 255, .inr (.inl lc))), (x7, .inl (cJ, 255, .inr (.inl hc))), (x8, .inl (cJ, 15, .inr (.inl lg))), (x9, .inl (cJ, 15, .inr (.inl hg)))]
abbrev wY (cI cJ : ClassId) (y0 y1 y2 y3 y4 y5 y6 y7 y8 : Nat) (hs : Nat → Int32) (si : Nat → Int32) (ag : Nat → Int32) (la : Nat → Int32) (fo : Nat → Int32) (co : Nat → Int32) (cv : Nat → Int32) (ta : Nat → Int32) (rc : Int32) (ec : Int32) (su : Int32) (pe : Int32) (ti : Int32) (mn : Int32) (nu : Int32) (th : Int32) : va_W := [(y0, .inr (1, [.ref y1, .ref y2, .ref y3, .ref y4, .ref y5, .ref y6, .ref y7, .ref y8, .int rc, .int ec, .int su, .int pe, .int ti, .int mn, .int nu, .int th])), (y1, .inl (cI, 8, .inl hs)), (y2, .inl (cI, 96, .inl si)), (y3, .inl (cI, 12, .inl ag)), (y4, .inl (cI, 256, .inl la)), (y5, .inl (cI, 256, .inl fo)), (y6, .inl (cI, 4096, .inl co)), (y7, .inl (cI, 8, .inl cv)), (y8, .inl (cI, 256, .inl ta))]
end
section
-- J6_bitCount_0f7a4
def m_J6_bitCount_0f7a4_s1 (x : Int32) : Int32 := (x - (((Int32.toUInt32 x >>> (Int32.toUInt32 1 &&& Int32.toUInt32 31)).toInt32) &&& 1431655765))
def m_J6_bitCount_0f7a4_s2 (x : Int32) : Int32 := ((x &&& 858993459) + (((Int32.toUInt32 x >>> (Int32.toUInt32 2 &&& Int32.toUInt32 31)).toInt32) &&& 858993459))
def m_J6_bitCount_0f7a4_s3 (x : Int32) : Int32 := ((x + ((Int32.toUInt32 x >>> (Int32.toUInt32 4 &&& Int32.toUInt32 31)).toInt32)) &&& 252645135)
def m_J6_bitCount_0f7a4_s4 (x : Int32) : Int32 := (x + ((Int32.toUInt32 x >>> (Int32.toUInt32 8 &&& Int32.toUInt32 31)).toInt32))
def m_J6_bitCount_0f7a4_s5 (x : Int32) : Int32 := (x + ((Int32.toUInt32 x >>> (Int32.toUInt32 16 &&& Int32.toUInt32 31)).toInt32))
def m_J6_bitCount_0f7a4 (a0 : Int32) : (Int32) := ((m_J6_bitCount_0f7a4_s5 (m_J6_bitCount_0f7a4_s4 (m_J6_bitCount_0f7a4_s3 (m_J6_bitCount_0f7a4_s2 (m_J6_bitCount_0f7a4_s1 a0))))) &&& 63)
set_option maxHeartbeats 4000000 in
set_option maxRecDepth 100000 in
theorem c_J6_bitCount_0f7a4 (l : Launch) (D : va_G) (sz : Nat) (a0 : Int32) : Met l yJ6_bitCount_0f7a4 wsJ6_bitCount_0f7a4 ({ frames := 0, cells := 0, slots := 0, locals := 0 }) (va_Pc [.int a0] (bx_Pre D [] ([]) sz)) (va_Qi (fun (r : Int32) (_ : Unit) => r = m_J6_bitCount_0f7a4 a0) (fun (_ : Unit) t => bx_Post D [] ([]) (va_A ([]) sz) t) (va_A ([]) sz)) 0 0 (va_A ([]) sz) := by
  refine Met.ofW (cc := cJ6_bitCount_0f7a4) (maxL := 1) (ret := (some .int)) (by decide) rfl ?_
  intro p e s m args below meth c s₁ B hml hv
  obtain ⟨rfl, hsz, hP, hK, hD0⟩ := hv
  have hx := B.exec
  have hb := B.bytes
  have hr := B.returns
  have hts := atoms_spec (ws := wsJ6_bitCount_0f7a4) B.pre
  have hown : s.vm.findClass RJ6 = some m.cls := findClass_of_methodNamed B.named
  have hlocks := B.notSynchronized
  subst hsz
  have hD := hD0.self (sz := s.heap.size)
  generalize hAe : va_A ([]) s.heap.size = A at hD ⊢
  have hA : ∀ q : Nat, s.heap.size ≤ q → A q := fun q h9 => by rw [← hAe]; exact Or.inr h9
  have hS : va_S A s.heap s.heap [] := va_S.rf
  have hw_0 := hts (.constant RJ6 265 (1431655765)) (by decide +kernel)
  have hw_1 := hts (.constant RJ6 266 (858993459)) (by decide +kernel)
  have hw_2 := hts (.constant RJ6 267 (252645135)) (by decide +kernel)
  have hl := lv_entry ([.int a0]) (n := 1) (Nat.le_of_ble_eq_true rfl)
  rw [lg_entry_eq]
  generalize (lg_sl ([.int a0]) ++ List.replicate (1 - (lg_sl ([.int a0])).length) Slot.unset).toArray = ls at hl ⊢
  have hl : lv_has ls 1 [(0, .int a0)] := hl
  refine lv_iload_n hx hb dJ6_bitCount_0f7a4_0 rfl (lv_at hl 0 rfl) ?_
  refine lv_iload_n hx hb dJ6_bitCount_0f7a4_1 rfl (lv_at hl 0 rfl) ?_
  refine lv_iconst (v := 1) hx hb dJ6_bitCount_0f7a4_2 (by decide) ?_
  refine lv_iushr (v := (Int32.toUInt32 a0 >>> (Int32.toUInt32 1 &&& Int32.toUInt32 31)).toInt32) hx hb dJ6_bitCount_0f7a4_3 rfl ?_
  refine lv_ldcw hx hb hown hw_0 dJ6_bitCount_0f7a4_4 ?_
  refine lv_iand hx hb dJ6_bitCount_0f7a4_7 ?_
  refine lv_isub hx hb dJ6_bitCount_0f7a4_8 ?_
  refine lv_istore_n (lv' := [(0, .int (m_J6_bitCount_0f7a4_s1 a0))]) hx hb dJ6_bitCount_0f7a4_9 rfl hl (by decide) rfl (fun ls hl => ?_)
  refine lv_iload_n hx hb dJ6_bitCount_0f7a4_10 rfl (lv_at hl 0 rfl) ?_
  refine lv_ldcw hx hb hown hw_1 dJ6_bitCount_0f7a4_11 ?_
  refine lv_iand hx hb dJ6_bitCount_0f7a4_14 ?_
  refine lv_iload_n hx hb dJ6_bitCount_0f7a4_15 rfl (lv_at hl 0 rfl) ?_
  refine lv_iconst (v := 2) hx hb dJ6_bitCount_0f7a4_16 (by decide) ?_
  refine lv_iushr (v := (Int32.toUInt32 (m_J6_bitCount_0f7a4_s1 a0) >>> (Int32.toUInt32 2 &&& Int32.toUInt32 31)).toInt32) hx hb dJ6_bitCount_0f7a4_17 rfl ?_
  refine lv_ldcw hx hb hown hw_1 dJ6_bitCount_0f7a4_18 ?_
  refine lv_iand hx hb dJ6_bitCount_0f7a4_21 ?_
  refine lv_iadd hx hb dJ6_bitCount_0f7a4_22 ?_
  refine lv_istore_n (lv' := [(0, .int (m_J6_bitCount_0f7a4_s2 (m_J6_bitCount_0f7a4_s1 a0)))]) hx hb dJ6_bitCount_0f7a4_23 rfl hl (by decide) rfl (fun ls hl => ?_)
  refine lv_iload_n hx hb dJ6_bitCount_0f7a4_24 rfl (lv_at hl 0 rfl) ?_
  refine lv_iload_n hx hb dJ6_bitCount_0f7a4_25 rfl (lv_at hl 0 rfl) ?_
  refine lv_iconst (v := 4) hx hb dJ6_bitCount_0f7a4_26 (by decide) ?_
  refine lv_iushr (v := (Int32.toUInt32 (m_J6_bitCount_0f7a4_s2 (m_J6_bitCount_0f7a4_s1 a0)) >>> (Int32.toUInt32 4 &&& Int32.toUInt32 31)).toInt32) hx hb dJ6_bitCount_0f7a4_27 rfl ?_
  refine lv_iadd hx hb dJ6_bitCount_0f7a4_28 ?_
  refine lv_ldcw hx hb hown hw_2 dJ6_bitCount_0f7a4_29 ?_
  refine lv_iand hx hb dJ6_bitCount_0f7a4_32 ?_
  refine lv_istore_n (lv' := [(0, .int (m_J6_bitCount_0f7a4_s3 (m_J6_bitCount_0f7a4_s2 (m_J6_bitCount_0f7a4_s1 a0))))]) hx hb dJ6_bitCount_0f7a4_33 rfl hl (by decide) rfl (fun ls hl => ?_)
  refine lv_iload_n hx hb dJ6_bitCount_0f7a4_34 rfl (lv_at hl 0 rfl) ?_
  refine lv_iload_n hx hb dJ6_bitCount_0f7a4_35 rfl (lv_at hl 0 rfl) ?_
  refine lv_bipush (v := 8) hx hb dJ6_bitCount_0f7a4_36 (by decide) ?_
  refine lv_iushr (v := (Int32.toUInt32 (m_J6_bitCount_0f7a4_s3 (m_J6_bitCount_0f7a4_s2 (m_J6_bitCount_0f7a4_s1 a0))) >>> (Int32.toUInt32 8 &&& Int32.toUInt32 31)).toInt32) hx hb dJ6_bitCount_0f7a4_38 rfl ?_
  refine lv_iadd hx hb dJ6_bitCount_0f7a4_39 ?_
  refine lv_istore_n (lv' := [(0, .int (m_J6_bitCount_0f7a4_s4 (m_J6_bitCount_0f7a4_s3 (m_J6_bitCount_0f7a4_s2 (m_J6_bitCount_0f7a4_s1 a0)))))]) hx hb dJ6_bitCount_0f7a4_40 rfl hl (by decide) rfl (fun ls hl => ?_)
  refine lv_iload_n hx hb dJ6_bitCount_0f7a4_41 rfl (lv_at hl 0 rfl) ?_
  refine lv_iload_n hx hb dJ6_bitCount_0f7a4_42 rfl (lv_at hl 0 rfl) ?_
  refine lv_bipush (v := 16) hx hb dJ6_bitCount_0f7a4_43 (by decide) ?_
  refine lv_iushr (v := (Int32.toUInt32 (m_J6_bitCount_0f7a4_s4 (m_J6_bitCount_0f7a4_s3 (m_J6_bitCount_0f7a4_s2 (m_J6_bitCount_0f7a4_s1 a0)))) >>> (Int32.toUInt32 16 &&& Int32.toUInt32 31)).toInt32) hx hb dJ6_bitCount_0f7a4_45 rfl ?_
  refine lv_iadd hx hb dJ6_bitCount_0f7a4_46 ?_
  refine lv_istore_n (lv' := [(0, .int (m_J6_bitCount_0f7a4_s5 (m_J6_bitCount_0f7a4_s4 (m_J6_bitCount_0f7a4_s3 (m_J6_bitCount_0f7a4_s2 (m_J6_bitCount_0f7a4_s1 a0))))))]) hx hb dJ6_bitCount_0f7a4_47 rfl hl (by decide) rfl (fun ls hl => ?_)
  refine lv_iload_n hx hb dJ6_bitCount_0f7a4_48 rfl (lv_at hl 0 rfl) ?_
  refine lv_bipush (v := 63) hx hb dJ6_bitCount_0f7a4_49 (by decide) ?_
  refine lv_iand hx hb dJ6_bitCount_0f7a4_51 ?_
  exact W.iret hx hb hr (fun t ht hW => ⟨⟨_, (), rfl, (by rw [m_J6_bitCount_0f7a4]), by rw [ht]; exact hP, va_K.moved hW.alike hK, hD⟩, hS.F ht⟩) hS.2.2 dJ6_bitCount_0f7a4_52
-- J13_bitCount_95d88
def m_J13_bitCount_95d88_s1 (x : Int64) : Int64 := (x - (((Int64.toUInt64 x >>> (Int64.toUInt64 (Int32.toInt64 1) &&& Int64.toUInt64 63)).toInt64) &&& 6148914691236517205))
def m_J13_bitCount_95d88_s2 (x : Int64) : Int64 := ((x &&& 3689348814741910323) + (((Int64.toUInt64 x >>> (Int64.toUInt64 (Int32.toInt64 2) &&& Int64.toUInt64 63)).toInt64) &&& 3689348814741910323))
def m_J13_bitCount_95d88_s3 (x : Int64) : Int64 := ((x + ((Int64.toUInt64 x >>> (Int64.toUInt64 (Int32.toInt64 4) &&& Int64.toUInt64 63)).toInt64)) &&& 1085102592571150095)
def m_J13_bitCount_95d88_s4 (x : Int64) : Int64 := (x + ((Int64.toUInt64 x >>> (Int64.toUInt64 (Int32.toInt64 8) &&& Int64.toUInt64 63)).toInt64))
def m_J13_bitCount_95d88_s5 (x : Int64) : Int64 := (x + ((Int64.toUInt64 x >>> (Int64.toUInt64 (Int32.toInt64 16) &&& Int64.toUInt64 63)).toInt64))
def m_J13_bitCount_95d88_s6 (x : Int64) : Int64 := (x + ((Int64.toUInt64 x >>> (Int64.toUInt64 (Int32.toInt64 32) &&& Int64.toUInt64 63)).toInt64))
def m_J13_bitCount_95d88 (a0 : Int64) : (Int32) := ((Int64.toInt32 (m_J13_bitCount_95d88_s6 (m_J13_bitCount_95d88_s5 (m_J13_bitCount_95d88_s4 (m_J13_bitCount_95d88_s3 (m_J13_bitCount_95d88_s2 (m_J13_bitCount_95d88_s1 a0))))))) &&& 127)
set_option maxHeartbeats 4000000 in
set_option maxRecDepth 100000 in
theorem c_J13_bitCount_95d88 (l : Launch) (D : va_G) (sz : Nat) (a0 : Int64) : Met l yJ13_bitCount_95d88 wsJ13_bitCount_95d88 ({ frames := 0, cells := 0, slots := 0, locals := 0 }) (va_Pc [.long a0] (bx_Pre D [] ([]) sz)) (va_Qi (fun (r : Int32) (_ : Unit) => r = m_J13_bitCount_95d88 a0) (fun (_ : Unit) t => bx_Post D [] ([]) (va_A ([]) sz) t) (va_A ([]) sz)) 0 0 (va_A ([]) sz) := by
  refine Met.ofW (cc := cJ13_bitCount_95d88) (maxL := 2) (ret := (some .int)) (by decide) rfl ?_
  intro p e s m args below meth c s₁ B hml hv
  obtain ⟨rfl, hsz, hP, hK, hD0⟩ := hv
  have hx := B.exec
  have hb := B.bytes
  have hr := B.returns
  have hts := atoms_spec (ws := wsJ13_bitCount_95d88) B.pre
  have hown : s.vm.findClass RJ13 = some m.cls := findClass_of_methodNamed B.named
  have hlocks := B.notSynchronized
  subst hsz
  have hD := hD0.self (sz := s.heap.size)
  generalize hAe : va_A ([]) s.heap.size = A at hD ⊢
  have hA : ∀ q : Nat, s.heap.size ≤ q → A q := fun q h9 => by rw [← hAe]; exact Or.inr h9
  have hS : va_S A s.heap s.heap [] := va_S.rf
  have hw_0 := hts (.constantLong RJ13 314 (6148914691236517205)) (by decide +kernel)
  have hw_1 := hts (.constantLong RJ13 316 (3689348814741910323)) (by decide +kernel)
  have hw_2 := hts (.constantLong RJ13 318 (1085102592571150095)) (by decide +kernel)
  have hl := lv_entry ([.long a0]) (n := 2) (Nat.le_of_ble_eq_true rfl)
  rw [lg_entry_eq]
  generalize (lg_sl ([.long a0]) ++ List.replicate (2 - (lg_sl ([.long a0])).length) Slot.unset).toArray = ls at hl ⊢
  have hl : lv_has ls 2 [(0, .long a0)] := hl
  refine lv_lload_n hx hb dJ13_bitCount_95d88_0 rfl (lv_at hl 0 rfl) ?_
  refine lv_lload_n hx hb dJ13_bitCount_95d88_1 rfl (lv_at hl 0 rfl) ?_
  refine lv_iconst (v := 1) hx hb dJ13_bitCount_95d88_2 (by decide) ?_
  refine lv_lushr (v := (Int64.toUInt64 a0 >>> (Int64.toUInt64 (Int32.toInt64 1) &&& Int64.toUInt64 63)).toInt64) hx hb dJ13_bitCount_95d88_3 rfl ?_
  refine lv_ldc2 hx hb hown hw_0 dJ13_bitCount_95d88_4 ?_
  refine lv_land hx hb dJ13_bitCount_95d88_7 ?_
  refine lv_lsub hx hb dJ13_bitCount_95d88_8 ?_
  refine lv_lstore_n (lv' := [(0, .long (m_J13_bitCount_95d88_s1 a0))]) hx hb dJ13_bitCount_95d88_9 rfl hl (by decide) rfl (fun ls hl => ?_)
  refine lv_lload_n hx hb dJ13_bitCount_95d88_10 rfl (lv_at hl 0 rfl) ?_
  refine lv_ldc2 hx hb hown hw_1 dJ13_bitCount_95d88_11 ?_
  refine lv_land hx hb dJ13_bitCount_95d88_14 ?_
  refine lv_lload_n hx hb dJ13_bitCount_95d88_15 rfl (lv_at hl 0 rfl) ?_
  refine lv_iconst (v := 2) hx hb dJ13_bitCount_95d88_16 (by decide) ?_
  refine lv_lushr (v := (Int64.toUInt64 (m_J13_bitCount_95d88_s1 a0) >>> (Int64.toUInt64 (Int32.toInt64 2) &&& Int64.toUInt64 63)).toInt64) hx hb dJ13_bitCount_95d88_17 rfl ?_
  refine lv_ldc2 hx hb hown hw_1 dJ13_bitCount_95d88_18 ?_
  refine lv_land hx hb dJ13_bitCount_95d88_21 ?_
  refine lv_ladd hx hb dJ13_bitCount_95d88_22 ?_
  refine lv_lstore_n (lv' := [(0, .long (m_J13_bitCount_95d88_s2 (m_J13_bitCount_95d88_s1 a0)))]) hx hb dJ13_bitCount_95d88_23 rfl hl (by decide) rfl (fun ls hl => ?_)
  refine lv_lload_n hx hb dJ13_bitCount_95d88_24 rfl (lv_at hl 0 rfl) ?_
  refine lv_lload_n hx hb dJ13_bitCount_95d88_25 rfl (lv_at hl 0 rfl) ?_
  refine lv_iconst (v := 4) hx hb dJ13_bitCount_95d88_26 (by decide) ?_
  refine lv_lushr (v := (Int64.toUInt64 (m_J13_bitCount_95d88_s2 (m_J13_bitCount_95d88_s1 a0)) >>> (Int64.toUInt64 (Int32.toInt64 4) &&& Int64.toUInt64 63)).toInt64) hx hb dJ13_bitCount_95d88_27 rfl ?_
  refine lv_ladd hx hb dJ13_bitCount_95d88_28 ?_
  refine lv_ldc2 hx hb hown hw_2 dJ13_bitCount_95d88_29 ?_
  refine lv_land hx hb dJ13_bitCount_95d88_32 ?_
  refine lv_lstore_n (lv' := [(0, .long (m_J13_bitCount_95d88_s3 (m_J13_bitCount_95d88_s2 (m_J13_bitCount_95d88_s1 a0))))]) hx hb dJ13_bitCount_95d88_33 rfl hl (by decide) rfl (fun ls hl => ?_)
  refine lv_lload_n hx hb dJ13_bitCount_95d88_34 rfl (lv_at hl 0 rfl) ?_
  refine lv_lload_n hx hb dJ13_bitCount_95d88_35 rfl (lv_at hl 0 rfl) ?_
  refine lv_bipush (v := 8) hx hb dJ13_bitCount_95d88_36 (by decide) ?_
  refine lv_lushr (v := (Int64.toUInt64 (m_J13_bitCount_95d88_s3 (m_J13_bitCount_95d88_s2 (m_J13_bitCount_95d88_s1 a0))) >>> (Int64.toUInt64 (Int32.toInt64 8) &&& Int64.toUInt64 63)).toInt64) hx hb dJ13_bitCount_95d88_38 rfl ?_
  refine lv_ladd hx hb dJ13_bitCount_95d88_39 ?_
  refine lv_lstore_n (lv' := [(0, .long (m_J13_bitCount_95d88_s4 (m_J13_bitCount_95d88_s3 (m_J13_bitCount_95d88_s2 (m_J13_bitCount_95d88_s1 a0)))))]) hx hb dJ13_bitCount_95d88_40 rfl hl (by decide) rfl (fun ls hl => ?_)
  refine lv_lload_n hx hb dJ13_bitCount_95d88_41 rfl (lv_at hl 0 rfl) ?_
  refine lv_lload_n hx hb dJ13_bitCount_95d88_42 rfl (lv_at hl 0 rfl) ?_
  refine lv_bipush (v := 16) hx hb dJ13_bitCount_95d88_43 (by decide) ?_
  refine lv_lushr (v := (Int64.toUInt64 (m_J13_bitCount_95d88_s4 (m_J13_bitCount_95d88_s3 (m_J13_bitCount_95d88_s2 (m_J13_bitCount_95d88_s1 a0)))) >>> (Int64.toUInt64 (Int32.toInt64 16) &&& Int64.toUInt64 63)).toInt64) hx hb dJ13_bitCount_95d88_45 rfl ?_
  refine lv_ladd hx hb dJ13_bitCount_95d88_46 ?_
  refine lv_lstore_n (lv' := [(0, .long (m_J13_bitCount_95d88_s5 (m_J13_bitCount_95d88_s4 (m_J13_bitCount_95d88_s3 (m_J13_bitCount_95d88_s2 (m_J13_bitCount_95d88_s1 a0))))))]) hx hb dJ13_bitCount_95d88_47 rfl hl (by decide) rfl (fun ls hl => ?_)
  refine lv_lload_n hx hb dJ13_bitCount_95d88_48 rfl (lv_at hl 0 rfl) ?_
  refine lv_lload_n hx hb dJ13_bitCount_95d88_49 rfl (lv_at hl 0 rfl) ?_
  refine lv_bipush (v := 32) hx hb dJ13_bitCount_95d88_50 (by decide) ?_
  refine lv_lushr (v := (Int64.toUInt64 (m_J13_bitCount_95d88_s5 (m_J13_bitCount_95d88_s4 (m_J13_bitCount_95d88_s3 (m_J13_bitCount_95d88_s2 (m_J13_bitCount_95d88_s1 a0))))) >>> (Int64.toUInt64 (Int32.toInt64 32) &&& Int64.toUInt64 63)).toInt64) hx hb dJ13_bitCount_95d88_52 rfl ?_
  refine lv_ladd hx hb dJ13_bitCount_95d88_53 ?_
  refine lv_lstore_n (lv' := [(0, .long (m_J13_bitCount_95d88_s6 (m_J13_bitCount_95d88_s5 (m_J13_bitCount_95d88_s4 (m_J13_bitCount_95d88_s3 (m_J13_bitCount_95d88_s2 (m_J13_bitCount_95d88_s1 a0)))))))]) hx hb dJ13_bitCount_95d88_54 rfl hl (by decide) rfl (fun ls hl => ?_)
  refine lv_lload_n hx hb dJ13_bitCount_95d88_55 rfl (lv_at hl 0 rfl) ?_
  refine lv_l2i (v := (Int64.toInt32 (m_J13_bitCount_95d88_s6 (m_J13_bitCount_95d88_s5 (m_J13_bitCount_95d88_s4 (m_J13_bitCount_95d88_s3 (m_J13_bitCount_95d88_s2 (m_J13_bitCount_95d88_s1 a0)))))))) hx hb dJ13_bitCount_95d88_56 rfl ?_
  refine lv_bipush (v := 127) hx hb dJ13_bitCount_95d88_57 (by decide) ?_
  refine lv_iand hx hb dJ13_bitCount_95d88_59 ?_
  exact W.iret hx hb hr (fun t ht hW => ⟨⟨_, (), rfl, (by rw [m_J13_bitCount_95d88]), by rw [ht]; exact hP, va_K.moved hW.alike hK, hD⟩, hS.F ht⟩) hS.2.2 dJ13_bitCount_95d88_60
-- J6_lowestOneBit_0f7a4
def m_J6_lowestOneBit_0f7a4 (a0 : Int32) : (Int32) := (a0 &&& (-a0))
set_option maxHeartbeats 4000000 in
set_option maxRecDepth 100000 in
theorem c_J6_lowestOneBit_0f7a4 (l : Launch) (D : va_G) (sz : Nat) (a0 : Int32) : Met l yJ6_lowestOneBit_0f7a4 wsJ6_lowestOneBit_0f7a4 ({ frames := 0, cells := 0, slots := 0, locals := 0 }) (va_Pc [.int a0] (bx_Pre D [] ([]) sz)) (va_Qi (fun (r : Int32) (_ : Unit) => r = m_J6_lowestOneBit_0f7a4 a0) (fun (_ : Unit) t => bx_Post D [] ([]) (va_A ([]) sz) t) (va_A ([]) sz)) 0 0 (va_A ([]) sz) := by
  refine Met.ofW (cc := cJ6_lowestOneBit_0f7a4) (maxL := 1) (ret := (some .int)) (by decide) rfl ?_
  intro p e s m args below meth c s₁ B hml hv
  obtain ⟨rfl, hsz, hP, hK, hD0⟩ := hv
  have hx := B.exec
  have hb := B.bytes
  have hr := B.returns
  have hts := atoms_spec (ws := wsJ6_lowestOneBit_0f7a4) B.pre
  have hown : s.vm.findClass RJ6 = some m.cls := findClass_of_methodNamed B.named
  have hlocks := B.notSynchronized
  subst hsz
  have hD := hD0.self (sz := s.heap.size)
  generalize hAe : va_A ([]) s.heap.size = A at hD ⊢
  have hA : ∀ q : Nat, s.heap.size ≤ q → A q := fun q h9 => by rw [← hAe]; exact Or.inr h9
  have hS : va_S A s.heap s.heap [] := va_S.rf
  have hl := lv_entry ([.int a0]) (n := 1) (Nat.le_of_ble_eq_true rfl)
  rw [lg_entry_eq]
  generalize (lg_sl ([.int a0]) ++ List.replicate (1 - (lg_sl ([.int a0])).length) Slot.unset).toArray = ls at hl ⊢
  have hl : lv_has ls 1 [(0, .int a0)] := hl
  refine lv_iload_n hx hb dJ6_lowestOneBit_0f7a4_0 rfl (lv_at hl 0 rfl) ?_
  refine lv_iload_n hx hb dJ6_lowestOneBit_0f7a4_1 rfl (lv_at hl 0 rfl) ?_
  refine lv_ineg hx hb dJ6_lowestOneBit_0f7a4_2 ?_
  refine lv_iand hx hb dJ6_lowestOneBit_0f7a4_3 ?_
  exact W.iret hx hb hr (fun t ht hW => ⟨⟨_, (), rfl, (by rw [m_J6_lowestOneBit_0f7a4]), by rw [ht]; exact hP, va_K.moved hW.alike hK, hD⟩, hS.F ht⟩) hS.2.2 dJ6_lowestOneBit_0f7a4_4
-- J6_numberOfTrailingZeros_0f7a4
def m_J6_numberOfTrailingZeros_0f7a4 (a0 : Int32) : (Int32) := (if 0 < ((a0 ^^^ (-1)) &&& (a0 - 1)) then (if ((a0 ^^^ (-1)) &&& (a0 - 1)) ≤ 65536 then (if ((a0 ^^^ (-1)) &&& (a0 - 1)) ≤ 256 then (if ((a0 ^^^ (-1)) &&& (a0 - 1)) ≤ 16 then (if ((a0 ^^^ (-1)) &&& (a0 - 1)) ≤ 4 then (1 + ((Int32.toUInt32 ((a0 ^^^ (-1)) &&& (a0 - 1)) >>> (Int32.toUInt32 1 &&& Int32.toUInt32 31)).toInt32)) else ((1 + 2) + ((Int32.toUInt32 ((Int32.toUInt32 ((a0 ^^^ (-1)) &&& (a0 - 1)) >>> (Int32.toUInt32 2 &&& Int32.toUInt32 31)).toInt32) >>> (Int32.toUInt32 1 &&& Int32.toUInt32 31)).toInt32))) else (if ((Int32.toUInt32 ((a0 ^^^ (-1)) &&& (a0 - 1)) >>> (Int32.toUInt32 4 &&& Int32.toUInt32 31)).toInt32) ≤ 4 then ((1 + 4) + ((Int32.toUInt32 ((Int32.toUInt32 ((a0 ^^^ (-1)) &&& (a0 - 1)) >>> (Int32.toUInt32 4 &&& Int32.toUInt32 31)).toInt32) >>> (Int32.toUInt32 1 &&& Int32.toUInt32 31)).toInt32)) else (((1 + 4) + 2) + ((Int32.toUInt32 ((Int32.toUInt32 ((Int32.toUInt32 ((a0 ^^^ (-1)) &&& (a0 - 1)) >>> (Int32.toUInt32 4 &&& Int32.toUInt32 31)).toInt32) >>> (Int32.toUInt32 2 &&& Int32.toUInt32 31)).toInt32) >>> (Int32.toUInt32 1 &&& Int32.toUInt32 31)).toInt32)))) else (if ((Int32.toUInt32 ((a0 ^^^ (-1)) &&& (a0 - 1)) >>> (Int32.toUInt32 8 &&& Int32.toUInt32 31)).toInt32) ≤ 16 then (if ((Int32.toUInt32 ((a0 ^^^ (-1)) &&& (a0 - 1)) >>> (Int32.toUInt32 8 &&& Int32.toUInt32 31)).toInt32) ≤ 4 then ((1 + 8) + ((Int32.toUInt32 ((Int32.toUInt32 ((a0 ^^^ (-1)) &&& (a0 - 1)) >>> (Int32.toUInt32 8 &&& Int32.toUInt32 31)).toInt32) >>> (Int32.toUInt32 1 &&& Int32.toUInt32 31)).toInt32)) else (((1 + 8) + 2) + ((Int32.toUInt32 ((Int32.toUInt32 ((Int32.toUInt32 ((a0 ^^^ (-1)) &&& (a0 - 1)) >>> (Int32.toUInt32 8 &&& Int32.toUInt32 31)).toInt32) >>> (Int32.toUInt32 2 &&& Int32.toUInt32 31)).toInt32) >>> (Int32.toUInt32 1 &&& Int32.toUInt32 31)).toInt32))) else (if ((Int32.toUInt32 ((Int32.toUInt32 ((a0 ^^^ (-1)) &&& (a0 - 1)) >>> (Int32.toUInt32 8 &&& Int32.toUInt32 31)).toInt32) >>> (Int32.toUInt32 4 &&& Int32.toUInt32 31)).toInt32) ≤ 4 then (((1 + 8) + 4) + ((Int32.toUInt32 ((Int32.toUInt32 ((Int32.toUInt32 ((a0 ^^^ (-1)) &&& (a0 - 1)) >>> (Int32.toUInt32 8 &&& Int32.toUInt32 31)).toInt32) >>> (Int32.toUInt32 4 &&& Int32.toUInt32 31)).toInt32) >>> (Int32.toUInt32 1 &&& Int32.toUInt32 31)).toInt32)) else ((((1 + 8) + 4) + 2) + ((Int32.toUInt32 ((Int32.toUInt32 ((Int32.toUInt32 ((Int32.toUInt32 ((a0 ^^^ (-1)) &&& (a0 - 1)) >>> (Int32.toUInt32 8 &&& Int32.toUInt32 31)).toInt32) >>> (Int32.toUInt32 4 &&& Int32.toUInt32 31)).toInt32) >>> (Int32.toUInt32 2 &&& Int32.toUInt32 31)).toInt32) >>> (Int32.toUInt32 1 &&& Int32.toUInt32 31)).toInt32))))) else (if ((Int32.toUInt32 ((a0 ^^^ (-1)) &&& (a0 - 1)) >>> (Int32.toUInt32 16 &&& Int32.toUInt32 31)).toInt32) ≤ 256 then (if ((Int32.toUInt32 ((a0 ^^^ (-1)) &&& (a0 - 1)) >>> (Int32.toUInt32 16 &&& Int32.toUInt32 31)).toInt32) ≤ 16 then (if ((Int32.toUInt32 ((a0 ^^^ (-1)) &&& (a0 - 1)) >>> (Int32.toUInt32 16 &&& Int32.toUInt32 31)).toInt32) ≤ 4 then ((1 + 16) + ((Int32.toUInt32 ((Int32.toUInt32 ((a0 ^^^ (-1)) &&& (a0 - 1)) >>> (Int32.toUInt32 16 &&& Int32.toUInt32 31)).toInt32) >>> (Int32.toUInt32 1 &&& Int32.toUInt32 31)).toInt32)) else (((1 + 16) + 2) + ((Int32.toUInt32 ((Int32.toUInt32 ((Int32.toUInt32 ((a0 ^^^ (-1)) &&& (a0 - 1)) >>> (Int32.toUInt32 16 &&& Int32.toUInt32 31)).toInt32) >>> (Int32.toUInt32 2 &&& Int32.toUInt32 31)).toInt32) >>> (Int32.toUInt32 1 &&& Int32.toUInt32 31)).toInt32))) else (if ((Int32.toUInt32 ((Int32.toUInt32 ((a0 ^^^ (-1)) &&& (a0 - 1)) >>> (Int32.toUInt32 16 &&& Int32.toUInt32 31)).toInt32) >>> (Int32.toUInt32 4 &&& Int32.toUInt32 31)).toInt32) ≤ 4 then (((1 + 16) + 4) + ((Int32.toUInt32 ((Int32.toUInt32 ((Int32.toUInt32 ((a0 ^^^ (-1)) &&& (a0 - 1)) >>> (Int32.toUInt32 16 &&& Int32.toUInt32 31)).toInt32) >>> (Int32.toUInt32 4 &&& Int32.toUInt32 31)).toInt32) >>> (Int32.toUInt32 1 &&& Int32.toUInt32 31)).toInt32)) else ((((1 + 16) + 4) + 2) + ((Int32.toUInt32 ((Int32.toUInt32 ((Int32.toUInt32 ((Int32.toUInt32 ((a0 ^^^ (-1)) &&& (a0 - 1)) >>> (Int32.toUInt32 16 &&& Int32.toUInt32 31)).toInt32) >>> (Int32.toUInt32 4 &&& Int32.toUInt32 31)).toInt32) >>> (Int32.toUInt32 2 &&& Int32.toUInt32 31)).toInt32) >>> (Int32.toUInt32 1 &&& Int32.toUInt32 31)).toInt32)))) else (if ((Int32.toUInt32 ((Int32.toUInt32 ((a0 ^^^ (-1)) &&& (a0 - 1)) >>> (Int32.toUInt32 16 &&& Int32.toUInt32 31)).toInt32) >>> (Int32.toUInt32 8 &&& Int32.toUInt32 31)).toInt32) ≤ 16 then (if ((Int32.toUInt32 ((Int32.toUInt32 ((a0 ^^^ (-1)) &&& (a0 - 1)) >>> (Int32.toUInt32 16 &&& Int32.toUInt32 31)).toInt32) >>> (Int32.toUInt32 8 &&& Int32.toUInt32 31)).toInt32) ≤ 4 then (((1 + 16) + 8) + ((Int32.toUInt32 ((Int32.toUInt32 ((Int32.toUInt32 ((a0 ^^^ (-1)) &&& (a0 - 1)) >>> (Int32.toUInt32 16 &&& Int32.toUInt32 31)).toInt32) >>> (Int32.toUInt32 8 &&& Int32.toUInt32 31)).toInt32) >>> (Int32.toUInt32 1 &&& Int32.toUInt32 31)).toInt32)) else ((((1 + 16) + 8) + 2) + ((Int32.toUInt32 ((Int32.toUInt32 ((Int32.toUInt32 ((Int32.toUInt32 ((a0 ^^^ (-1)) &&& (a0 - 1)) >>> (Int32.toUInt32 16 &&& Int32.toUInt32 31)).toInt32) >>> (Int32.toUInt32 8 &&& Int32.toUInt32 31)).toInt32) >>> (Int32.toUInt32 2 &&& Int32.toUInt32 31)).toInt32) >>> (Int32.toUInt32 1 &&& Int32.toUInt32 31)).toInt32))) else (if ((Int32.toUInt32 ((Int32.toUInt32 ((Int32.toUInt32 ((a0 ^^^ (-1)) &&& (a0 - 1)) >>> (Int32.toUInt32 16 &&& Int32.toUInt32 31)).toInt32) >>> (Int32.toUInt32 8 &&& Int32.toUInt32 31)).toInt32) >>> (Int32.toUInt32 4 &&& Int32.toUInt32 31)).toInt32) ≤ 4 then ((((1 + 16) + 8) + 4) + ((Int32.toUInt32 ((Int32.toUInt32 ((Int32.toUInt32 ((Int32.toUInt32 ((a0 ^^^ (-1)) &&& (a0 - 1)) >>> (Int32.toUInt32 16 &&& Int32.toUInt32 31)).toInt32) >>> (Int32.toUInt32 8 &&& Int32.toUInt32 31)).toInt32) >>> (Int32.toUInt32 4 &&& Int32.toUInt32 31)).toInt32) >>> (Int32.toUInt32 1 &&& Int32.toUInt32 31)).toInt32)) else (((((1 + 16) + 8) + 4) + 2) + ((Int32.toUInt32 ((Int32.toUInt32 ((Int32.toUInt32 ((Int32.toUInt32 ((Int32.toUInt32 ((a0 ^^^ (-1)) &&& (a0 - 1)) >>> (Int32.toUInt32 16 &&& Int32.toUInt32 31)).toInt32) >>> (Int32.toUInt32 8 &&& Int32.toUInt32 31)).toInt32) >>> (Int32.toUInt32 4 &&& Int32.toUInt32 31)).toInt32) >>> (Int32.toUInt32 2 &&& Int32.toUInt32 31)).toInt32) >>> (Int32.toUInt32 1 &&& Int32.toUInt32 31)).toInt32)))))) else (((a0 ^^^ (-1)) &&& (a0 - 1)) &&& 32))
set_option maxHeartbeats 4000000 in
set_option maxRecDepth 100000 in
theorem c_J6_numberOfTrailingZeros_0f7a4 (l : Launch) (D : va_G) (sz : Nat) (a0 : Int32) : Met l yJ6_numberOfTrailingZeros_0f7a4 wsJ6_numberOfTrailingZeros_0f7a4 ({ frames := 0, cells := 0, slots := 0, locals := 0 }) (va_Pc [.int a0] (bx_Pre D [] ([]) sz)) (va_Qi (fun (r : Int32) (_ : Unit) => r = m_J6_numberOfTrailingZeros_0f7a4 a0) (fun (_ : Unit) t => bx_Post D [] ([]) (va_A ([]) sz) t) (va_A ([]) sz)) 0 0 (va_A ([]) sz) := by
  refine Met.ofW (cc := cJ6_numberOfTrailingZeros_0f7a4) (maxL := 2) (ret := (some .int)) (by decide) rfl ?_
  intro p e s m args below meth c s₁ B hml hv
  obtain ⟨rfl, hsz, hP, hK, hD0⟩ := hv
  have hx := B.exec
  have hb := B.bytes
  have hr := B.returns
  have hts := atoms_spec (ws := wsJ6_numberOfTrailingZeros_0f7a4) B.pre
  have hown : s.vm.findClass RJ6 = some m.cls := findClass_of_methodNamed B.named
  have hlocks := B.notSynchronized
  subst hsz
  have hD := hD0.self (sz := s.heap.size)
  generalize hAe : va_A ([]) s.heap.size = A at hD ⊢
  have hA : ∀ q : Nat, s.heap.size ≤ q → A q := fun q h9 => by rw [← hAe]; exact Or.inr h9
  have hS : va_S A s.heap s.heap [] := va_S.rf
  have hw_0 := hts (.constant RJ6 264 (65536)) (by decide +kernel)
  have hl := lv_entry ([.int a0]) (n := 2) (Nat.le_of_ble_eq_true rfl)
  rw [lg_entry_eq]
  generalize (lg_sl ([.int a0]) ++ List.replicate (2 - (lg_sl ([.int a0])).length) Slot.unset).toArray = ls at hl ⊢
  have hl : lv_has ls 2 [(0, .int a0)] := hl
  refine lv_iload_n hx hb dJ6_numberOfTrailingZeros_0f7a4_0 rfl (lv_at hl 0 rfl) ?_
  refine lv_iconst (v := (-1)) hx hb dJ6_numberOfTrailingZeros_0f7a4_1 (by decide) ?_
  refine lv_ixor hx hb dJ6_numberOfTrailingZeros_0f7a4_2 ?_
  refine lv_iload_n hx hb dJ6_numberOfTrailingZeros_0f7a4_3 rfl (lv_at hl 0 rfl) ?_
  refine lv_iconst (v := 1) hx hb dJ6_numberOfTrailingZeros_0f7a4_4 (by decide) ?_
  refine lv_isub hx hb dJ6_numberOfTrailingZeros_0f7a4_5 ?_
  refine lv_iand hx hb dJ6_numberOfTrailingZeros_0f7a4_6 ?_
  refine lv_istore_n (lv' := [(0, .int ((a0 ^^^ (-1)) &&& (a0 - 1)))]) hx hb dJ6_numberOfTrailingZeros_0f7a4_7 rfl hl (by decide) rfl (fun ls hl => ?_)
  refine lv_iload_n hx hb dJ6_numberOfTrailingZeros_0f7a4_8 rfl (lv_at hl 0 rfl) ?_
  refine lv_if_gt (tgt := 17) hx hb dJ6_numberOfTrailingZeros_0f7a4_9 (by decide) (fun c_1 => ?_) (fun c_1 => ?_)
  · refine lv_iconst (v := 1) hx hb dJ6_numberOfTrailingZeros_0f7a4_17 (by decide) ?_
    refine lv_istore_n (lv' := [(1, .int 1), (0, .int ((a0 ^^^ (-1)) &&& (a0 - 1)))]) hx hb dJ6_numberOfTrailingZeros_0f7a4_18 rfl hl (by decide) rfl (fun ls hl => ?_)
    refine lv_iload_n hx hb dJ6_numberOfTrailingZeros_0f7a4_19 rfl (lv_at hl 1 rfl) ?_
    refine lv_ldcw hx hb hown hw_0 dJ6_numberOfTrailingZeros_0f7a4_20 ?_
    refine lv_icmp_le (tgt := 34) hx hb dJ6_numberOfTrailingZeros_0f7a4_23 (by decide) (fun c_2 => ?_) (fun c_2 => ?_)
    · refine lv_iload_n hx hb dJ6_numberOfTrailingZeros_0f7a4_34 rfl (lv_at hl 1 rfl) ?_
      refine lv_sipush (v := 256) hx hb dJ6_numberOfTrailingZeros_0f7a4_35 (by decide) ?_
      refine lv_icmp_le (tgt := 49) hx hb dJ6_numberOfTrailingZeros_0f7a4_38 (by decide) (fun c_3 => ?_) (fun c_3 => ?_)
      · refine lv_iload_n hx hb dJ6_numberOfTrailingZeros_0f7a4_49 rfl (lv_at hl 1 rfl) ?_
        refine lv_bipush (v := 16) hx hb dJ6_numberOfTrailingZeros_0f7a4_50 (by decide) ?_
        refine lv_icmp_le (tgt := 62) hx hb dJ6_numberOfTrailingZeros_0f7a4_52 (by decide) (fun c_4 => ?_) (fun c_4 => ?_)
        · refine lv_iload_n hx hb dJ6_numberOfTrailingZeros_0f7a4_62 rfl (lv_at hl 1 rfl) ?_
          refine lv_iconst (v := 4) hx hb dJ6_numberOfTrailingZeros_0f7a4_63 (by decide) ?_
          refine lv_icmp_le (tgt := 74) hx hb dJ6_numberOfTrailingZeros_0f7a4_64 (by decide) (fun c_5 => ?_) (fun c_5 => ?_)
          · refine lv_iload_n hx hb dJ6_numberOfTrailingZeros_0f7a4_74 rfl (lv_at hl 0 rfl) ?_
            refine lv_iload_n hx hb dJ6_numberOfTrailingZeros_0f7a4_75 rfl (lv_at hl 1 rfl) ?_
            refine lv_iconst (v := 1) hx hb dJ6_numberOfTrailingZeros_0f7a4_76 (by decide) ?_
            refine lv_iushr (v := (Int32.toUInt32 ((a0 ^^^ (-1)) &&& (a0 - 1)) >>> (Int32.toUInt32 1 &&& Int32.toUInt32 31)).toInt32) hx hb dJ6_numberOfTrailingZeros_0f7a4_77 rfl ?_
            refine lv_iadd hx hb dJ6_numberOfTrailingZeros_0f7a4_78 ?_
            exact W.iret hx hb hr (fun t ht hW => ⟨⟨_, (), rfl, (by rw [m_J6_numberOfTrailingZeros_0f7a4, if_pos c_1, if_pos c_2, if_pos c_3, if_pos c_4, if_pos c_5]), by rw [ht]; exact hP, va_K.moved hW.alike hK, hD⟩, hS.F ht⟩) hS.2.2 dJ6_numberOfTrailingZeros_0f7a4_79
          · refine lv_iinc (v := (1 + 2)) (lv' := [(1, .int (1 + 2)), (0, .int ((a0 ^^^ (-1)) &&& (a0 - 1)))]) hx hb dJ6_numberOfTrailingZeros_0f7a4_67 hl (k := 0) rfl rfl (by decide) rfl (fun ls hl => ?_)
            refine lv_iload_n hx hb dJ6_numberOfTrailingZeros_0f7a4_70 rfl (lv_at hl 1 rfl) ?_
            refine lv_iconst (v := 2) hx hb dJ6_numberOfTrailingZeros_0f7a4_71 (by decide) ?_
            refine lv_iushr (v := (Int32.toUInt32 ((a0 ^^^ (-1)) &&& (a0 - 1)) >>> (Int32.toUInt32 2 &&& Int32.toUInt32 31)).toInt32) hx hb dJ6_numberOfTrailingZeros_0f7a4_72 rfl ?_
            refine lv_istore_n (lv' := [(0, .int ((Int32.toUInt32 ((a0 ^^^ (-1)) &&& (a0 - 1)) >>> (Int32.toUInt32 2 &&& Int32.toUInt32 31)).toInt32)), (1, .int (1 + 2))]) hx hb dJ6_numberOfTrailingZeros_0f7a4_73 rfl hl (by decide) rfl (fun ls hl => ?_)
            refine lv_iload_n hx hb dJ6_numberOfTrailingZeros_0f7a4_74 rfl (lv_at hl 1 rfl) ?_
            refine lv_iload_n hx hb dJ6_numberOfTrailingZeros_0f7a4_75 rfl (lv_at hl 0 rfl) ?_
            refine lv_iconst (v := 1) hx hb dJ6_numberOfTrailingZeros_0f7a4_76 (by decide) ?_
            refine lv_iushr (v := (Int32.toUInt32 ((Int32.toUInt32 ((a0 ^^^ (-1)) &&& (a0 - 1)) >>> (Int32.toUInt32 2 &&& Int32.toUInt32 31)).toInt32) >>> (Int32.toUInt32 1 &&& Int32.toUInt32 31)).toInt32) hx hb dJ6_numberOfTrailingZeros_0f7a4_77 rfl ?_
            refine lv_iadd hx hb dJ6_numberOfTrailingZeros_0f7a4_78 ?_
            exact W.iret hx hb hr (fun t ht hW => ⟨⟨_, (), rfl, (by rw [m_J6_numberOfTrailingZeros_0f7a4, if_pos c_1, if_pos c_2, if_pos c_3, if_pos c_4, if_neg c_5]), by rw [ht]; exact hP, va_K.moved hW.alike hK, hD⟩, hS.F ht⟩) hS.2.2 dJ6_numberOfTrailingZeros_0f7a4_79
        · refine lv_iinc (v := (1 + 4)) (lv' := [(1, .int (1 + 4)), (0, .int ((a0 ^^^ (-1)) &&& (a0 - 1)))]) hx hb dJ6_numberOfTrailingZeros_0f7a4_55 hl (k := 0) rfl rfl (by decide) rfl (fun ls hl => ?_)
          refine lv_iload_n hx hb dJ6_numberOfTrailingZeros_0f7a4_58 rfl (lv_at hl 1 rfl) ?_
          refine lv_iconst (v := 4) hx hb dJ6_numberOfTrailingZeros_0f7a4_59 (by decide) ?_
          refine lv_iushr (v := (Int32.toUInt32 ((a0 ^^^ (-1)) &&& (a0 - 1)) >>> (Int32.toUInt32 4 &&& Int32.toUInt32 31)).toInt32) hx hb dJ6_numberOfTrailingZeros_0f7a4_60 rfl ?_
          refine lv_istore_n (lv' := [(0, .int ((Int32.toUInt32 ((a0 ^^^ (-1)) &&& (a0 - 1)) >>> (Int32.toUInt32 4 &&& Int32.toUInt32 31)).toInt32)), (1, .int (1 + 4))]) hx hb dJ6_numberOfTrailingZeros_0f7a4_61 rfl hl (by decide) rfl (fun ls hl => ?_)
          refine lv_iload_n hx hb dJ6_numberOfTrailingZeros_0f7a4_62 rfl (lv_at hl 0 rfl) ?_
          refine lv_iconst (v := 4) hx hb dJ6_numberOfTrailingZeros_0f7a4_63 (by decide) ?_
          refine lv_icmp_le (tgt := 74) hx hb dJ6_numberOfTrailingZeros_0f7a4_64 (by decide) (fun c_6 => ?_) (fun c_6 => ?_)
          · refine lv_iload_n hx hb dJ6_numberOfTrailingZeros_0f7a4_74 rfl (lv_at hl 1 rfl) ?_
            refine lv_iload_n hx hb dJ6_numberOfTrailingZeros_0f7a4_75 rfl (lv_at hl 0 rfl) ?_
            refine lv_iconst (v := 1) hx hb dJ6_numberOfTrailingZeros_0f7a4_76 (by decide) ?_
            refine lv_iushr (v := (Int32.toUInt32 ((Int32.toUInt32 ((a0 ^^^ (-1)) &&& (a0 - 1)) >>> (Int32.toUInt32 4 &&& Int32.toUInt32 31)).toInt32) >>> (Int32.toUInt32 1 &&& Int32.toUInt32 31)).toInt32) hx hb dJ6_numberOfTrailingZeros_0f7a4_77 rfl ?_
            refine lv_iadd hx hb dJ6_numberOfTrailingZeros_0f7a4_78 ?_
            exact W.iret hx hb hr (fun t ht hW => ⟨⟨_, (), rfl, (by rw [m_J6_numberOfTrailingZeros_0f7a4, if_pos c_1, if_pos c_2, if_pos c_3, if_neg c_4, if_pos c_6]), by rw [ht]; exact hP, va_K.moved hW.alike hK, hD⟩, hS.F ht⟩) hS.2.2 dJ6_numberOfTrailingZeros_0f7a4_79
          · refine lv_iinc (v := ((1 + 4) + 2)) (lv' := [(1, .int ((1 + 4) + 2)), (0, .int ((Int32.toUInt32 ((a0 ^^^ (-1)) &&& (a0 - 1)) >>> (Int32.toUInt32 4 &&& Int32.toUInt32 31)).toInt32))]) hx hb dJ6_numberOfTrailingZeros_0f7a4_67 hl (k := 1) rfl rfl (by decide) rfl (fun ls hl => ?_)
            refine lv_iload_n hx hb dJ6_numberOfTrailingZeros_0f7a4_70 rfl (lv_at hl 1 rfl) ?_
            refine lv_iconst (v := 2) hx hb dJ6_numberOfTrailingZeros_0f7a4_71 (by decide) ?_
            refine lv_iushr (v := (Int32.toUInt32 ((Int32.toUInt32 ((a0 ^^^ (-1)) &&& (a0 - 1)) >>> (Int32.toUInt32 4 &&& Int32.toUInt32 31)).toInt32) >>> (Int32.toUInt32 2 &&& Int32.toUInt32 31)).toInt32) hx hb dJ6_numberOfTrailingZeros_0f7a4_72 rfl ?_
            refine lv_istore_n (lv' := [(0, .int ((Int32.toUInt32 ((Int32.toUInt32 ((a0 ^^^ (-1)) &&& (a0 - 1)) >>> (Int32.toUInt32 4 &&& Int32.toUInt32 31)).toInt32) >>> (Int32.toUInt32 2 &&& Int32.toUInt32 31)).toInt32)), (1, .int ((1 + 4) + 2))]) hx hb dJ6_numberOfTrailingZeros_0f7a4_73 rfl hl (by decide) rfl (fun ls hl => ?_)
            refine lv_iload_n hx hb dJ6_numberOfTrailingZeros_0f7a4_74 rfl (lv_at hl 1 rfl) ?_
            refine lv_iload_n hx hb dJ6_numberOfTrailingZeros_0f7a4_75 rfl (lv_at hl 0 rfl) ?_
            refine lv_iconst (v := 1) hx hb dJ6_numberOfTrailingZeros_0f7a4_76 (by decide) ?_
            refine lv_iushr (v := (Int32.toUInt32 ((Int32.toUInt32 ((Int32.toUInt32 ((a0 ^^^ (-1)) &&& (a0 - 1)) >>> (Int32.toUInt32 4 &&& Int32.toUInt32 31)).toInt32) >>> (Int32.toUInt32 2 &&& Int32.toUInt32 31)).toInt32) >>> (Int32.toUInt32 1 &&& Int32.toUInt32 31)).toInt32) hx hb dJ6_numberOfTrailingZeros_0f7a4_77 rfl ?_
            refine lv_iadd hx hb dJ6_numberOfTrailingZeros_0f7a4_78 ?_
            exact W.iret hx hb hr (fun t ht hW => ⟨⟨_, (), rfl, (by rw [m_J6_numberOfTrailingZeros_0f7a4, if_pos c_1, if_pos c_2, if_pos c_3, if_neg c_4, if_neg c_6]), by rw [ht]; exact hP, va_K.moved hW.alike hK, hD⟩, hS.F ht⟩) hS.2.2 dJ6_numberOfTrailingZeros_0f7a4_79
      · refine lv_iinc (v := (1 + 8)) (lv' := [(1, .int (1 + 8)), (0, .int ((a0 ^^^ (-1)) &&& (a0 - 1)))]) hx hb dJ6_numberOfTrailingZeros_0f7a4_41 hl (k := 0) rfl rfl (by decide) rfl (fun ls hl => ?_)
        refine lv_iload_n hx hb dJ6_numberOfTrailingZeros_0f7a4_44 rfl (lv_at hl 1 rfl) ?_
        refine lv_bipush (v := 8) hx hb dJ6_numberOfTrailingZeros_0f7a4_45 (by decide) ?_
        refine lv_iushr (v := (Int32.toUInt32 ((a0 ^^^ (-1)) &&& (a0 - 1)) >>> (Int32.toUInt32 8 &&& Int32.toUInt32 31)).toInt32) hx hb dJ6_numberOfTrailingZeros_0f7a4_47 rfl ?_
        refine lv_istore_n (lv' := [(0, .int ((Int32.toUInt32 ((a0 ^^^ (-1)) &&& (a0 - 1)) >>> (Int32.toUInt32 8 &&& Int32.toUInt32 31)).toInt32)), (1, .int (1 + 8))]) hx hb dJ6_numberOfTrailingZeros_0f7a4_48 rfl hl (by decide) rfl (fun ls hl => ?_)
        refine lv_iload_n hx hb dJ6_numberOfTrailingZeros_0f7a4_49 rfl (lv_at hl 0 rfl) ?_
        refine lv_bipush (v := 16) hx hb dJ6_numberOfTrailingZeros_0f7a4_50 (by decide) ?_
        refine lv_icmp_le (tgt := 62) hx hb dJ6_numberOfTrailingZeros_0f7a4_52 (by decide) (fun c_7 => ?_) (fun c_7 => ?_)
        · refine lv_iload_n hx hb dJ6_numberOfTrailingZeros_0f7a4_62 rfl (lv_at hl 0 rfl) ?_
          refine lv_iconst (v := 4) hx hb dJ6_numberOfTrailingZeros_0f7a4_63 (by decide) ?_
          refine lv_icmp_le (tgt := 74) hx hb dJ6_numberOfTrailingZeros_0f7a4_64 (by decide) (fun c_8 => ?_) (fun c_8 => ?_)
          · refine lv_iload_n hx hb dJ6_numberOfTrailingZeros_0f7a4_74 rfl (lv_at hl 1 rfl) ?_
            refine lv_iload_n hx hb dJ6_numberOfTrailingZeros_0f7a4_75 rfl (lv_at hl 0 rfl) ?_
            refine lv_iconst (v := 1) hx hb dJ6_numberOfTrailingZeros_0f7a4_76 (by decide) ?_
            refine lv_iushr (v := (Int32.toUInt32 ((Int32.toUInt32 ((a0 ^^^ (-1)) &&& (a0 - 1)) >>> (Int32.toUInt32 8 &&& Int32.toUInt32 31)).toInt32) >>> (Int32.toUInt32 1 &&& Int32.toUInt32 31)).toInt32) hx hb dJ6_numberOfTrailingZeros_0f7a4_77 rfl ?_
            refine lv_iadd hx hb dJ6_numberOfTrailingZeros_0f7a4_78 ?_
            exact W.iret hx hb hr (fun t ht hW => ⟨⟨_, (), rfl, (by rw [m_J6_numberOfTrailingZeros_0f7a4, if_pos c_1, if_pos c_2, if_neg c_3, if_pos c_7, if_pos c_8]), by rw [ht]; exact hP, va_K.moved hW.alike hK, hD⟩, hS.F ht⟩) hS.2.2 dJ6_numberOfTrailingZeros_0f7a4_79
          · refine lv_iinc (v := ((1 + 8) + 2)) (lv' := [(1, .int ((1 + 8) + 2)), (0, .int ((Int32.toUInt32 ((a0 ^^^ (-1)) &&& (a0 - 1)) >>> (Int32.toUInt32 8 &&& Int32.toUInt32 31)).toInt32))]) hx hb dJ6_numberOfTrailingZeros_0f7a4_67 hl (k := 1) rfl rfl (by decide) rfl (fun ls hl => ?_)
            refine lv_iload_n hx hb dJ6_numberOfTrailingZeros_0f7a4_70 rfl (lv_at hl 1 rfl) ?_
            refine lv_iconst (v := 2) hx hb dJ6_numberOfTrailingZeros_0f7a4_71 (by decide) ?_
            refine lv_iushr (v := (Int32.toUInt32 ((Int32.toUInt32 ((a0 ^^^ (-1)) &&& (a0 - 1)) >>> (Int32.toUInt32 8 &&& Int32.toUInt32 31)).toInt32) >>> (Int32.toUInt32 2 &&& Int32.toUInt32 31)).toInt32) hx hb dJ6_numberOfTrailingZeros_0f7a4_72 rfl ?_
            refine lv_istore_n (lv' := [(0, .int ((Int32.toUInt32 ((Int32.toUInt32 ((a0 ^^^ (-1)) &&& (a0 - 1)) >>> (Int32.toUInt32 8 &&& Int32.toUInt32 31)).toInt32) >>> (Int32.toUInt32 2 &&& Int32.toUInt32 31)).toInt32)), (1, .int ((1 + 8) + 2))]) hx hb dJ6_numberOfTrailingZeros_0f7a4_73 rfl hl (by decide) rfl (fun ls hl => ?_)
            refine lv_iload_n hx hb dJ6_numberOfTrailingZeros_0f7a4_74 rfl (lv_at hl 1 rfl) ?_
            refine lv_iload_n hx hb dJ6_numberOfTrailingZeros_0f7a4_75 rfl (lv_at hl 0 rfl) ?_
            refine lv_iconst (v := 1) hx hb dJ6_numberOfTrailingZeros_0f7a4_76 (by decide) ?_
            refine lv_iushr (v := (Int32.toUInt32 ((Int32.toUInt32 ((Int32.toUInt32 ((a0 ^^^ (-1)) &&& (a0 - 1)) >>> (Int32.toUInt32 8 &&& Int32.toUInt32 31)).toInt32) >>> (Int32.toUInt32 2 &&& Int32.toUInt32 31)).toInt32) >>> (Int32.toUInt32 1 &&& Int32.toUInt32 31)).toInt32) hx hb dJ6_numberOfTrailingZeros_0f7a4_77 rfl ?_
            refine lv_iadd hx hb dJ6_numberOfTrailingZeros_0f7a4_78 ?_
            exact W.iret hx hb hr (fun t ht hW => ⟨⟨_, (), rfl, (by rw [m_J6_numberOfTrailingZeros_0f7a4, if_pos c_1, if_pos c_2, if_neg c_3, if_pos c_7, if_neg c_8]), by rw [ht]; exact hP, va_K.moved hW.alike hK, hD⟩, hS.F ht⟩) hS.2.2 dJ6_numberOfTrailingZeros_0f7a4_79
        · refine lv_iinc (v := ((1 + 8) + 4)) (lv' := [(1, .int ((1 + 8) + 4)), (0, .int ((Int32.toUInt32 ((a0 ^^^ (-1)) &&& (a0 - 1)) >>> (Int32.toUInt32 8 &&& Int32.toUInt32 31)).toInt32))]) hx hb dJ6_numberOfTrailingZeros_0f7a4_55 hl (k := 1) rfl rfl (by decide) rfl (fun ls hl => ?_)
          refine lv_iload_n hx hb dJ6_numberOfTrailingZeros_0f7a4_58 rfl (lv_at hl 1 rfl) ?_
          refine lv_iconst (v := 4) hx hb dJ6_numberOfTrailingZeros_0f7a4_59 (by decide) ?_
          refine lv_iushr (v := (Int32.toUInt32 ((Int32.toUInt32 ((a0 ^^^ (-1)) &&& (a0 - 1)) >>> (Int32.toUInt32 8 &&& Int32.toUInt32 31)).toInt32) >>> (Int32.toUInt32 4 &&& Int32.toUInt32 31)).toInt32) hx hb dJ6_numberOfTrailingZeros_0f7a4_60 rfl ?_
          refine lv_istore_n (lv' := [(0, .int ((Int32.toUInt32 ((Int32.toUInt32 ((a0 ^^^ (-1)) &&& (a0 - 1)) >>> (Int32.toUInt32 8 &&& Int32.toUInt32 31)).toInt32) >>> (Int32.toUInt32 4 &&& Int32.toUInt32 31)).toInt32)), (1, .int ((1 + 8) + 4))]) hx hb dJ6_numberOfTrailingZeros_0f7a4_61 rfl hl (by decide) rfl (fun ls hl => ?_)
          refine lv_iload_n hx hb dJ6_numberOfTrailingZeros_0f7a4_62 rfl (lv_at hl 0 rfl) ?_
          refine lv_iconst (v := 4) hx hb dJ6_numberOfTrailingZeros_0f7a4_63 (by decide) ?_
          refine lv_icmp_le (tgt := 74) hx hb dJ6_numberOfTrailingZeros_0f7a4_64 (by decide) (fun c_9 => ?_) (fun c_9 => ?_)
          · refine lv_iload_n hx hb dJ6_numberOfTrailingZeros_0f7a4_74 rfl (lv_at hl 1 rfl) ?_
            refine lv_iload_n hx hb dJ6_numberOfTrailingZeros_0f7a4_75 rfl (lv_at hl 0 rfl) ?_
            refine lv_iconst (v := 1) hx hb dJ6_numberOfTrailingZeros_0f7a4_76 (by decide) ?_
            refine lv_iushr (v := (Int32.toUInt32 ((Int32.toUInt32 ((Int32.toUInt32 ((a0 ^^^ (-1)) &&& (a0 - 1)) >>> (Int32.toUInt32 8 &&& Int32.toUInt32 31)).toInt32) >>> (Int32.toUInt32 4 &&& Int32.toUInt32 31)).toInt32) >>> (Int32.toUInt32 1 &&& Int32.toUInt32 31)).toInt32) hx hb dJ6_numberOfTrailingZeros_0f7a4_77 rfl ?_
            refine lv_iadd hx hb dJ6_numberOfTrailingZeros_0f7a4_78 ?_
            exact W.iret hx hb hr (fun t ht hW => ⟨⟨_, (), rfl, (by rw [m_J6_numberOfTrailingZeros_0f7a4, if_pos c_1, if_pos c_2, if_neg c_3, if_neg c_7, if_pos c_9]), by rw [ht]; exact hP, va_K.moved hW.alike hK, hD⟩, hS.F ht⟩) hS.2.2 dJ6_numberOfTrailingZeros_0f7a4_79
          · refine lv_iinc (v := (((1 + 8) + 4) + 2)) (lv' := [(1, .int (((1 + 8) + 4) + 2)), (0, .int ((Int32.toUInt32 ((Int32.toUInt32 ((a0 ^^^ (-1)) &&& (a0 - 1)) >>> (Int32.toUInt32 8 &&& Int32.toUInt32 31)).toInt32) >>> (Int32.toUInt32 4 &&& Int32.toUInt32 31)).toInt32))]) hx hb dJ6_numberOfTrailingZeros_0f7a4_67 hl (k := 1) rfl rfl (by decide) rfl (fun ls hl => ?_)
            refine lv_iload_n hx hb dJ6_numberOfTrailingZeros_0f7a4_70 rfl (lv_at hl 1 rfl) ?_
            refine lv_iconst (v := 2) hx hb dJ6_numberOfTrailingZeros_0f7a4_71 (by decide) ?_
            refine lv_iushr (v := (Int32.toUInt32 ((Int32.toUInt32 ((Int32.toUInt32 ((a0 ^^^ (-1)) &&& (a0 - 1)) >>> (Int32.toUInt32 8 &&& Int32.toUInt32 31)).toInt32) >>> (Int32.toUInt32 4 &&& Int32.toUInt32 31)).toInt32) >>> (Int32.toUInt32 2 &&& Int32.toUInt32 31)).toInt32) hx hb dJ6_numberOfTrailingZeros_0f7a4_72 rfl ?_
            refine lv_istore_n (lv' := [(0, .int ((Int32.toUInt32 ((Int32.toUInt32 ((Int32.toUInt32 ((a0 ^^^ (-1)) &&& (a0 - 1)) >>> (Int32.toUInt32 8 &&& Int32.toUInt32 31)).toInt32) >>> (Int32.toUInt32 4 &&& Int32.toUInt32 31)).toInt32) >>> (Int32.toUInt32 2 &&& Int32.toUInt32 31)).toInt32)), (1, .int (((1 + 8) + 4) + 2))]) hx hb dJ6_numberOfTrailingZeros_0f7a4_73 rfl hl (by decide) rfl (fun ls hl => ?_)
            refine lv_iload_n hx hb dJ6_numberOfTrailingZeros_0f7a4_74 rfl (lv_at hl 1 rfl) ?_
            refine lv_iload_n hx hb dJ6_numberOfTrailingZeros_0f7a4_75 rfl (lv_at hl 0 rfl) ?_
            refine lv_iconst (v := 1) hx hb dJ6_numberOfTrailingZeros_0f7a4_76 (by decide) ?_
            refine lv_iushr (v := (Int32.toUInt32 ((Int32.toUInt32 ((Int32.toUInt32 ((Int32.toUInt32 ((a0 ^^^ (-1)) &&& (a0 - 1)) >>> (Int32.toUInt32 8 &&& Int32.toUInt32 31)).toInt32) >>> (Int32.toUInt32 4 &&& Int32.toUInt32 31)).toInt32) >>> (Int32.toUInt32 2 &&& Int32.toUInt32 31)).toInt32) >>> (Int32.toUInt32 1 &&& Int32.toUInt32 31)).toInt32) hx hb dJ6_numberOfTrailingZeros_0f7a4_77 rfl ?_
            refine lv_iadd hx hb dJ6_numberOfTrailingZeros_0f7a4_78 ?_
            exact W.iret hx hb hr (fun t ht hW => ⟨⟨_, (), rfl, (by rw [m_J6_numberOfTrailingZeros_0f7a4, if_pos c_1, if_pos c_2, if_neg c_3, if_neg c_7, if_neg c_9]), by rw [ht]; exact hP, va_K.moved hW.alike hK, hD⟩, hS.F ht⟩) hS.2.2 dJ6_numberOfTrailingZeros_0f7a4_79
    · refine lv_iinc (v := (1 + 16)) (lv' := [(1, .int (1 + 16)), (0, .int ((a0 ^^^ (-1)) &&& (a0 - 1)))]) hx hb dJ6_numberOfTrailingZeros_0f7a4_26 hl (k := 0) rfl rfl (by decide) rfl (fun ls hl => ?_)
      refine lv_iload_n hx hb dJ6_numberOfTrailingZeros_0f7a4_29 rfl (lv_at hl 1 rfl) ?_
      refine lv_bipush (v := 16) hx hb dJ6_numberOfTrailingZeros_0f7a4_30 (by decide) ?_
      refine lv_iushr (v := (Int32.toUInt32 ((a0 ^^^ (-1)) &&& (a0 - 1)) >>> (Int32.toUInt32 16 &&& Int32.toUInt32 31)).toInt32) hx hb dJ6_numberOfTrailingZeros_0f7a4_32 rfl ?_
      refine lv_istore_n (lv' := [(0, .int ((Int32.toUInt32 ((a0 ^^^ (-1)) &&& (a0 - 1)) >>> (Int32.toUInt32 16 &&& Int32.toUInt32 31)).toInt32)), (1, .int (1 + 16))]) hx hb dJ6_numberOfTrailingZeros_0f7a4_33 rfl hl (by decide) rfl (fun ls hl => ?_)
      refine lv_iload_n hx hb dJ6_numberOfTrailingZeros_0f7a4_34 rfl (lv_at hl 0 rfl) ?_
      refine lv_sipush (v := 256) hx hb dJ6_numberOfTrailingZeros_0f7a4_35 (by decide) ?_
      refine lv_icmp_le (tgt := 49) hx hb dJ6_numberOfTrailingZeros_0f7a4_38 (by decide) (fun c_10 => ?_) (fun c_10 => ?_)
      · refine lv_iload_n hx hb dJ6_numberOfTrailingZeros_0f7a4_49 rfl (lv_at hl 0 rfl) ?_
        refine lv_bipush (v := 16) hx hb dJ6_numberOfTrailingZeros_0f7a4_50 (by decide) ?_
        refine lv_icmp_le (tgt := 62) hx hb dJ6_numberOfTrailingZeros_0f7a4_52 (by decide) (fun c_11 => ?_) (fun c_11 => ?_)
        · refine lv_iload_n hx hb dJ6_numberOfTrailingZeros_0f7a4_62 rfl (lv_at hl 0 rfl) ?_
          refine lv_iconst (v := 4) hx hb dJ6_numberOfTrailingZeros_0f7a4_63 (by decide) ?_
          refine lv_icmp_le (tgt := 74) hx hb dJ6_numberOfTrailingZeros_0f7a4_64 (by decide) (fun c_12 => ?_) (fun c_12 => ?_)
          · refine lv_iload_n hx hb dJ6_numberOfTrailingZeros_0f7a4_74 rfl (lv_at hl 1 rfl) ?_
            refine lv_iload_n hx hb dJ6_numberOfTrailingZeros_0f7a4_75 rfl (lv_at hl 0 rfl) ?_
            refine lv_iconst (v := 1) hx hb dJ6_numberOfTrailingZeros_0f7a4_76 (by decide) ?_
            refine lv_iushr (v := (Int32.toUInt32 ((Int32.toUInt32 ((a0 ^^^ (-1)) &&& (a0 - 1)) >>> (Int32.toUInt32 16 &&& Int32.toUInt32 31)).toInt32) >>> (Int32.toUInt32 1 &&& Int32.toUInt32 31)).toInt32) hx hb dJ6_numberOfTrailingZeros_0f7a4_77 rfl ?_
            refine lv_iadd hx hb dJ6_numberOfTrailingZeros_0f7a4_78 ?_
            exact W.iret hx hb hr (fun t ht hW => ⟨⟨_, (), rfl, (by rw [m_J6_numberOfTrailingZeros_0f7a4, if_pos c_1, if_neg c_2, if_pos c_10, if_pos c_11, if_pos c_12]), by rw [ht]; exact hP, va_K.moved hW.alike hK, hD⟩, hS.F ht⟩) hS.2.2 dJ6_numberOfTrailingZeros_0f7a4_79
          · refine lv_iinc (v := ((1 + 16) + 2)) (lv' := [(1, .int ((1 + 16) + 2)), (0, .int ((Int32.toUInt32 ((a0 ^^^ (-1)) &&& (a0 - 1)) >>> (Int32.toUInt32 16 &&& Int32.toUInt32 31)).toInt32))]) hx hb dJ6_numberOfTrailingZeros_0f7a4_67 hl (k := 1) rfl rfl (by decide) rfl (fun ls hl => ?_)
            refine lv_iload_n hx hb dJ6_numberOfTrailingZeros_0f7a4_70 rfl (lv_at hl 1 rfl) ?_
            refine lv_iconst (v := 2) hx hb dJ6_numberOfTrailingZeros_0f7a4_71 (by decide) ?_
            refine lv_iushr (v := (Int32.toUInt32 ((Int32.toUInt32 ((a0 ^^^ (-1)) &&& (a0 - 1)) >>> (Int32.toUInt32 16 &&& Int32.toUInt32 31)).toInt32) >>> (Int32.toUInt32 2 &&& Int32.toUInt32 31)).toInt32) hx hb dJ6_numberOfTrailingZeros_0f7a4_72 rfl ?_
            refine lv_istore_n (lv' := [(0, .int ((Int32.toUInt32 ((Int32.toUInt32 ((a0 ^^^ (-1)) &&& (a0 - 1)) >>> (Int32.toUInt32 16 &&& Int32.toUInt32 31)).toInt32) >>> (Int32.toUInt32 2 &&& Int32.toUInt32 31)).toInt32)), (1, .int ((1 + 16) + 2))]) hx hb dJ6_numberOfTrailingZeros_0f7a4_73 rfl hl (by decide) rfl (fun ls hl => ?_)
            refine lv_iload_n hx hb dJ6_numberOfTrailingZeros_0f7a4_74 rfl (lv_at hl 1 rfl) ?_
            refine lv_iload_n hx hb dJ6_numberOfTrailingZeros_0f7a4_75 rfl (lv_at hl 0 rfl) ?_
            refine lv_iconst (v := 1) hx hb dJ6_numberOfTrailingZeros_0f7a4_76 (by decide) ?_
            refine lv_iushr (v := (Int32.toUInt32 ((Int32.toUInt32 ((Int32.toUInt32 ((a0 ^^^ (-1)) &&& (a0 - 1)) >>> (Int32.toUInt32 16 &&& Int32.toUInt32 31)).toInt32) >>> (Int32.toUInt32 2 &&& Int32.toUInt32 31)).toInt32) >>> (Int32.toUInt32 1 &&& Int32.toUInt32 31)).toInt32) hx hb dJ6_numberOfTrailingZeros_0f7a4_77 rfl ?_
            refine lv_iadd hx hb dJ6_numberOfTrailingZeros_0f7a4_78 ?_
            exact W.iret hx hb hr (fun t ht hW => ⟨⟨_, (), rfl, (by rw [m_J6_numberOfTrailingZeros_0f7a4, if_pos c_1, if_neg c_2, if_pos c_10, if_pos c_11, if_neg c_12]), by rw [ht]; exact hP, va_K.moved hW.alike hK, hD⟩, hS.F ht⟩) hS.2.2 dJ6_numberOfTrailingZeros_0f7a4_79
        · refine lv_iinc (v := ((1 + 16) + 4)) (lv' := [(1, .int ((1 + 16) + 4)), (0, .int ((Int32.toUInt32 ((a0 ^^^ (-1)) &&& (a0 - 1)) >>> (Int32.toUInt32 16 &&& Int32.toUInt32 31)).toInt32))]) hx hb dJ6_numberOfTrailingZeros_0f7a4_55 hl (k := 1) rfl rfl (by decide) rfl (fun ls hl => ?_)
          refine lv_iload_n hx hb dJ6_numberOfTrailingZeros_0f7a4_58 rfl (lv_at hl 1 rfl) ?_
          refine lv_iconst (v := 4) hx hb dJ6_numberOfTrailingZeros_0f7a4_59 (by decide) ?_
          refine lv_iushr (v := (Int32.toUInt32 ((Int32.toUInt32 ((a0 ^^^ (-1)) &&& (a0 - 1)) >>> (Int32.toUInt32 16 &&& Int32.toUInt32 31)).toInt32) >>> (Int32.toUInt32 4 &&& Int32.toUInt32 31)).toInt32) hx hb dJ6_numberOfTrailingZeros_0f7a4_60 rfl ?_
          refine lv_istore_n (lv' := [(0, .int ((Int32.toUInt32 ((Int32.toUInt32 ((a0 ^^^ (-1)) &&& (a0 - 1)) >>> (Int32.toUInt32 16 &&& Int32.toUInt32 31)).toInt32) >>> (Int32.toUInt32 4 &&& Int32.toUInt32 31)).toInt32)), (1, .int ((1 + 16) + 4))]) hx hb dJ6_numberOfTrailingZeros_0f7a4_61 rfl hl (by decide) rfl (fun ls hl => ?_)
          refine lv_iload_n hx hb dJ6_numberOfTrailingZeros_0f7a4_62 rfl (lv_at hl 0 rfl) ?_
          refine lv_iconst (v := 4) hx hb dJ6_numberOfTrailingZeros_0f7a4_63 (by decide) ?_
          refine lv_icmp_le (tgt := 74) hx hb dJ6_numberOfTrailingZeros_0f7a4_64 (by decide) (fun c_13 => ?_) (fun c_13 => ?_)
          · refine lv_iload_n hx hb dJ6_numberOfTrailingZeros_0f7a4_74 rfl (lv_at hl 1 rfl) ?_
            refine lv_iload_n hx hb dJ6_numberOfTrailingZeros_0f7a4_75 rfl (lv_at hl 0 rfl) ?_
            refine lv_iconst (v := 1) hx hb dJ6_numberOfTrailingZeros_0f7a4_76 (by decide) ?_
            refine lv_iushr (v := (Int32.toUInt32 ((Int32.toUInt32 ((Int32.toUInt32 ((a0 ^^^ (-1)) &&& (a0 - 1)) >>> (Int32.toUInt32 16 &&& Int32.toUInt32 31)).toInt32) >>> (Int32.toUInt32 4 &&& Int32.toUInt32 31)).toInt32) >>> (Int32.toUInt32 1 &&& Int32.toUInt32 31)).toInt32) hx hb dJ6_numberOfTrailingZeros_0f7a4_77 rfl ?_
            refine lv_iadd hx hb dJ6_numberOfTrailingZeros_0f7a4_78 ?_
            exact W.iret hx hb hr (fun t ht hW => ⟨⟨_, (), rfl, (by rw [m_J6_numberOfTrailingZeros_0f7a4, if_pos c_1, if_neg c_2, if_pos c_10, if_neg c_11, if_pos c_13]), by rw [ht]; exact hP, va_K.moved hW.alike hK, hD⟩, hS.F ht⟩) hS.2.2 dJ6_numberOfTrailingZeros_0f7a4_79
          · refine lv_iinc (v := (((1 + 16) + 4) + 2)) (lv' := [(1, .int (((1 + 16) + 4) + 2)), (0, .int ((Int32.toUInt32 ((Int32.toUInt32 ((a0 ^^^ (-1)) &&& (a0 - 1)) >>> (Int32.toUInt32 16 &&& Int32.toUInt32 31)).toInt32) >>> (Int32.toUInt32 4 &&& Int32.toUInt32 31)).toInt32))]) hx hb dJ6_numberOfTrailingZeros_0f7a4_67 hl (k := 1) rfl rfl (by decide) rfl (fun ls hl => ?_)
            refine lv_iload_n hx hb dJ6_numberOfTrailingZeros_0f7a4_70 rfl (lv_at hl 1 rfl) ?_
            refine lv_iconst (v := 2) hx hb dJ6_numberOfTrailingZeros_0f7a4_71 (by decide) ?_
            refine lv_iushr (v := (Int32.toUInt32 ((Int32.toUInt32 ((Int32.toUInt32 ((a0 ^^^ (-1)) &&& (a0 - 1)) >>> (Int32.toUInt32 16 &&& Int32.toUInt32 31)).toInt32) >>> (Int32.toUInt32 4 &&& Int32.toUInt32 31)).toInt32) >>> (Int32.toUInt32 2 &&& Int32.toUInt32 31)).toInt32) hx hb dJ6_numberOfTrailingZeros_0f7a4_72 rfl ?_
            refine lv_istore_n (lv' := [(0, .int ((Int32.toUInt32 ((Int32.toUInt32 ((Int32.toUInt32 ((a0 ^^^ (-1)) &&& (a0 - 1)) >>> (Int32.toUInt32 16 &&& Int32.toUInt32 31)).toInt32) >>> (Int32.toUInt32 4 &&& Int32.toUInt32 31)).toInt32) >>> (Int32.toUInt32 2 &&& Int32.toUInt32 31)).toInt32)), (1, .int (((1 + 16) + 4) + 2))]) hx hb dJ6_numberOfTrailingZeros_0f7a4_73 rfl hl (by decide) rfl (fun ls hl => ?_)
            refine lv_iload_n hx hb dJ6_numberOfTrailingZeros_0f7a4_74 rfl (lv_at hl 1 rfl) ?_
            refine lv_iload_n hx hb dJ6_numberOfTrailingZeros_0f7a4_75 rfl (lv_at hl 0 rfl) ?_
            refine lv_iconst (v := 1) hx hb dJ6_numberOfTrailingZeros_0f7a4_76 (by decide) ?_
            refine lv_iushr (v := (Int32.toUInt32 ((Int32.toUInt32 ((Int32.toUInt32 ((Int32.toUInt32 ((a0 ^^^ (-1)) &&& (a0 - 1)) >>> (Int32.toUInt32 16 &&& Int32.toUInt32 31)).toInt32) >>> (Int32.toUInt32 4 &&& Int32.toUInt32 31)).toInt32) >>> (Int32.toUInt32 2 &&& Int32.toUInt32 31)).toInt32) >>> (Int32.toUInt32 1 &&& Int32.toUInt32 31)).toInt32) hx hb dJ6_numberOfTrailingZeros_0f7a4_77 rfl ?_
            refine lv_iadd hx hb dJ6_numberOfTrailingZeros_0f7a4_78 ?_
            exact W.iret hx hb hr (fun t ht hW => ⟨⟨_, (), rfl, (by rw [m_J6_numberOfTrailingZeros_0f7a4, if_pos c_1, if_neg c_2, if_pos c_10, if_neg c_11, if_neg c_13]), by rw [ht]; exact hP, va_K.moved hW.alike hK, hD⟩, hS.F ht⟩) hS.2.2 dJ6_numberOfTrailingZeros_0f7a4_79
      · refine lv_iinc (v := ((1 + 16) + 8)) (lv' := [(1, .int ((1 + 16) + 8)), (0, .int ((Int32.toUInt32 ((a0 ^^^ (-1)) &&& (a0 - 1)) >>> (Int32.toUInt32 16 &&& Int32.toUInt32 31)).toInt32))]) hx hb dJ6_numberOfTrailingZeros_0f7a4_41 hl (k := 1) rfl rfl (by decide) rfl (fun ls hl => ?_)
        refine lv_iload_n hx hb dJ6_numberOfTrailingZeros_0f7a4_44 rfl (lv_at hl 1 rfl) ?_
        refine lv_bipush (v := 8) hx hb dJ6_numberOfTrailingZeros_0f7a4_45 (by decide) ?_
        refine lv_iushr (v := (Int32.toUInt32 ((Int32.toUInt32 ((a0 ^^^ (-1)) &&& (a0 - 1)) >>> (Int32.toUInt32 16 &&& Int32.toUInt32 31)).toInt32) >>> (Int32.toUInt32 8 &&& Int32.toUInt32 31)).toInt32) hx hb dJ6_numberOfTrailingZeros_0f7a4_47 rfl ?_
        refine lv_istore_n (lv' := [(0, .int ((Int32.toUInt32 ((Int32.toUInt32 ((a0 ^^^ (-1)) &&& (a0 - 1)) >>> (Int32.toUInt32 16 &&& Int32.toUInt32 31)).toInt32) >>> (Int32.toUInt32 8 &&& Int32.toUInt32 31)).toInt32)), (1, .int ((1 + 16) + 8))]) hx hb dJ6_numberOfTrailingZeros_0f7a4_48 rfl hl (by decide) rfl (fun ls hl => ?_)
        refine lv_iload_n hx hb dJ6_numberOfTrailingZeros_0f7a4_49 rfl (lv_at hl 0 rfl) ?_
        refine lv_bipush (v := 16) hx hb dJ6_numberOfTrailingZeros_0f7a4_50 (by decide) ?_
        refine lv_icmp_le (tgt := 62) hx hb dJ6_numberOfTrailingZeros_0f7a4_52 (by decide) (fun c_14 => ?_) (fun c_14 => ?_)
        · refine lv_iload_n hx hb dJ6_numberOfTrailingZeros_0f7a4_62 rfl (lv_at hl 0 rfl) ?_
          refine lv_iconst (v := 4) hx hb dJ6_numberOfTrailingZeros_0f7a4_63 (by decide) ?_
          refine lv_icmp_le (tgt := 74) hx hb dJ6_numberOfTrailingZeros_0f7a4_64 (by decide) (fun c_15 => ?_) (fun c_15 => ?_)
          · refine lv_iload_n hx hb dJ6_numberOfTrailingZeros_0f7a4_74 rfl (lv_at hl 1 rfl) ?_
            refine lv_iload_n hx hb dJ6_numberOfTrailingZeros_0f7a4_75 rfl (lv_at hl 0 rfl) ?_
            refine lv_iconst (v := 1) hx hb dJ6_numberOfTrailingZeros_0f7a4_76 (by decide) ?_
            refine lv_iushr (v := (Int32.toUInt32 ((Int32.toUInt32 ((Int32.toUInt32 ((a0 ^^^ (-1)) &&& (a0 - 1)) >>> (Int32.toUInt32 16 &&& Int32.toUInt32 31)).toInt32) >>> (Int32.toUInt32 8 &&& Int32.toUInt32 31)).toInt32) >>> (Int32.toUInt32 1 &&& Int32.toUInt32 31)).toInt32) hx hb dJ6_numberOfTrailingZeros_0f7a4_77 rfl ?_
            refine lv_iadd hx hb dJ6_numberOfTrailingZeros_0f7a4_78 ?_
            exact W.iret hx hb hr (fun t ht hW => ⟨⟨_, (), rfl, (by rw [m_J6_numberOfTrailingZeros_0f7a4, if_pos c_1, if_neg c_2, if_neg c_10, if_pos c_14, if_pos c_15]), by rw [ht]; exact hP, va_K.moved hW.alike hK, hD⟩, hS.F ht⟩) hS.2.2 dJ6_numberOfTrailingZeros_0f7a4_79
          · refine lv_iinc (v := (((1 + 16) + 8) + 2)) (lv' := [(1, .int (((1 + 16) + 8) + 2)), (0, .int ((Int32.toUInt32 ((Int32.toUInt32 ((a0 ^^^ (-1)) &&& (a0 - 1)) >>> (Int32.toUInt32 16 &&& Int32.toUInt32 31)).toInt32) >>> (Int32.toUInt32 8 &&& Int32.toUInt32 31)).toInt32))]) hx hb dJ6_numberOfTrailingZeros_0f7a4_67 hl (k := 1) rfl rfl (by decide) rfl (fun ls hl => ?_)
            refine lv_iload_n hx hb dJ6_numberOfTrailingZeros_0f7a4_70 rfl (lv_at hl 1 rfl) ?_
            refine lv_iconst (v := 2) hx hb dJ6_numberOfTrailingZeros_0f7a4_71 (by decide) ?_
            refine lv_iushr (v := (Int32.toUInt32 ((Int32.toUInt32 ((Int32.toUInt32 ((a0 ^^^ (-1)) &&& (a0 - 1)) >>> (Int32.toUInt32 16 &&& Int32.toUInt32 31)).toInt32) >>> (Int32.toUInt32 8 &&& Int32.toUInt32 31)).toInt32) >>> (Int32.toUInt32 2 &&& Int32.toUInt32 31)).toInt32) hx hb dJ6_numberOfTrailingZeros_0f7a4_72 rfl ?_
            refine lv_istore_n (lv' := [(0, .int ((Int32.toUInt32 ((Int32.toUInt32 ((Int32.toUInt32 ((a0 ^^^ (-1)) &&& (a0 - 1)) >>> (Int32.toUInt32 16 &&& Int32.toUInt32 31)).toInt32) >>> (Int32.toUInt32 8 &&& Int32.toUInt32 31)).toInt32) >>> (Int32.toUInt32 2 &&& Int32.toUInt32 31)).toInt32)), (1, .int (((1 + 16) + 8) + 2))]) hx hb dJ6_numberOfTrailingZeros_0f7a4_73 rfl hl (by decide) rfl (fun ls hl => ?_)
            refine lv_iload_n hx hb dJ6_numberOfTrailingZeros_0f7a4_74 rfl (lv_at hl 1 rfl) ?_
            refine lv_iload_n hx hb dJ6_numberOfTrailingZeros_0f7a4_75 rfl (lv_at hl 0 rfl) ?_
            refine lv_iconst (v := 1) hx hb dJ6_numberOfTrailingZeros_0f7a4_76 (by decide) ?_
            refine lv_iushr (v := (Int32.toUInt32 ((Int32.toUInt32 ((Int32.toUInt32 ((Int32.toUInt32 ((a0 ^^^ (-1)) &&& (a0 - 1)) >>> (Int32.toUInt32 16 &&& Int32.toUInt32 31)).toInt32) >>> (Int32.toUInt32 8 &&& Int32.toUInt32 31)).toInt32) >>> (Int32.toUInt32 2 &&& Int32.toUInt32 31)).toInt32) >>> (Int32.toUInt32 1 &&& Int32.toUInt32 31)).toInt32) hx hb dJ6_numberOfTrailingZeros_0f7a4_77 rfl ?_
            refine lv_iadd hx hb dJ6_numberOfTrailingZeros_0f7a4_78 ?_
            exact W.iret hx hb hr (fun t ht hW => ⟨⟨_, (), rfl, (by rw [m_J6_numberOfTrailingZeros_0f7a4, if_pos c_1, if_neg c_2, if_neg c_10, if_pos c_14, if_neg c_15]), by rw [ht]; exact hP, va_K.moved hW.alike hK, hD⟩, hS.F ht⟩) hS.2.2 dJ6_numberOfTrailingZeros_0f7a4_79
        · refine lv_iinc (v := (((1 + 16) + 8) + 4)) (lv' := [(1, .int (((1 + 16) + 8) + 4)), (0, .int ((Int32.toUInt32 ((Int32.toUInt32 ((a0 ^^^ (-1)) &&& (a0 - 1)) >>> (Int32.toUInt32 16 &&& Int32.toUInt32 31)).toInt32) >>> (Int32.toUInt32 8 &&& Int32.toUInt32 31)).toInt32))]) hx hb dJ6_numberOfTrailingZeros_0f7a4_55 hl (k := 1) rfl rfl (by decide) rfl (fun ls hl => ?_)
          refine lv_iload_n hx hb dJ6_numberOfTrailingZeros_0f7a4_58 rfl (lv_at hl 1 rfl) ?_
          refine lv_iconst (v := 4) hx hb dJ6_numberOfTrailingZeros_0f7a4_59 (by decide) ?_
          refine lv_iushr (v := (Int32.toUInt32 ((Int32.toUInt32 ((Int32.toUInt32 ((a0 ^^^ (-1)) &&& (a0 - 1)) >>> (Int32.toUInt32 16 &&& Int32.toUInt32 31)).toInt32) >>> (Int32.toUInt32 8 &&& Int32.toUInt32 31)).toInt32) >>> (Int32.toUInt32 4 &&& Int32.toUInt32 31)).toInt32) hx hb dJ6_numberOfTrailingZeros_0f7a4_60 rfl ?_
          refine lv_istore_n (lv' := [(0, .int ((Int32.toUInt32 ((Int32.toUInt32 ((Int32.toUInt32 ((a0 ^^^ (-1)) &&& (a0 - 1)) >>> (Int32.toUInt32 16 &&& Int32.toUInt32 31)).toInt32) >>> (Int32.toUInt32 8 &&& Int32.toUInt32 31)).toInt32) >>> (Int32.toUInt32 4 &&& Int32.toUInt32 31)).toInt32)), (1, .int (((1 + 16) + 8) + 4))]) hx hb dJ6_numberOfTrailingZeros_0f7a4_61 rfl hl (by decide) rfl (fun ls hl => ?_)
          refine lv_iload_n hx hb dJ6_numberOfTrailingZeros_0f7a4_62 rfl (lv_at hl 0 rfl) ?_
          refine lv_iconst (v := 4) hx hb dJ6_numberOfTrailingZeros_0f7a4_63 (by decide) ?_
          refine lv_icmp_le (tgt := 74) hx hb dJ6_numberOfTrailingZeros_0f7a4_64 (by decide) (fun c_16 => ?_) (fun c_16 => ?_)
          · refine lv_iload_n hx hb dJ6_numberOfTrailingZeros_0f7a4_74 rfl (lv_at hl 1 rfl) ?_
            refine lv_iload_n hx hb dJ6_numberOfTrailingZeros_0f7a4_75 rfl (lv_at hl 0 rfl) ?_
            refine lv_iconst (v := 1) hx hb dJ6_numberOfTrailingZeros_0f7a4_76 (by decide) ?_
            refine lv_iushr (v := (Int32.toUInt32 ((Int32.toUInt32 ((Int32.toUInt32 ((Int32.toUInt32 ((a0 ^^^ (-1)) &&& (a0 - 1)) >>> (Int32.toUInt32 16 &&& Int32.toUInt32 31)).toInt32) >>> (Int32.toUInt32 8 &&& Int32.toUInt32 31)).toInt32) >>> (Int32.toUInt32 4 &&& Int32.toUInt32 31)).toInt32) >>> (Int32.toUInt32 1 &&& Int32.toUInt32 31)).toInt32) hx hb dJ6_numberOfTrailingZeros_0f7a4_77 rfl ?_
            refine lv_iadd hx hb dJ6_numberOfTrailingZeros_0f7a4_78 ?_
            exact W.iret hx hb hr (fun t ht hW => ⟨⟨_, (), rfl, (by rw [m_J6_numberOfTrailingZeros_0f7a4, if_pos c_1, if_neg c_2, if_neg c_10, if_neg c_14, if_pos c_16]), by rw [ht]; exact hP, va_K.moved hW.alike hK, hD⟩, hS.F ht⟩) hS.2.2 dJ6_numberOfTrailingZeros_0f7a4_79
          · refine lv_iinc (v := ((((1 + 16) + 8) + 4) + 2)) (lv' := [(1, .int ((((1 + 16) + 8) + 4) + 2)), (0, .int ((Int32.toUInt32 ((Int32.toUInt32 ((Int32.toUInt32 ((a0 ^^^ (-1)) &&& (a0 - 1)) >>> (Int32.toUInt32 16 &&& Int32.toUInt32 31)).toInt32) >>> (Int32.toUInt32 8 &&& Int32.toUInt32 31)).toInt32) >>> (Int32.toUInt32 4 &&& Int32.toUInt32 31)).toInt32))]) hx hb dJ6_numberOfTrailingZeros_0f7a4_67 hl (k := 1) rfl rfl (by decide) rfl (fun ls hl => ?_)
            refine lv_iload_n hx hb dJ6_numberOfTrailingZeros_0f7a4_70 rfl (lv_at hl 1 rfl) ?_
            refine lv_iconst (v := 2) hx hb dJ6_numberOfTrailingZeros_0f7a4_71 (by decide) ?_
            refine lv_iushr (v := (Int32.toUInt32 ((Int32.toUInt32 ((Int32.toUInt32 ((Int32.toUInt32 ((a0 ^^^ (-1)) &&& (a0 - 1)) >>> (Int32.toUInt32 16 &&& Int32.toUInt32 31)).toInt32) >>> (Int32.toUInt32 8 &&& Int32.toUInt32 31)).toInt32) >>> (Int32.toUInt32 4 &&& Int32.toUInt32 31)).toInt32) >>> (Int32.toUInt32 2 &&& Int32.toUInt32 31)).toInt32) hx hb dJ6_numberOfTrailingZeros_0f7a4_72 rfl ?_
            refine lv_istore_n (lv' := [(0, .int ((Int32.toUInt32 ((Int32.toUInt32 ((Int32.toUInt32 ((Int32.toUInt32 ((a0 ^^^ (-1)) &&& (a0 - 1)) >>> (Int32.toUInt32 16 &&& Int32.toUInt32 31)).toInt32) >>> (Int32.toUInt32 8 &&& Int32.toUInt32 31)).toInt32) >>> (Int32.toUInt32 4 &&& Int32.toUInt32 31)).toInt32) >>> (Int32.toUInt32 2 &&& Int32.toUInt32 31)).toInt32)), (1, .int ((((1 + 16) + 8) + 4) + 2))]) hx hb dJ6_numberOfTrailingZeros_0f7a4_73 rfl hl (by decide) rfl (fun ls hl => ?_)
            refine lv_iload_n hx hb dJ6_numberOfTrailingZeros_0f7a4_74 rfl (lv_at hl 1 rfl) ?_
            refine lv_iload_n hx hb dJ6_numberOfTrailingZeros_0f7a4_75 rfl (lv_at hl 0 rfl) ?_
            refine lv_iconst (v := 1) hx hb dJ6_numberOfTrailingZeros_0f7a4_76 (by decide) ?_
            refine lv_iushr (v := (Int32.toUInt32 ((Int32.toUInt32 ((Int32.toUInt32 ((Int32.toUInt32 ((Int32.toUInt32 ((a0 ^^^ (-1)) &&& (a0 - 1)) >>> (Int32.toUInt32 16 &&& Int32.toUInt32 31)).toInt32) >>> (Int32.toUInt32 8 &&& Int32.toUInt32 31)).toInt32) >>> (Int32.toUInt32 4 &&& Int32.toUInt32 31)).toInt32) >>> (Int32.toUInt32 2 &&& Int32.toUInt32 31)).toInt32) >>> (Int32.toUInt32 1 &&& Int32.toUInt32 31)).toInt32) hx hb dJ6_numberOfTrailingZeros_0f7a4_77 rfl ?_
            refine lv_iadd hx hb dJ6_numberOfTrailingZeros_0f7a4_78 ?_
            exact W.iret hx hb hr (fun t ht hW => ⟨⟨_, (), rfl, (by rw [m_J6_numberOfTrailingZeros_0f7a4, if_pos c_1, if_neg c_2, if_neg c_10, if_neg c_14, if_neg c_16]), by rw [ht]; exact hP, va_K.moved hW.alike hK, hD⟩, hS.F ht⟩) hS.2.2 dJ6_numberOfTrailingZeros_0f7a4_79
  · refine lv_iload_n hx hb dJ6_numberOfTrailingZeros_0f7a4_12 rfl (lv_at hl 0 rfl) ?_
    refine lv_bipush (v := 32) hx hb dJ6_numberOfTrailingZeros_0f7a4_13 (by decide) ?_
    refine lv_iand hx hb dJ6_numberOfTrailingZeros_0f7a4_15 ?_
    exact W.iret hx hb hr (fun t ht hW => ⟨⟨_, (), rfl, (by rw [m_J6_numberOfTrailingZeros_0f7a4, if_neg c_1]), by rw [ht]; exact hP, va_K.moved hW.alike hK, hD⟩, hS.F ht⟩) hS.2.2 dJ6_numberOfTrailingZeros_0f7a4_16
-- X0_isUser
def m_X0_isUser (a0 : Int32) : (Int32) := (if a0 < 0 then 0 else (if 8 ≤ a0 then 0 else 1))
theorem nb_X0_isUser (a0 : Int32) : narrow .boolean (.int (m_X0_isUser a0)) = .int (m_X0_isUser a0) := by
  unfold m_X0_isUser; repeat' split
  all_goals rfl
set_option maxHeartbeats 4000000 in
set_option maxRecDepth 100000 in
theorem c_X0_isUser (l : Launch) (D : va_G) (sz : Nat) (a0 : Int32) : Met l yX0_isUser wsX0_isUser ({ frames := 0, cells := 0, slots := 0, locals := 0 }) (va_Pc [.int a0] (bx_Pre D [] ([]) sz)) (va_Qi (fun (r : Int32) (_ : Unit) => r = m_X0_isUser a0) (fun (_ : Unit) t => bx_Post D [] ([]) (va_A ([]) sz) t) (va_A ([]) sz)) 0 0 (va_A ([]) sz) := by
  refine Met.ofW (cc := cX0_isUser) (maxL := 1) (ret := (some .boolean)) (by decide) rfl ?_
  intro p e s m args below meth c s₁ B hml hv
  obtain ⟨rfl, hsz, hP, hK, hD0⟩ := hv
  have hx := B.exec
  have hb := B.bytes
  have hr := B.returns
  have hts := atoms_spec (ws := wsX0_isUser) B.pre
  have hown : s.vm.findClass RX0 = some m.cls := findClass_of_methodNamed B.named
  have hlocks := B.notSynchronized
  subst hsz
  have hD := hD0.self (sz := s.heap.size)
  generalize hAe : va_A ([]) s.heap.size = A at hD ⊢
  have hA : ∀ q : Nat, s.heap.size ≤ q → A q := fun q h9 => by rw [← hAe]; exact Or.inr h9
  have hS : va_S A s.heap s.heap [] := va_S.rf
  have hl := lv_entry ([.int a0]) (n := 1) (Nat.le_of_ble_eq_true rfl)
  rw [lg_entry_eq]
  generalize (lg_sl ([.int a0]) ++ List.replicate (1 - (lg_sl ([.int a0])).length) Slot.unset).toArray = ls at hl ⊢
  have hl : lv_has ls 1 [(0, .int a0)] := hl
  refine lv_iload_n hx hb dX0_isUser_0 rfl (lv_at hl 0 rfl) ?_
  refine lv_if_lt (tgt := 14) hx hb dX0_isUser_1 (by decide) (fun c_1 => ?_) (fun c_1 => ?_)
  · refine lv_iconst (v := 0) hx hb dX0_isUser_14 (by decide) ?_
    exact W.zret hx hb hr rfl (fun t ht hW => ⟨⟨_, (), rfl, (by rw [m_X0_isUser, if_pos c_1]), by rw [ht]; exact hP, va_K.moved hW.alike hK, hD⟩, hS.F ht⟩) hS.2.2 dX0_isUser_15
  · refine lv_iload_n hx hb dX0_isUser_4 rfl (lv_at hl 0 rfl) ?_
    refine lv_bipush (v := 8) hx hb dX0_isUser_5 (by decide) ?_
    refine lv_icmp_ge (tgt := 14) hx hb dX0_isUser_7 (by decide) (fun c_2 => ?_) (fun c_2 => ?_)
    · refine lv_iconst (v := 0) hx hb dX0_isUser_14 (by decide) ?_
      exact W.zret hx hb hr rfl (fun t ht hW => ⟨⟨_, (), rfl, (by rw [m_X0_isUser, if_neg c_1, if_pos c_2]), by rw [ht]; exact hP, va_K.moved hW.alike hK, hD⟩, hS.F ht⟩) hS.2.2 dX0_isUser_15
    · refine lv_iconst (v := 1) hx hb dX0_isUser_10 (by decide) ?_
      refine lv_goto (tgt := 15) hx hb dX0_isUser_11 (by decide) ?_
      exact W.zret hx hb hr rfl (fun t ht hW => ⟨⟨_, (), rfl, (by rw [m_X0_isUser, if_neg c_1, if_neg c_2]), by rw [ht]; exact hP, va_K.moved hW.alike hK, hD⟩, hS.F ht⟩) hS.2.2 dX0_isUser_15
-- X0_isPermission
def m_X0_isPermission (a0 : Int32) : (Int32) := (if a0 < 0 then 0 else (if 12 ≤ a0 then 0 else 1))
theorem nb_X0_isPermission (a0 : Int32) : narrow .boolean (.int (m_X0_isPermission a0)) = .int (m_X0_isPermission a0) := by
  unfold m_X0_isPermission; repeat' split
  all_goals rfl
set_option maxHeartbeats 4000000 in
set_option maxRecDepth 100000 in
theorem c_X0_isPermission (l : Launch) (D : va_G) (sz : Nat) (a0 : Int32) : Met l yX0_isPermission wsX0_isPermission ({ frames := 0, cells := 0, slots := 0, locals := 0 }) (va_Pc [.int a0] (bx_Pre D [] ([]) sz)) (va_Qi (fun (r : Int32) (_ : Unit) => r = m_X0_isPermission a0) (fun (_ : Unit) t => bx_Post D [] ([]) (va_A ([]) sz) t) (va_A ([]) sz)) 0 0 (va_A ([]) sz) := by
  refine Met.ofW (cc := cX0_isPermission) (maxL := 1) (ret := (some .boolean)) (by decide) rfl ?_
  intro p e s m args below meth c s₁ B hml hv
  obtain ⟨rfl, hsz, hP, hK, hD0⟩ := hv
  have hx := B.exec
  have hb := B.bytes
  have hr := B.returns
  have hts := atoms_spec (ws := wsX0_isPermission) B.pre
  have hown : s.vm.findClass RX0 = some m.cls := findClass_of_methodNamed B.named
  have hlocks := B.notSynchronized
  subst hsz
  have hD := hD0.self (sz := s.heap.size)
  generalize hAe : va_A ([]) s.heap.size = A at hD ⊢
  have hA : ∀ q : Nat, s.heap.size ≤ q → A q := fun q h9 => by rw [← hAe]; exact Or.inr h9
  have hS : va_S A s.heap s.heap [] := va_S.rf
  have hl := lv_entry ([.int a0]) (n := 1) (Nat.le_of_ble_eq_true rfl)
  rw [lg_entry_eq]
  generalize (lg_sl ([.int a0]) ++ List.replicate (1 - (lg_sl ([.int a0])).length) Slot.unset).toArray = ls at hl ⊢
  have hl : lv_has ls 1 [(0, .int a0)] := hl
  refine lv_iload_n hx hb dX0_isPermission_0 rfl (lv_at hl 0 rfl) ?_
  refine lv_if_lt (tgt := 14) hx hb dX0_isPermission_1 (by decide) (fun c_1 => ?_) (fun c_1 => ?_)
  · refine lv_iconst (v := 0) hx hb dX0_isPermission_14 (by decide) ?_
    exact W.zret hx hb hr rfl (fun t ht hW => ⟨⟨_, (), rfl, (by rw [m_X0_isPermission, if_pos c_1]), by rw [ht]; exact hP, va_K.moved hW.alike hK, hD⟩, hS.F ht⟩) hS.2.2 dX0_isPermission_15
  · refine lv_iload_n hx hb dX0_isPermission_4 rfl (lv_at hl 0 rfl) ?_
    refine lv_bipush (v := 12) hx hb dX0_isPermission_5 (by decide) ?_
    refine lv_icmp_ge (tgt := 14) hx hb dX0_isPermission_7 (by decide) (fun c_2 => ?_) (fun c_2 => ?_)
    · refine lv_iconst (v := 0) hx hb dX0_isPermission_14 (by decide) ?_
      exact W.zret hx hb hr rfl (fun t ht hW => ⟨⟨_, (), rfl, (by rw [m_X0_isPermission, if_neg c_1, if_pos c_2]), by rw [ht]; exact hP, va_K.moved hW.alike hK, hD⟩, hS.F ht⟩) hS.2.2 dX0_isPermission_15
    · refine lv_iconst (v := 1) hx hb dX0_isPermission_10 (by decide) ?_
      refine lv_goto (tgt := 15) hx hb dX0_isPermission_11 (by decide) ?_
      exact W.zret hx hb hr rfl (fun t ht hW => ⟨⟨_, (), rfl, (by rw [m_X0_isPermission, if_neg c_1, if_neg c_2]), by rw [ht]; exact hP, va_K.moved hW.alike hK, hD⟩, hS.F ht⟩) hS.2.2 dX0_isPermission_15
-- X0_isPermissionSet
def m_X0_isPermissionSet (a0 : Int32) : (Int32) := (if a0 < 0 then 0 else (if 4095 < a0 then 0 else 1))
theorem nb_X0_isPermissionSet (a0 : Int32) : narrow .boolean (.int (m_X0_isPermissionSet a0)) = .int (m_X0_isPermissionSet a0) := by
  unfold m_X0_isPermissionSet; repeat' split
  all_goals rfl
set_option maxHeartbeats 4000000 in
set_option maxRecDepth 100000 in
theorem c_X0_isPermissionSet (l : Launch) (D : va_G) (sz : Nat) (a0 : Int32) : Met l yX0_isPermissionSet wsX0_isPermissionSet ({ frames := 0, cells := 0, slots := 0, locals := 0 }) (va_Pc [.int a0] (bx_Pre D [] ([]) sz)) (va_Qi (fun (r : Int32) (_ : Unit) => r = m_X0_isPermissionSet a0) (fun (_ : Unit) t => bx_Post D [] ([]) (va_A ([]) sz) t) (va_A ([]) sz)) 0 0 (va_A ([]) sz) := by
  refine Met.ofW (cc := cX0_isPermissionSet) (maxL := 1) (ret := (some .boolean)) (by decide) rfl ?_
  intro p e s m args below meth c s₁ B hml hv
  obtain ⟨rfl, hsz, hP, hK, hD0⟩ := hv
  have hx := B.exec
  have hb := B.bytes
  have hr := B.returns
  have hts := atoms_spec (ws := wsX0_isPermissionSet) B.pre
  have hown : s.vm.findClass RX0 = some m.cls := findClass_of_methodNamed B.named
  have hlocks := B.notSynchronized
  subst hsz
  have hD := hD0.self (sz := s.heap.size)
  generalize hAe : va_A ([]) s.heap.size = A at hD ⊢
  have hA : ∀ q : Nat, s.heap.size ≤ q → A q := fun q h9 => by rw [← hAe]; exact Or.inr h9
  have hS : va_S A s.heap s.heap [] := va_S.rf
  have hl := lv_entry ([.int a0]) (n := 1) (Nat.le_of_ble_eq_true rfl)
  rw [lg_entry_eq]
  generalize (lg_sl ([.int a0]) ++ List.replicate (1 - (lg_sl ([.int a0])).length) Slot.unset).toArray = ls at hl ⊢
  have hl : lv_has ls 1 [(0, .int a0)] := hl
  refine lv_iload_n hx hb dX0_isPermissionSet_0 rfl (lv_at hl 0 rfl) ?_
  refine lv_if_lt (tgt := 15) hx hb dX0_isPermissionSet_1 (by decide) (fun c_1 => ?_) (fun c_1 => ?_)
  · refine lv_iconst (v := 0) hx hb dX0_isPermissionSet_15 (by decide) ?_
    exact W.zret hx hb hr rfl (fun t ht hW => ⟨⟨_, (), rfl, (by rw [m_X0_isPermissionSet, if_pos c_1]), by rw [ht]; exact hP, va_K.moved hW.alike hK, hD⟩, hS.F ht⟩) hS.2.2 dX0_isPermissionSet_16
  · refine lv_iload_n hx hb dX0_isPermissionSet_4 rfl (lv_at hl 0 rfl) ?_
    refine lv_sipush (v := 4095) hx hb dX0_isPermissionSet_5 (by decide) ?_
    refine lv_icmp_gt (tgt := 15) hx hb dX0_isPermissionSet_8 (by decide) (fun c_2 => ?_) (fun c_2 => ?_)
    · refine lv_iconst (v := 0) hx hb dX0_isPermissionSet_15 (by decide) ?_
      exact W.zret hx hb hr rfl (fun t ht hW => ⟨⟨_, (), rfl, (by rw [m_X0_isPermissionSet, if_neg c_1, if_pos c_2]), by rw [ht]; exact hP, va_K.moved hW.alike hK, hD⟩, hS.F ht⟩) hS.2.2 dX0_isPermissionSet_16
    · refine lv_iconst (v := 1) hx hb dX0_isPermissionSet_11 (by decide) ?_
      refine lv_goto (tgt := 16) hx hb dX0_isPermissionSet_12 (by decide) ?_
      exact W.zret hx hb hr rfl (fun t ht hW => ⟨⟨_, (), rfl, (by rw [m_X0_isPermissionSet, if_neg c_1, if_neg c_2]), by rw [ht]; exact hP, va_K.moved hW.alike hK, hD⟩, hS.F ht⟩) hS.2.2 dX0_isPermissionSet_16
-- X0_isCost
def m_X0_isCost (a0 : Int32) : (Int32) := (if a0 < 0 then 0 else (if 100 < a0 then 0 else 1))
theorem nb_X0_isCost (a0 : Int32) : narrow .boolean (.int (m_X0_isCost a0)) = .int (m_X0_isCost a0) := by
  unfold m_X0_isCost; repeat' split
  all_goals rfl
set_option maxHeartbeats 4000000 in
set_option maxRecDepth 100000 in
theorem c_X0_isCost (l : Launch) (D : va_G) (sz : Nat) (a0 : Int32) : Met l yX0_isCost wsX0_isCost ({ frames := 0, cells := 0, slots := 0, locals := 0 }) (va_Pc [.int a0] (bx_Pre D [] ([]) sz)) (va_Qi (fun (r : Int32) (_ : Unit) => r = m_X0_isCost a0) (fun (_ : Unit) t => bx_Post D [] ([]) (va_A ([]) sz) t) (va_A ([]) sz)) 0 0 (va_A ([]) sz) := by
  refine Met.ofW (cc := cX0_isCost) (maxL := 1) (ret := (some .boolean)) (by decide) rfl ?_
  intro p e s m args below meth c s₁ B hml hv
  obtain ⟨rfl, hsz, hP, hK, hD0⟩ := hv
  have hx := B.exec
  have hb := B.bytes
  have hr := B.returns
  have hts := atoms_spec (ws := wsX0_isCost) B.pre
  have hown : s.vm.findClass RX0 = some m.cls := findClass_of_methodNamed B.named
  have hlocks := B.notSynchronized
  subst hsz
  have hD := hD0.self (sz := s.heap.size)
  generalize hAe : va_A ([]) s.heap.size = A at hD ⊢
  have hA : ∀ q : Nat, s.heap.size ≤ q → A q := fun q h9 => by rw [← hAe]; exact Or.inr h9
  have hS : va_S A s.heap s.heap [] := va_S.rf
  have hl := lv_entry ([.int a0]) (n := 1) (Nat.le_of_ble_eq_true rfl)
  rw [lg_entry_eq]
  generalize (lg_sl ([.int a0]) ++ List.replicate (1 - (lg_sl ([.int a0])).length) Slot.unset).toArray = ls at hl ⊢
  have hl : lv_has ls 1 [(0, .int a0)] := hl
  refine lv_iload_n hx hb dX0_isCost_0 rfl (lv_at hl 0 rfl) ?_
  refine lv_if_lt (tgt := 14) hx hb dX0_isCost_1 (by decide) (fun c_1 => ?_) (fun c_1 => ?_)
  · refine lv_iconst (v := 0) hx hb dX0_isCost_14 (by decide) ?_
    exact W.zret hx hb hr rfl (fun t ht hW => ⟨⟨_, (), rfl, (by rw [m_X0_isCost, if_pos c_1]), by rw [ht]; exact hP, va_K.moved hW.alike hK, hD⟩, hS.F ht⟩) hS.2.2 dX0_isCost_15
  · refine lv_iload_n hx hb dX0_isCost_4 rfl (lv_at hl 0 rfl) ?_
    refine lv_bipush (v := 100) hx hb dX0_isCost_5 (by decide) ?_
    refine lv_icmp_gt (tgt := 14) hx hb dX0_isCost_7 (by decide) (fun c_2 => ?_) (fun c_2 => ?_)
    · refine lv_iconst (v := 0) hx hb dX0_isCost_14 (by decide) ?_
      exact W.zret hx hb hr rfl (fun t ht hW => ⟨⟨_, (), rfl, (by rw [m_X0_isCost, if_neg c_1, if_pos c_2]), by rw [ht]; exact hP, va_K.moved hW.alike hK, hD⟩, hS.F ht⟩) hS.2.2 dX0_isCost_15
    · refine lv_iconst (v := 1) hx hb dX0_isCost_10 (by decide) ?_
      refine lv_goto (tgt := 15) hx hb dX0_isCost_11 (by decide) ?_
      exact W.zret hx hb hr rfl (fun t ht hW => ⟨⟨_, (), rfl, (by rw [m_X0_isCost, if_neg c_1, if_neg c_2]), by rw [ht]; exact hP, va_K.moved hW.alike hK, hD⟩, hS.F ht⟩) hS.2.2 dX0_isCost_15
-- X0_has
def m_X0_has (a0 : Int32) (a1 : Int32) : (Int32) := (if ((a0 >>> (a1 &&& 31)) &&& 1) = 0 then 0 else 1)
theorem nb_X0_has (a0 : Int32) (a1 : Int32) : narrow .boolean (.int (m_X0_has a0 a1)) = .int (m_X0_has a0 a1) := by
  unfold m_X0_has; repeat' split
  all_goals rfl
set_option maxHeartbeats 4000000 in
set_option maxRecDepth 100000 in
theorem c_X0_has (l : Launch) (D : va_G) (sz : Nat) (a0 : Int32) (a1 : Int32) : Met l yX0_has wsX0_has ({ frames := 0, cells := 0, slots := 0, locals := 0 }) (va_Pc [.int a0, .int a1] (bx_Pre D [] ([]) sz)) (va_Qi (fun (r : Int32) (_ : Unit) => r = m_X0_has a0 a1) (fun (_ : Unit) t => bx_Post D [] ([]) (va_A ([]) sz) t) (va_A ([]) sz)) 0 0 (va_A ([]) sz) := by
  refine Met.ofW (cc := cX0_has) (maxL := 2) (ret := (some .boolean)) (by decide) rfl ?_
  intro p e s m args below meth c s₁ B hml hv
  obtain ⟨rfl, hsz, hP, hK, hD0⟩ := hv
  have hx := B.exec
  have hb := B.bytes
  have hr := B.returns
  have hts := atoms_spec (ws := wsX0_has) B.pre
  have hown : s.vm.findClass RX0 = some m.cls := findClass_of_methodNamed B.named
  have hlocks := B.notSynchronized
  subst hsz
  have hD := hD0.self (sz := s.heap.size)
  generalize hAe : va_A ([]) s.heap.size = A at hD ⊢
  have hA : ∀ q : Nat, s.heap.size ≤ q → A q := fun q h9 => by rw [← hAe]; exact Or.inr h9
  have hS : va_S A s.heap s.heap [] := va_S.rf
  have hl := lv_entry ([.int a0, .int a1]) (n := 2) (Nat.le_of_ble_eq_true rfl)
  rw [lg_entry_eq]
  generalize (lg_sl ([.int a0, .int a1]) ++ List.replicate (2 - (lg_sl ([.int a0, .int a1])).length) Slot.unset).toArray = ls at hl ⊢
  have hl : lv_has ls 2 [(0, .int a0), (1, .int a1)] := hl
  refine lv_iload_n hx hb dX0_has_0 rfl (lv_at hl 0 rfl) ?_
  refine lv_iload_n hx hb dX0_has_1 rfl (lv_at hl 1 rfl) ?_
  refine lv_ishr hx hb dX0_has_2 ?_
  refine lv_iconst (v := 1) hx hb dX0_has_3 (by decide) ?_
  refine lv_iand hx hb dX0_has_4 ?_
  refine lv_if_eq (tgt := 12) hx hb dX0_has_5 (by decide) (fun c_1 => ?_) (fun c_1 => ?_)
  · refine lv_iconst (v := 0) hx hb dX0_has_12 (by decide) ?_
    exact W.zret hx hb hr rfl (fun t ht hW => ⟨⟨_, (), rfl, (by rw [m_X0_has, if_pos c_1]), by rw [ht]; exact hP, va_K.moved hW.alike hK, hD⟩, hS.F ht⟩) hS.2.2 dX0_has_13
  · refine lv_iconst (v := 1) hx hb dX0_has_8 (by decide) ?_
    refine lv_goto (tgt := 13) hx hb dX0_has_9 (by decide) ?_
    exact W.zret hx hb hr rfl (fun t ht hW => ⟨⟨_, (), rfl, (by rw [m_X0_has, if_neg c_1]), by rw [ht]; exact hP, va_K.moved hW.alike hK, hD⟩, hS.F ht⟩) hS.2.2 dX0_has_13
-- X0_grantIndex
def m_X0_grantIndex (a0 : Int32) (a1 : Int32) : (Int32) := ((a0 * 12) + a1)
set_option maxHeartbeats 4000000 in
set_option maxRecDepth 100000 in
theorem c_X0_grantIndex (l : Launch) (D : va_G) (sz : Nat) (a0 : Int32) (a1 : Int32) : Met l yX0_grantIndex wsX0_grantIndex ({ frames := 0, cells := 0, slots := 0, locals := 0 }) (va_Pc [.int a0, .int a1] (bx_Pre D [] ([]) sz)) (va_Qi (fun (r : Int32) (_ : Unit) => r = m_X0_grantIndex a0 a1) (fun (_ : Unit) t => bx_Post D [] ([]) (va_A ([]) sz) t) (va_A ([]) sz)) 0 0 (va_A ([]) sz) := by
  refine Met.ofW (cc := cX0_grantIndex) (maxL := 2) (ret := (some .int)) (by decide) rfl ?_
  intro p e s m args below meth c s₁ B hml hv
  obtain ⟨rfl, hsz, hP, hK, hD0⟩ := hv
  have hx := B.exec
  have hb := B.bytes
  have hr := B.returns
  have hts := atoms_spec (ws := wsX0_grantIndex) B.pre
  have hown : s.vm.findClass RX0 = some m.cls := findClass_of_methodNamed B.named
  have hlocks := B.notSynchronized
  subst hsz
  have hD := hD0.self (sz := s.heap.size)
  generalize hAe : va_A ([]) s.heap.size = A at hD ⊢
  have hA : ∀ q : Nat, s.heap.size ≤ q → A q := fun q h9 => by rw [← hAe]; exact Or.inr h9
  have hS : va_S A s.heap s.heap [] := va_S.rf
  have hl := lv_entry ([.int a0, .int a1]) (n := 2) (Nat.le_of_ble_eq_true rfl)
  rw [lg_entry_eq]
  generalize (lg_sl ([.int a0, .int a1]) ++ List.replicate (2 - (lg_sl ([.int a0, .int a1])).length) Slot.unset).toArray = ls at hl ⊢
  have hl : lv_has ls 2 [(0, .int a0), (1, .int a1)] := hl
  refine lv_iload_n hx hb dX0_grantIndex_0 rfl (lv_at hl 0 rfl) ?_
  refine lv_bipush (v := 12) hx hb dX0_grantIndex_1 (by decide) ?_
  refine lv_imul hx hb dX0_grantIndex_3 ?_
  refine lv_iload_n hx hb dX0_grantIndex_4 rfl (lv_at hl 1 rfl) ?_
  refine lv_iadd hx hb dX0_grantIndex_5 ?_
  exact W.iret hx hb hr (fun t ht hW => ⟨⟨_, (), rfl, (by rw [m_X0_grantIndex]), by rw [ht]; exact hP, va_K.moved hW.alike hK, hD⟩, hS.F ht⟩) hS.2.2 dX0_grantIndex_6
-- X0_lowPart
def m_X0_lowPart (a0 : Int32) (a1 : Int32) : (Int64) := (if 4 ≤ a0 then (0 : Int64) else ((Int32.toInt64 a1) <<< (Int32.toInt64 (12 * a0) &&& 63)))
set_option maxHeartbeats 4000000 in
set_option maxRecDepth 100000 in
theorem c_X0_lowPart (l : Launch) (D : va_G) (sz : Nat) (a0 : Int32) (a1 : Int32) : Met l yX0_lowPart wsX0_lowPart ({ frames := 0, cells := 0, slots := 0, locals := 0 }) (va_Pc [.int a0, .int a1] (bx_Pre D [] ([]) sz)) (va_Ql (fun (r : Int64) (_ : Unit) => r = m_X0_lowPart a0 a1) (fun (_ : Unit) t => bx_Post D [] ([]) (va_A ([]) sz) t) (va_A ([]) sz)) 0 0 (va_A ([]) sz) := by
  refine Met.ofW (cc := cX0_lowPart) (maxL := 2) (ret := (some .long)) (by decide) rfl ?_
  intro p e s m args below meth c s₁ B hml hv
  obtain ⟨rfl, hsz, hP, hK, hD0⟩ := hv
  have hx := B.exec
  have hb := B.bytes
  have hr := B.returns
  have hts := atoms_spec (ws := wsX0_lowPart) B.pre
  have hown : s.vm.findClass RX0 = some m.cls := findClass_of_methodNamed B.named
  have hlocks := B.notSynchronized
  subst hsz
  have hD := hD0.self (sz := s.heap.size)
  generalize hAe : va_A ([]) s.heap.size = A at hD ⊢
  have hA : ∀ q : Nat, s.heap.size ≤ q → A q := fun q h9 => by rw [← hAe]; exact Or.inr h9
  have hS : va_S A s.heap s.heap [] := va_S.rf
  have hl := lv_entry ([.int a0, .int a1]) (n := 2) (Nat.le_of_ble_eq_true rfl)
  rw [lg_entry_eq]
  generalize (lg_sl ([.int a0, .int a1]) ++ List.replicate (2 - (lg_sl ([.int a0, .int a1])).length) Slot.unset).toArray = ls at hl ⊢
  have hl : lv_has ls 2 [(0, .int a0), (1, .int a1)] := hl
  refine lv_iload_n hx hb dX0_lowPart_0 rfl (lv_at hl 0 rfl) ?_
  refine lv_iconst (v := 4) hx hb dX0_lowPart_1 (by decide) ?_
  refine lv_icmp_ge (tgt := 15) hx hb dX0_lowPart_2 (by decide) (fun c_1 => ?_) (fun c_1 => ?_)
  · refine lv_lconst (v := 0) hx hb dX0_lowPart_15 (by decide) ?_
    exact W.lret hx hb hr (fun t ht hW => ⟨⟨_, (), rfl, (by rw [m_X0_lowPart, if_pos c_1]), by rw [ht]; exact hP, va_K.moved hW.alike hK, hD⟩, hS.F ht⟩) hS.2.2 dX0_lowPart_16
  · refine lv_iload_n hx hb dX0_lowPart_5 rfl (lv_at hl 1 rfl) ?_
    refine lv_i2l (v := (Int32.toInt64 a1)) hx hb dX0_lowPart_6 rfl ?_
    refine lv_bipush (v := 12) hx hb dX0_lowPart_7 (by decide) ?_
    refine lv_iload_n hx hb dX0_lowPart_9 rfl (lv_at hl 0 rfl) ?_
    refine lv_imul hx hb dX0_lowPart_10 ?_
    refine lv_lshl (v := ((Int32.toInt64 a1) <<< (Int32.toInt64 (12 * a0) &&& 63))) hx hb dX0_lowPart_11 rfl ?_
    refine lv_goto (tgt := 16) hx hb dX0_lowPart_12 (by decide) ?_
    exact W.lret hx hb hr (fun t ht hW => ⟨⟨_, (), rfl, (by rw [m_X0_lowPart, if_neg c_1]), by rw [ht]; exact hP, va_K.moved hW.alike hK, hD⟩, hS.F ht⟩) hS.2.2 dX0_lowPart_16
-- X0_highPart
def m_X0_highPart (a0 : Int32) (a1 : Int32) : (Int64) := (if a0 < 4 then (0 : Int64) else ((Int32.toInt64 a1) <<< (Int32.toInt64 (12 * (a0 - 4)) &&& 63)))
set_option maxHeartbeats 4000000 in
set_option maxRecDepth 100000 in
theorem c_X0_highPart (l : Launch) (D : va_G) (sz : Nat) (a0 : Int32) (a1 : Int32) : Met l yX0_highPart wsX0_highPart ({ frames := 0, cells := 0, slots := 0, locals := 0 }) (va_Pc [.int a0, .int a1] (bx_Pre D [] ([]) sz)) (va_Ql (fun (r : Int64) (_ : Unit) => r = m_X0_highPart a0 a1) (fun (_ : Unit) t => bx_Post D [] ([]) (va_A ([]) sz) t) (va_A ([]) sz)) 0 0 (va_A ([]) sz) := by
  refine Met.ofW (cc := cX0_highPart) (maxL := 2) (ret := (some .long)) (by decide) rfl ?_
  intro p e s m args below meth c s₁ B hml hv
  obtain ⟨rfl, hsz, hP, hK, hD0⟩ := hv
  have hx := B.exec
  have hb := B.bytes
  have hr := B.returns
  have hts := atoms_spec (ws := wsX0_highPart) B.pre
  have hown : s.vm.findClass RX0 = some m.cls := findClass_of_methodNamed B.named
  have hlocks := B.notSynchronized
  subst hsz
  have hD := hD0.self (sz := s.heap.size)
  generalize hAe : va_A ([]) s.heap.size = A at hD ⊢
  have hA : ∀ q : Nat, s.heap.size ≤ q → A q := fun q h9 => by rw [← hAe]; exact Or.inr h9
  have hS : va_S A s.heap s.heap [] := va_S.rf
  have hl := lv_entry ([.int a0, .int a1]) (n := 2) (Nat.le_of_ble_eq_true rfl)
  rw [lg_entry_eq]
  generalize (lg_sl ([.int a0, .int a1]) ++ List.replicate (2 - (lg_sl ([.int a0, .int a1])).length) Slot.unset).toArray = ls at hl ⊢
  have hl : lv_has ls 2 [(0, .int a0), (1, .int a1)] := hl
  refine lv_iload_n hx hb dX0_highPart_0 rfl (lv_at hl 0 rfl) ?_
  refine lv_iconst (v := 4) hx hb dX0_highPart_1 (by decide) ?_
  refine lv_icmp_lt (tgt := 17) hx hb dX0_highPart_2 (by decide) (fun c_1 => ?_) (fun c_1 => ?_)
  · refine lv_lconst (v := 0) hx hb dX0_highPart_17 (by decide) ?_
    exact W.lret hx hb hr (fun t ht hW => ⟨⟨_, (), rfl, (by rw [m_X0_highPart, if_pos c_1]), by rw [ht]; exact hP, va_K.moved hW.alike hK, hD⟩, hS.F ht⟩) hS.2.2 dX0_highPart_18
  · refine lv_iload_n hx hb dX0_highPart_5 rfl (lv_at hl 1 rfl) ?_
    refine lv_i2l (v := (Int32.toInt64 a1)) hx hb dX0_highPart_6 rfl ?_
    refine lv_bipush (v := 12) hx hb dX0_highPart_7 (by decide) ?_
    refine lv_iload_n hx hb dX0_highPart_9 rfl (lv_at hl 0 rfl) ?_
    refine lv_iconst (v := 4) hx hb dX0_highPart_10 (by decide) ?_
    refine lv_isub hx hb dX0_highPart_11 ?_
    refine lv_imul hx hb dX0_highPart_12 ?_
    refine lv_lshl (v := ((Int32.toInt64 a1) <<< (Int32.toInt64 (12 * (a0 - 4)) &&& 63))) hx hb dX0_highPart_13 rfl ?_
    refine lv_goto (tgt := 18) hx hb dX0_highPart_14 (by decide) ?_
    exact W.lret hx hb hr (fun t ht hW => ⟨⟨_, (), rfl, (by rw [m_X0_highPart, if_neg c_1]), by rw [ht]; exact hP, va_K.moved hW.alike hK, hD⟩, hS.F ht⟩) hS.2.2 dX0_highPart_18
-- X0_comesBefore
def m_X0_comesBefore (a0 : Int32) (a1 : Int32) : (Int32) := (if ((m_J6_bitCount_0f7a4 a1) - (m_J6_bitCount_0f7a4 a0)) = 0 then (if ((m_J6_lowestOneBit_0f7a4 (a0 ^^^ a1)) &&& a0) = 0 then 0 else 1) else (if ((m_J6_bitCount_0f7a4 a1) - (m_J6_bitCount_0f7a4 a0)) ≤ 0 then 0 else 1))
theorem nb_X0_comesBefore (a0 : Int32) (a1 : Int32) : narrow .boolean (.int (m_X0_comesBefore a0 a1)) = .int (m_X0_comesBefore a0 a1) := by
  unfold m_X0_comesBefore; repeat' split
  all_goals rfl
set_option maxHeartbeats 4000000 in
set_option maxRecDepth 100000 in
theorem c_X0_comesBefore (l : Launch) (D : va_G) (sz : Nat) (a0 : Int32) (a1 : Int32) : Met l yX0_comesBefore wsX0_comesBefore ({ frames := 1, cells := 0, slots := 0, locals := 20 }) (va_Pc [.int a0, .int a1] (bx_Pre D [] ([]) sz)) (va_Qi (fun (r : Int32) (_ : Unit) => r = m_X0_comesBefore a0 a1) (fun (_ : Unit) t => bx_Post D [] ([]) (va_A ([]) sz) t) (va_A ([]) sz)) 0 0 (va_A ([]) sz) := by
  refine Met.ofW (cc := cX0_comesBefore) (maxL := 4) (ret := (some .boolean)) (by decide) rfl ?_
  intro p e s m args below meth c s₁ B hml hv
  obtain ⟨rfl, hsz, hP, hK, hD0⟩ := hv
  have hx := B.exec
  have hb := B.bytes
  have hr := B.returns
  have hts := atoms_spec (ws := wsX0_comesBefore) B.pre
  have hown : s.vm.findClass RX0 = some m.cls := findClass_of_methodNamed B.named
  have hlocks := B.notSynchronized
  subst hsz
  have hD := hD0.self (sz := s.heap.size)
  generalize hAe : va_A ([]) s.heap.size = A at hD ⊢
  have hA : ∀ q : Nat, s.heap.size ≤ q → A q := fun q h9 => by rw [← hAe]; exact Or.inr h9
  have hS : va_S A s.heap s.heap [] := va_S.rf
  have hl := lv_entry ([.int a0, .int a1]) (n := 4) (Nat.le_of_ble_eq_true rfl)
  rw [lg_entry_eq]
  generalize (lg_sl ([.int a0, .int a1]) ++ List.replicate (4 - (lg_sl ([.int a0, .int a1])).length) Slot.unset).toArray = ls at hl ⊢
  have hl : lv_has ls 4 [(0, .int a0), (1, .int a1)] := hl
  refine lv_iload_n hx hb dX0_comesBefore_0 rfl (lv_at hl 1 rfl) ?_
  refine cl_Si0 (As := [.int a1]) (rest := []) ⟨hx, hb, hml, hown, hts⟩ (c_J6_bitCount_0f7a4 l D _ a1) (va_cwS 1 hts gX0_comesBefore_J6_bitCount_0f7a4 rfl rfl rfl (by decide +kernel) ⟨Nat.le_of_ble_eq_true rfl, Nat.le_of_ble_eq_true rfl⟩) hK hP hD hS hA rfl rfl hl.1 rfl (lv_room (Nat.le_of_ble_eq_true rfl)) dX0_comesBefore_1 (fun H locs hP hD hS => ?_)
  refine lv_iload_n hx hb dX0_comesBefore_4 rfl (lv_at hl 0 rfl) ?_
  refine cl_Si0 (As := [.int a0]) (rest := [.int (m_J6_bitCount_0f7a4 a1)]) ⟨hx, hb, hml, hown, hts⟩ (c_J6_bitCount_0f7a4 l D _ a0) (va_cwS 1 hts gX0_comesBefore_J6_bitCount_0f7a4 rfl rfl rfl (by decide +kernel) ⟨Nat.le_of_ble_eq_true rfl, Nat.le_of_ble_eq_true rfl⟩) hK hP hD hS hA rfl rfl hl.1 rfl (lv_room (Nat.le_of_ble_eq_true rfl)) dX0_comesBefore_5 (fun H locs hP hD hS => ?_)
  refine lv_isub hx hb dX0_comesBefore_8 ?_
  refine lv_istore_n (lv' := [(2, .int ((m_J6_bitCount_0f7a4 a1) - (m_J6_bitCount_0f7a4 a0))), (0, .int a0), (1, .int a1)]) hx hb dX0_comesBefore_9 rfl hl (by decide) rfl (fun ls hl => ?_)
  refine lv_iload_n hx hb dX0_comesBefore_10 rfl (lv_at hl 0 rfl) ?_
  refine lv_if_eq (tgt := 24) hx hb dX0_comesBefore_11 (by decide) (fun c_1 => ?_) (fun c_1 => ?_)
  · refine lv_iload_n hx hb dX0_comesBefore_24 rfl (lv_at hl 1 rfl) ?_
    refine lv_iload_n hx hb dX0_comesBefore_25 rfl (lv_at hl 2 rfl) ?_
    refine lv_ixor hx hb dX0_comesBefore_26 ?_
    refine lv_istore_n (lv' := [(3, .int (a0 ^^^ a1)), (2, .int ((m_J6_bitCount_0f7a4 a1) - (m_J6_bitCount_0f7a4 a0))), (0, .int a0), (1, .int a1)]) hx hb dX0_comesBefore_27 rfl hl (by decide) rfl (fun ls hl => ?_)
    refine lv_iload_n hx hb dX0_comesBefore_28 rfl (lv_at hl 0 rfl) ?_
    refine cl_Si0 (As := [.int (a0 ^^^ a1)]) (rest := []) ⟨hx, hb, hml, hown, hts⟩ (c_J6_lowestOneBit_0f7a4 l D _ (a0 ^^^ a1)) (va_cwS 1 hts gX0_comesBefore_J6_lowestOneBit_0f7a4 rfl rfl rfl (by decide +kernel) ⟨Nat.le_of_ble_eq_true rfl, Nat.le_of_ble_eq_true rfl⟩) hK hP hD hS hA rfl rfl hl.1 rfl (lv_room (Nat.le_of_ble_eq_true rfl)) dX0_comesBefore_29 (fun H locs hP hD hS => ?_)
    refine lv_iload_n hx hb dX0_comesBefore_32 rfl (lv_at hl 2 rfl) ?_
    refine lv_iand hx hb dX0_comesBefore_33 ?_
    refine lv_if_eq (tgt := 41) hx hb dX0_comesBefore_34 (by decide) (fun c_2 => ?_) (fun c_2 => ?_)
    · refine lv_iconst (v := 0) hx hb dX0_comesBefore_41 (by decide) ?_
      exact W.zret hx hb hr rfl (fun t ht hW => ⟨⟨_, (), rfl, (by rw [m_X0_comesBefore, if_pos c_1, if_pos c_2]), by rw [ht]; exact hP, va_K.moved hW.alike hK, hD⟩, hS.F ht⟩) hS.2.2 dX0_comesBefore_42
    · refine lv_iconst (v := 1) hx hb dX0_comesBefore_37 (by decide) ?_
      refine lv_goto (tgt := 42) hx hb dX0_comesBefore_38 (by decide) ?_
      exact W.zret hx hb hr rfl (fun t ht hW => ⟨⟨_, (), rfl, (by rw [m_X0_comesBefore, if_pos c_1, if_neg c_2]), by rw [ht]; exact hP, va_K.moved hW.alike hK, hD⟩, hS.F ht⟩) hS.2.2 dX0_comesBefore_42
  · refine lv_iload_n hx hb dX0_comesBefore_14 rfl (lv_at hl 0 rfl) ?_
    refine lv_if_le (tgt := 22) hx hb dX0_comesBefore_15 (by decide) (fun c_3 => ?_) (fun c_3 => ?_)
    · refine lv_iconst (v := 0) hx hb dX0_comesBefore_22 (by decide) ?_
      exact W.zret hx hb hr rfl (fun t ht hW => ⟨⟨_, (), rfl, (by rw [m_X0_comesBefore, if_neg c_1, if_pos c_3]), by rw [ht]; exact hP, va_K.moved hW.alike hK, hD⟩, hS.F ht⟩) hS.2.2 dX0_comesBefore_23
    · refine lv_iconst (v := 1) hx hb dX0_comesBefore_18 (by decide) ?_
      refine lv_goto (tgt := 23) hx hb dX0_comesBefore_19 (by decide) ?_
      exact W.zret hx hb hr rfl (fun t ht hW => ⟨⟨_, (), rfl, (by rw [m_X0_comesBefore, if_neg c_1, if_neg c_3]), by rw [ht]; exact hP, va_K.moved hW.alike hK, hD⟩, hS.F ht⟩) hS.2.2 dX0_comesBefore_23
-- X0_holds
def m_X0_holds (g : Nat → Int32) (a1 : Int32) (a2 : Int32) : Option ((Int32)) := (ix a1 8 (if ((g (Int32.toNatClampNeg a1)) &&& a2) = a2 then some 1 else some 0))
set_option maxHeartbeats 4000000 in
set_option maxRecDepth 100000 in
theorem c_X0_holds (l : Launch) (D : va_G) (cI cJ : ClassId) (x0 x1 x2 x3 x4 x5 x6 x7 x8 x9 : Nat) (sz : Nat) (g : Nat → Int32) (rm : Nat → Int32) (op : Nat → Int32) (rc : Int32) (ec : Int32) (su : Int32) (pe : Int32) (qt : Int32) (rs : Nat → Int32) (rn : Int32) (cs : Nat → Int32) (cn : Int32) (lc : Nat → Int64) (hc : Nat → Int64) (lg : Nat → Int64) (hg : Nat → Int64) (a1 : Int32) (a2 : Int32) (r0 : Int32) (h : m_X0_holds g a1 a2 = some r0) : Met l yX0_holds wsX0_holds ({ frames := 0, cells := 0, slots := 0, locals := 0 }) (va_Pc [.ref x0, .int a1, .int a2] (bx_Pre D [(cI, .int), (cJ, .long)] (wX cI cJ x0 x1 x2 x3 x4 x5 x6 x7 x8 x9 g rm op rc ec su pe qt rs rn cs cn lc hc lg hg) sz)) (va_Qi (fun (r : Int32) (_ : Unit) => r = r0) (fun (_ : Unit) t => bx_Post D [(cI, .int), (cJ, .long)] (wX cI cJ x0 x1 x2 x3 x4 x5 x6 x7 x8 x9 g rm op rc ec su pe qt rs rn cs cn lc hc lg hg) (va_A (wX cI cJ x0 x1 x2 x3 x4 x5 x6 x7 x8 x9 g rm op rc ec su pe qt rs rn cs cn lc hc lg hg) sz) t) (va_A (wX cI cJ x0 x1 x2 x3 x4 x5 x6 x7 x8 x9 g rm op rc ec su pe qt rs rn cs cn lc hc lg hg) sz)) 0 0 (va_A (wX cI cJ x0 x1 x2 x3 x4 x5 x6 x7 x8 x9 g rm op rc ec su pe qt rs rn cs cn lc hc lg hg) sz) := by
  refine Met.ofW (cc := cX0_holds) (maxL := 3) (ret := (some .boolean)) (by decide) rfl ?_
  intro p e s m args below meth c s₁ B hml hv
  obtain ⟨rfl, hsz, hP, hK, hD0⟩ := hv
  have hx := B.exec
  have hb := B.bytes
  have hr := B.returns
  have hts := atoms_spec (ws := wsX0_holds) B.pre
  have hown : s.vm.findClass RX0 = some m.cls := findClass_of_methodNamed B.named
  have hlocks := B.notSynchronized
  subst hsz
  have hD := hD0.self (sz := s.heap.size)
  generalize hAe : va_A (wX cI cJ x0 x1 x2 x3 x4 x5 x6 x7 x8 x9 g rm op rc ec su pe qt rs rn cs cn lc hc lg hg) s.heap.size = A at hD ⊢
  have hA : ∀ q : Nat, s.heap.size ≤ q → A q := fun q h9 => by rw [← hAe]; exact Or.inr h9
  have hS : va_S A s.heap s.heap [] := va_S.rf
  have hin : ∀ w ∈ wsX00, w ∈ wsX0_holds := fun _ h9 => List.mem_cons_of_mem _ (List.mem_append_right _ h9)
  have hw_0 := hts (.fieldLink RX0 9 "RoleMiner" "granted" "[I") (by decide +kernel)
  have hl := lv_entry ([.ref x0, .int a1, .int a2]) (n := 3) (Nat.le_of_ble_eq_true rfl)
  rw [lg_entry_eq]
  generalize (lg_sl ([.ref x0, .int a1, .int a2]) ++ List.replicate (3 - (lg_sl ([.ref x0, .int a1, .int a2])).length) Slot.unset).toArray = ls at hl ⊢
  have hl : lv_has ls 3 [(0, .ref x0), (1, .int a1), (2, .int a2)] := hl
  rw [m_X0_holds] at h
  refine lv_aload_n hx hb dX0_holds_0 rfl (lv_at hl 0 rfl) ?_
  refine va_get (D := D) (ci := 0) (v := .ref x1) (C := RX0) (T := TX0) (N := 16) hx hb hts hin hown hK hP 0 rfl rfl 0 (by decide) hw_0 (fun _ h9 => h9) rfl dX0_holds_1 ?_
  refine lv_iload_n hx hb dX0_holds_4 rfl (lv_at hl 1 rfl) ?_
  obtain ⟨h_1, h⟩ := ix_some h
  refine va_iald hx hb hK hP 1 0 rfl rfl h_1 dX0_holds_5 ?_
  refine lv_iload_n hx hb dX0_holds_6 rfl (lv_at hl 2 rfl) ?_
  refine lv_iand hx hb dX0_holds_7 ?_
  refine lv_iload_n hx hb dX0_holds_8 rfl (lv_at hl 2 rfl) ?_
  refine lv_icmp_ne (tgt := 16) hx hb dX0_holds_9 (by decide) (fun c_2 => ?_) (fun c_2 => ?_)
  · replace h := (if_neg c_2).symm.trans h
    refine lv_iconst (v := 0) hx hb dX0_holds_16 (by decide) ?_
    cases h
    exact W.zret hx hb hr rfl (fun t ht hW => ⟨⟨_, (), rfl, rfl, by rw [ht]; exact hP, va_K.moved hW.alike hK, hD⟩, hS.F ht⟩) hS.2.2 dX0_holds_17
  · replace h := (if_pos c_2).symm.trans h
    refine lv_iconst (v := 1) hx hb dX0_holds_12 (by decide) ?_
    refine lv_goto (tgt := 17) hx hb dX0_holds_13 (by decide) ?_
    cases h
    exact W.zret hx hb hr rfl (fun t ht hW => ⟨⟨_, (), rfl, rfl, by rw [ht]; exact hP, va_K.moved hW.alike hK, hD⟩, hS.F ht⟩) hS.2.2 dX0_holds_17
-- X0_holdersOf
def m_X0_holdersOf_4 (fu : Nat) (g : Nat → Int32) (a1 : Int32) : Nat → Int32 → Int32 → Option ((Int32))
  | 0, _, _ => none
  | n + 1, v2, v3 => (if 8 ≤ v3 then some v2 else (bnd1 (m_X0_holds g v3 a1) (fun r_2 => (if r_2 = 0 then (m_X0_holdersOf_4 fu g a1 n v2 (v3 + 1)) else (m_X0_holdersOf_4 fu g a1 n (v2 ||| (1 <<< (v3 &&& 31))) (v3 + 1))))))
def m_X0_holdersOf (fu : Nat) (g : Nat → Int32) (a1 : Int32) : Option ((Int32)) := (m_X0_holdersOf_4 fu g a1 fu 0 0)
set_option maxHeartbeats 4000000 in
set_option maxRecDepth 100000 in
theorem c_X0_holdersOf (l : Launch) (D : va_G) (cI cJ : ClassId) (x0 x1 x2 x3 x4 x5 x6 x7 x8 x9 : Nat) (sz : Nat) (g : Nat → Int32) (rm : Nat → Int32) (op : Nat → Int32) (rc : Int32) (ec : Int32) (su : Int32) (pe : Int32) (qt : Int32) (rs : Nat → Int32) (rn : Int32) (cs : Nat → Int32) (cn : Int32) (lc : Nat → Int64) (hc : Nat → Int64) (lg : Nat → Int64) (hg : Nat → Int64) (fu : Nat) (a1 : Int32) (r0 : Int32) (h : m_X0_holdersOf fu g a1 = some r0) : Met l yX0_holdersOf wsX0_holdersOf ({ frames := 1, cells := 0, slots := 0, locals := 22 }) (va_Pc [.ref x0, .int a1] (bx_Pre D [(cI, .int), (cJ, .long)] (wX cI cJ x0 x1 x2 x3 x4 x5 x6 x7 x8 x9 g rm op rc ec su pe qt rs rn cs cn lc hc lg hg) sz)) (va_Qi (fun (r : Int32) (_ : Unit) => r = r0) (fun (_ : Unit) t => bx_Post D [(cI, .int), (cJ, .long)] (wX cI cJ x0 x1 x2 x3 x4 x5 x6 x7 x8 x9 g rm op rc ec su pe qt rs rn cs cn lc hc lg hg) (va_A (wX cI cJ x0 x1 x2 x3 x4 x5 x6 x7 x8 x9 g rm op rc ec su pe qt rs rn cs cn lc hc lg hg) sz) t) (va_A (wX cI cJ x0 x1 x2 x3 x4 x5 x6 x7 x8 x9 g rm op rc ec su pe qt rs rn cs cn lc hc lg hg) sz)) 0 0 (va_A (wX cI cJ x0 x1 x2 x3 x4 x5 x6 x7 x8 x9 g rm op rc ec su pe qt rs rn cs cn lc hc lg hg) sz) := by
  refine Met.ofW (cc := cX0_holdersOf) (maxL := 4) (ret := (some .int)) (by decide) rfl ?_
  intro p e s m args below meth c s₁ B hml hv
  obtain ⟨rfl, hsz, hP, hK, hD0⟩ := hv
  have hx := B.exec
  have hb := B.bytes
  have hr := B.returns
  have hts := atoms_spec (ws := wsX0_holdersOf) B.pre
  have hown : s.vm.findClass RX0 = some m.cls := findClass_of_methodNamed B.named
  have hlocks := B.notSynchronized
  subst hsz
  have hD := hD0.self (sz := s.heap.size)
  generalize hAe : va_A (wX cI cJ x0 x1 x2 x3 x4 x5 x6 x7 x8 x9 g rm op rc ec su pe qt rs rn cs cn lc hc lg hg) s.heap.size = A at hD ⊢
  have hA : ∀ q : Nat, s.heap.size ≤ q → A q := fun q h9 => by rw [← hAe]; exact Or.inr h9
  have hS : va_S A s.heap s.heap [] := va_S.rf
  have hin : ∀ w ∈ wsX00, w ∈ wsX0_holdersOf := fun _ h9 => List.mem_cons_of_mem _ (List.mem_append_right _ h9)
  have hl := lv_entry ([.ref x0, .int a1]) (n := 4) (Nat.le_of_ble_eq_true rfl)
  rw [lg_entry_eq]
  generalize (lg_sl ([.ref x0, .int a1]) ++ List.replicate (4 - (lg_sl ([.ref x0, .int a1])).length) Slot.unset).toArray = ls at hl ⊢
  have hl : lv_has ls 4 [(0, .ref x0), (1, .int a1)] := hl
  have L4 : ∀ (n : Nat) (v2 : Int32) (v3 : Int32) (H : Heap) (locs : List Loc) (ls : Array Slot), m_X0_holdersOf_4 fu g a1 n v2 v3 = some r0 → va_P D vwCl (wX cI cJ x0 x1 x2 x3 x4 x5 x6 x7 x8 x9 g rm op rc ec su pe qt rs rn cs cn lc hc lg hg) H → va_D A (wX cI cJ x0 x1 x2 x3 x4 x5 x6 x7 x8 x9 g rm op rc ec su pe qt rs rn cs cn lc hc lg hg) → va_S A s.heap H locs → lv_has ls 4 [(0, .ref x0), (1, .int a1), (2, .int v2), (3, .int v3)] → W p l e (headSpec wsX0_holdersOf ({ frames := 1, cells := 0, slots := 0, locals := 22 })).room s m ([.ref x0, .int a1] : List Value).toArray below meth c H locs 0 0 (MQ below (va_Qi (fun (r : Int32) (_ : Unit) => r = r0) (fun (_ : Unit) t => bx_Post D [(cI, .int), (cJ, .long)] (wX cI cJ x0 x1 x2 x3 x4 x5 x6 x7 x8 x9 g rm op rc ec su pe qt rs rn cs cn lc hc lg hg) A t) A) ([.ref x0, .int a1] : List Value).toArray s 0 0 A) (F0 m 4 ls []) := by
    intro n
    induction n with
    | zero =>
      intro v2 v3 H locs ls h
      rw [m_X0_holdersOf_4] at h
      cases h
    | succ n ih =>
      intro v2 v3 H locs ls h hP hD hS hl
      rw [m_X0_holdersOf_4] at h
      refine lv_iload_n hx hb dX0_holdersOf_4 rfl (lv_at hl 3 rfl) ?_
      refine lv_bipush (v := 8) hx hb dX0_holdersOf_5 (by decide) ?_
      refine lv_icmp_ge (tgt := 31) hx hb dX0_holdersOf_7 (by decide) (fun c_1 => ?_) (fun c_1 => ?_)
      · replace h := (if_pos c_1).symm.trans h
        refine lv_iload_n hx hb dX0_holdersOf_31 rfl (lv_at hl 2 rfl) ?_
        cases h
        exact W.iret hx hb hr (fun t ht hW => ⟨⟨_, (), rfl, rfl, by rw [ht]; exact hP, va_K.moved hW.alike hK, hD⟩, hS.F ht⟩) hS.2.2 dX0_holdersOf_32
      · replace h := (if_neg c_1).symm.trans h
        refine lv_aload_n hx hb dX0_holdersOf_10 rfl (lv_at hl 0 rfl) ?_
        refine lv_iload_n hx hb dX0_holdersOf_11 rfl (lv_at hl 3 rfl) ?_
        refine lv_iload_n hx hb dX0_holdersOf_12 rfl (lv_at hl 1 rfl) ?_
        obtain ⟨r_2, e_3, h⟩ := bnd1_some h
        refine cl_Vi (As := [.int v3, .int a1]) (rest := []) (wc := wX cI cJ x0 x1 x2 x3 x4 x5 x6 x7 x8 x9 g rm op rc ec su pe qt rs rn cs cn lc hc lg hg) (w1 := wX cI cJ x0 x1 x2 x3 x4 x5 x6 x7 x8 x9 g rm op rc ec su pe qt rs rn cs cn lc hc lg hg) (wr := []) ⟨hx, hb, hml, hown, hts⟩ (c_X0_holds l D cI cJ x0 x1 x2 x3 x4 x5 x6 x7 x8 x9 _ g rm op rc ec su pe qt rs rn cs cn lc hc lg hg v3 a1 r_2 e_3) (cwV 2 hts gX0_holdersOf_X0_holds rfl rfl rfl (by decide +kernel) ⟨Nat.le_of_ble_eq_true rfl, Nat.le_of_ble_eq_true rfl⟩) hK hP hD hS hA [0, 1, 2, 3, 4, 5, 6, 7, 8, 9] [] rfl rfl (by decide) (by decide) rfl rfl rfl rfl rfl hl.1 rfl (lv_room (Nat.le_of_ble_eq_true rfl)) dX0_holdersOf_13 (fun H locs hP hD hS => ?_)
        have hP : va_P D vwCl (wX cI cJ x0 x1 x2 x3 x4 x5 x6 x7 x8 x9 g rm op rc ec su pe qt rs rn cs cn lc hc lg hg) H := hP
        have hD : va_D A (wX cI cJ x0 x1 x2 x3 x4 x5 x6 x7 x8 x9 g rm op rc ec su pe qt rs rn cs cn lc hc lg hg) := hD
        refine lv_if_eq (tgt := 25) hx hb dX0_holdersOf_16 (by decide) (fun c_4 => ?_) (fun c_4 => ?_)
        · replace h := (if_pos c_4).symm.trans h
          refine lv_iinc (v := (v3 + 1)) (lv' := [(3, .int (v3 + 1)), (0, .ref x0), (1, .int a1), (2, .int v2)]) hx hb dX0_holdersOf_25 hl (k := 3) rfl rfl (by decide) rfl (fun ls hl => ?_)
          refine lv_goto (tgt := 4) hx hb dX0_holdersOf_28 (by decide) ?_
          exact ih v2 (v3 + 1) _ _ _ h hP hD hS (lv_sub hl [1, 2, 3, 0] rfl)
        · replace h := (if_neg c_4).symm.trans h
          refine lv_iload_n hx hb dX0_holdersOf_19 rfl (lv_at hl 2 rfl) ?_
          refine lv_iconst (v := 1) hx hb dX0_holdersOf_20 (by decide) ?_
          refine lv_iload_n hx hb dX0_holdersOf_21 rfl (lv_at hl 3 rfl) ?_
          refine lv_ishl hx hb dX0_holdersOf_22 ?_
          refine lv_ior hx hb dX0_holdersOf_23 ?_
          refine lv_istore_n (lv' := [(2, .int (v2 ||| (1 <<< (v3 &&& 31)))), (0, .ref x0), (1, .int a1), (3, .int v3)]) hx hb dX0_holdersOf_24 rfl hl (by decide) rfl (fun ls hl => ?_)
          refine lv_iinc (v := (v3 + 1)) (lv' := [(3, .int (v3 + 1)), (2, .int (v2 ||| (1 <<< (v3 &&& 31)))), (0, .ref x0), (1, .int a1)]) hx hb dX0_holdersOf_25 hl (k := 3) rfl rfl (by decide) rfl (fun ls hl => ?_)
          refine lv_goto (tgt := 4) hx hb dX0_holdersOf_28 (by decide) ?_
          exact ih (v2 ||| (1 <<< (v3 &&& 31))) (v3 + 1) _ _ _ h hP hD hS (lv_sub hl [2, 3, 1, 0] rfl)
  rw [m_X0_holdersOf] at h
  refine lv_iconst (v := 0) hx hb dX0_holdersOf_0 (by decide) ?_
  refine lv_istore_n (lv' := [(2, .int 0), (0, .ref x0), (1, .int a1)]) hx hb dX0_holdersOf_1 rfl hl (by decide) rfl (fun ls hl => ?_)
  refine lv_iconst (v := 0) hx hb dX0_holdersOf_2 (by decide) ?_
  refine lv_istore_n (lv' := [(3, .int 0), (2, .int 0), (0, .ref x0), (1, .int a1)]) hx hb dX0_holdersOf_3 rfl hl (by decide) rfl (fun ls hl => ?_)
  exact L4 fu 0 0 _ _ _ h hP hD hS (lv_sub hl [2, 3, 1, 0] rfl)
end
