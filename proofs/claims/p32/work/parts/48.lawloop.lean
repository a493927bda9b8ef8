theorem lz_loop {p : Program} {l : Launch} {e : Env} {s : State} {m : MethodId} {below : List Frame} {meth : Method} {c : Code} {b L : Nat} {xs : Nat → Int32} {D : va_G} {cI cJ : ClassId} {x0 x1 x2 x3 x4 x5 x6 x7 x8 x9 p2 p3 : Nat} (hx : p.tables.exec = Jvm.exec) (hb : c.code = cL_law) (hr : meth.sig.returnType = ret) (hlocks : meth.locks = false) (hml : c.maxLocals = 10) (hown : s.vm.findClass RL = some m.cls) (hts : ∀ w ∈ wsL_law, w.before ([Value.ref b] : List Value).toArray s = true) (hX : va_X b L xs s s.heap) (hbl : b < s.heap.size) (hst : l.stackTraces = false) (hK : va_K D vwCl [(cI, .int), (cJ, .long)] s) (hT : xThrL (lz_A s) s) (fu : Nat) : ∀ n, lz_St p l e s m below meth c b L xs D cI cJ x0 x1 x2 x3 x4 x5 x6 x7 x8 x9 p2 p3 fu n := by
  intro n
  induction n with
  | zero =>
    unfold lz_St
    refine ⟨?_, ?_, ?_, ?_⟩ <;> intros <;> next h _ _ _ _ => rw [m_L_law_32] at h; cases h
  | succ n ih =>
    unfold lz_St
    exact ⟨lz_h32 hx hb hr hlocks hml hown hts hX hbl hst hK hT fu n ih, lz_h82 hx hb hr hlocks hml hown hts hX hbl hst hK hT fu n ih, lz_h197 hx hb hr hlocks hml hown hts hX hbl hst hK hT fu n ih, lz_h283 hx hb hr hlocks hml hown hts hX hbl hst hK hT fu n ih⟩
