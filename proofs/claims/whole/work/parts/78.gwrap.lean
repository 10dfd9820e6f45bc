/-! the law's own helpers: they call and they catch -/
def xI : String := "java/lang/IndexOutOfBoundsException"
def xA : String := "java/lang/IllegalArgumentException"
def xS : String := "java/lang/IllegalStateException"
/-- which of the three is not which -/
def gNc (U : State) : Prop := va_Nc xA xI U ∧ va_Nc xS xI U ∧ va_Nc xS xA U ∧ va_Nc xI xA U
theorem gNc.moved {u U : State} (hvm : u.vm.Alike U.vm) (h : gNc u) : gNc U := ⟨h.1.moved hvm, h.2.1.moved hvm, h.2.2.1.moved hvm, h.2.2.2.moved hvm⟩
abbrev gWh (y : MethodName) (bytes : ByteArray) (maxL : Nat) (ret : Option FieldType) (hh : List (Nat × Nat × Nat × Nat)) : List Cond := Cond.codeWith y bytes maxL ret hh :: lw_g
def gPN (E : gE) (pre : va_W) (sz : Nat) (av : List Value) (sa : gTx) : Array Value → State → Prop := fun a U => gPX E pre sz av sa a U ∧ gNc U
theorem gPN_blind {E : gE} {pre : va_W} {sz : Nat} {av : List Value} {sa : gTx} : FrameBlind (gPN E pre sz av sa) := by
  intro a U g mk q
  exact ⟨gPX_blind a U g mk q.1, gNc.moved (u := U) (U := U.calling g mk a) (Vm.Alike.refl U.vm) q.2⟩
def gKW (l : Launch) (E : gE) (y : MethodName) (bytes : ByteArray) (maxL : Nat) (ret : Option FieldType) (hh : List (Nat × Nat × Nat × Nat)) (rm : Room) (av : List Value) (pre : va_W) (sa : gTx) (rv : Option Value) (w1 : va_W) : Prop :=
  ∀ sz : Nat, Met l y (gWh y bytes maxL ret hh) rm (gPN E pre sz av sa) (gQ E pre sz rv w1) rm.cells rm.slots (va_A pre sz)
theorem gMetH {l : Launch} {y : MethodName} {ws ws' : List Cond} {rm : Room} {Pc : Array Value → State → Prop} {Qc : Array Value → State → Outcome → State → Prop} {mc ms : Nat} {free : Addr → Prop} {cc : ByteArray} {maxL : Nat} {ret : Option FieldType} {hh : List (Nat × Nat × Nat × Nat)}
    (hy : plainName y.cls = true) (hw : ws = Cond.codeWith y cc maxL ret hh :: ws')
    (body : ∀ p e s m args below meth c s₁, BodyLoose p l y (headSpec ws rm) cc maxL ret e s m args below meth c s₁ → c.maxLocals = maxL → c.exceptionTable.toList = tableOf hh → Pc args s →
      W p l e (headSpec ws rm).room s m args below meth c s.heap [] 0 0 (MQ below Qc args s mc ms free) (entryFrame m args maxL)) : Met l y ws rm Pc Qc mc ms free := by
  refine MetFree.of_bodyS (code := cc) (maxLocals := maxL) (ret := ret) hy ?_ ?_
  · intro args s m h hn
    obtain ⟨m9, meth, c, hn9, h1, h2, h3, h4, -, h5, h6, -⟩ := Cond.codeWith_spec (atoms_spec (ws := ws) h _ (by rw [hw]; exact List.mem_cons_self))
    cases hn.symm.trans hn9
    exact ⟨meth, c, h1, h2, h3, h4, h5, h6⟩
  · intro p e s m args below meth c s₁ B hP _
    have hh0 : s₁.heap = s.heap := by rw [B.state]; rfl
    have hcw := atoms_spec (ws := ws) B.pre _ (by rw [hw]; exact List.mem_cons_self)
    have hml : c.maxLocals = maxL := by
      obtain ⟨m9, meth9, c9, hn9, h1, h2, h3, h4, -⟩ := Cond.codeWith_spec hcw
      cases Option.some.inj (hn9.symm.trans B.named)
      cases Option.some.inj (h1.symm.trans B.method)
      cases Option.some.inj (h2.symm.trans (Stand.of_body B).code)
      exact h4
    obtain ⟨t, a1, o, b1, b2, b3⟩ := body p e s m args below meth c s₁ B hml (vx_table B hcw) hP s₁ hh0 (Stand.of_body B)
    exact ⟨t, o, a1, b1, b2, ⟨b3.1, b3.2⟩⟩
