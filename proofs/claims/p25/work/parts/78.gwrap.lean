/-! the law's own helpers: they call and they catch -/
def xS : String := "java/lang/IllegalStateException"
def xI : String := "java/lang/IndexOutOfBoundsException"
/-- that the one class which is caught is itself -/
def gNc (U : State) : Prop := va_Nw (.castable xS xS) U
theorem gNc.warm {u U : State} (hW : u.WarmedH U.vm) (h : gNc u) : gNc U := va_Nw.warmC hW h
theorem gNc.same {u U : State} (hv : u.vm = U.vm) (h : gNc u) : gNc U := va_Nw.same rfl hv h
abbrev gWh (y : MethodName) (bytes : ByteArray) (maxL : Nat) (ret : Option FieldType) (hh : List (Nat × Nat × Nat × Nat)) : List Cond := Cond.codeWith y bytes maxL ret hh :: lw_g
def gPN (E : gE) (pre : va_W) (sz : Nat) (av : List Value) (sa : gTx) : Array Value → State → Prop := fun a U => gPX E pre sz av sa a U ∧ gNc U
theorem gPN_blind {E : gE} {pre : va_W} {sz : Nat} {av : List Value} {sa : gTx} : FrameBlind (gPN E pre sz av sa) := by
  intro a U g mk q
  exact ⟨gPX_blind a U g mk q.1, gNc.same (u := U) (U := U.calling g mk a) rfl q.2⟩
def gKW (l : Launch) (E : gE) (y : MethodName) (bytes : ByteArray) (maxL : Nat) (ret : Option FieldType) (hh : List (Nat × Nat × Nat × Nat)) (rm : Room) (av : List Value) (pre : va_W) (sa : gTx) (rv : Option Value) (w1 : va_W) : Prop :=
  ∀ sz : Nat, Met l y (gWh y bytes maxL ret hh) rm (gPN E pre sz av sa) (gQ E pre sz rv w1) rm.cells rm.slots (va_A pre sz)
theorem gMetH {l : Launch} {y : MethodName} {ws ws' : List Cond} {rm : Room} {Pc : Array Value → State → Prop} {Qc : Array Value → State → Outcome → State → Prop} {mc ms : Nat} {free : Addr → Prop} {cc : ByteArray} {maxL : Nat} {ret : Option FieldType} {hh : List (Nat × Nat × Nat × Nat)}
    (hy : plainName y.cls = true) (hw : ws = Cond.codeWith y cc maxL ret hh :: ws')
    (body : ∀ p e s m args below meth c s₁, BodyLoose p l y (headSpec ws rm) cc maxL ret e s m args below meth c s₁ → c.maxLocals = maxL → c.exceptionTable.toList = tableOf hh → Pc args s →
      W p l e (headSpec ws rm).room s m args below meth c s.heap [] 0 0 (MQ below Qc args s mc ms free) (entryFrame m args maxL)) : Met l y ws rm Pc Qc mc ms free := by
  refine MetFree.of_bodyS (code := cc) (maxLocals := maxL) (ret := ret) hy ?_ ?_
  · intro args s m h hn
    obtain ⟨m9, meth, c, hn9, h1, h2, h3, h4, -, h5, h6, -⟩ := Cond.codeWith_spec (atoms_spec (ws := ws) h _ (by rw [hw]; exact List.mem_cons_self))
    cases hn.symm.trans hn9
    exact ⟨meth, c, h1, h2, h3, h4, h5, h6⟩
  · intro p e s m args below meth c s₁ B hml hP _
    have hh0 : s₁.heap = s.heap := by rw [B.state]; rfl
    have hcw := atoms_spec (ws := ws) B.pre _ (by rw [hw]; exact List.mem_cons_self)
    obtain ⟨t, a1, o, b1, b2, b3⟩ := body p e s m args below meth c s₁ B hml (vx_table (x := y) B hcw) hP s₁ hh0 (Stand.of_body B)
    exact ⟨t, o, a1, b1, b2, ⟨b3.1, b3.2⟩⟩
theorem gKW_by {l : Launch} {E : gE} {y : MethodName} {bytes : ByteArray} {maxL : Nat} {ret : Option FieldType} {hh : List (Nat × Nat × Nat × Nat)} {rm : Room} {av : List Value} {pre : va_W} {sa : gTx} {rv : Option Value} {w1 : va_W} (own : String) (ho : y.cls = own) (hpl : plainName y.cls = true) (lv0 : List (Nat × Value)) (hlen : (lg_sl av).length ≤ maxL) (hl0 : lv_args 0 av = lv0)
    (body : ∀ (p : Program) (e : Env) (s : State) (m : MethodId) (args : Array Value) (below : List Frame) (meth : Method) (c : Code) (A : Nat → Prop) (Q : State → Prop), c.exceptionTable.toList = tableOf hh → gC E p s m args meth c bytes maxL own ret A → gX sa A s s.heap → gNc s → gZ E s args below A Q rm.cells rm.slots rv w1 → gG E p l e rm s m args below meth c A maxL 0 0 Q pre 0 lv0 []) : gKW l E y bytes maxL ret hh rm av pre sa rv w1 := by
  subst ho
  intro sz
  refine gMetH (cc := bytes) (maxL := maxL) (ret := ret) (hh := hh) hpl rfl ?_
  intro p e s m args below meth c s₁ B hml ht hv
  obtain ⟨⟨rfl, hsz, hP, hD, hK, hN, hX⟩, hNc⟩ := hv
  subst hsz
  have hl := lv_entry av (n := maxL) hlen
  rw [hl0] at hl
  rw [lg_entry_eq]
  have hts := atoms_spec (ws := gWh y bytes maxL ret hh) B.pre
  exact body p e s m _ below meth c _ _ ht ⟨B.exec, B.bytes, hml, findClass_of_methodNamed B.named, fun w hw => hts w (List.mem_cons_of_mem _ hw), hK, hN, fun q h => Or.inr h, B.returns, B.notSynchronized⟩ hX hNc ⟨pre, rfl, rfl⟩ s.heap [] _ hP hD.self va_S.rf hl
section GH
variable {E : gE} {p : Program} {l : Launch} {e : Env} {R : Room} {s : State} {m : MethodId} {args : Array Value} {below : List Frame} {meth : Method} {c : Code} {A : Nat → Prop} {nL kc ks kc' ks' : Nat} {Q : State → Prop} {ws ws' : va_W} {pc pc' : Nat} {lv lv' : List (Nat × Value)} {st : List Value}
variable {cc : ByteArray} {own : String} {ret : Option FieldType}
/-- a method of an object that throws -/
theorem g_callVT {sa : gTx} {X : String} {y : MethodName} {bytes : ByteArray} {maxL n index : Nat} {ry : Option FieldType} {rm : Room} {b : Addr} {As rest : List Value} {w0 w1 : va_W} (wr : va_W) (C : gC E p s m args meth c cc nL own ret A) (hX : gX sa A s s.heap) (hK9 : gKT l E y bytes maxL ry rm (.ref b :: As) w0 sa X w1) (hm : gM y bytes maxL ry n) (hi : Cond.instanceMethod y ∈ lw_g ∧ Cond.selects y.cls y y ∈ lw_g) (hlink : Cond.methodLink own index y ∈ lw_g)
    (q0 ci : Nat) {fs : List Value} {q : vw_C} (he : w0[q0]? = some (b, .inr (ci, fs))) (hc : vwCl[ci]? = some q) (hq : q.1 = y.cls) (hn : As.length = n) (hst : st = As.reverse ++ .ref b :: rest) (hW : (rest.map fun v => v.category).sum ≤ 8) (hR : rm.frames + 1 ≤ R.frames ∧ 8 + (maxL + 11) + rm.locals ≤ R.locals) (hf : kc + rm.cells ≤ R.cells ∧ ks + rm.slots ≤ R.slots) (hw : ws = w0 ++ wr) (hd : decode cc pc = .ok (.invokevirtual index, 3))
    (kk : gTh E p l e R s m args below meth c A nL (kc + rm.cells) (ks + rm.slots) Q X (w1 ++ wr) pc lv rest) : gG E p l e R s m args below meth c A nL kc ks Q ws pc lv st := by
  subst hw; subst hst
  intro H locs ls hP hD hS hl
  obtain ⟨hx, hb, hml, hown, hts, hK, hN, hA, hrt, hlk⟩ := id C
  refine g_behindT C hP hD hS hl (vx_runV (Ts := lw_g) (nL := nL) (cc := cc) ⟨hx, hb, hml, hown, hts⟩ (hK9 H.size) ⟨g_cb hm hlink hts hR, hts _ hi.1, hts _ hi.2⟩ ⟨gPX_blind, ?_, gX.pre C hX hP hD hS⟩ rfl hn hl.1 rfl ?_ hd hf) kk
  · rw [← hq]; exact va_recv hK (g_pl hP) hc he
  · show 2 * 0 + _ ≤ 8
    omega
/-- a handler -/
theorem g_tcatch {X : String} {rest : List Value} (C : gC E p s m args meth c cc nL own ret A) (hh : List (Nat × Nat × Nat × Nat)) (ht : c.exceptionTable.toList = tableOf hh) (pre : List ExceptionTableEntry) (x : ExceptionTableEntry) (suf : List ExceptionTableEntry) (hsplit : tableOf hh = pre ++ x :: suf)
    (hpass : ∀ z ∈ pre, z.catchType ≠ 0 ∧ ∃ nm : String, Cond.classLink own z.catchType nm ∈ lw_g ∧ va_Nc X nm s) (hx : covers x pc = true) (h0 : x.catchType ≠ 0) (hlink : Cond.classLink own x.catchType X ∈ lw_g) (hcast : va_Nw (.castable X X) s) (tgt : Nat) (htg : x.handlerPc = tgt)
    (kk : ∀ q : Nat, gG E p l e R s m args below meth c A nL kc ks Q ws tgt lv [.ref q]) : gTh E p l e R s m args below meth c A nL kc ks Q X ws pc lv rest := by
  subst htg
  obtain ⟨hx0, hb, hml, hown, hts, hK, hN, hA, hrt, hlk⟩ := id C
  intro H locs ls q ce hP hD hS hl hce hcv hcl
  exact vx_catch (E := X) (name := X) hown pre x suf (ht.trans hsplit) (fun z hz => Or.inr ⟨(hpass z hz).1, (hpass z hz).2.elim fun nm h => ⟨nm, hts _ h.1, h.2⟩⟩) hx h0 (hts _ hlink) (va_Nw.use rfl hcast) hce hcv hcl (kk q H locs ls hP hD hS hl)
/-- a static method with handlers -/
theorem g_callSW {sa : gTx} {y : MethodName} {bytes : ByteArray} {maxL n index : Nat} {ry : Option FieldType} {hh : List (Nat × Nat × Nat × Nat)} {rm : Room} {As rest : List Value} {w0 w1 : va_W} {rv : Option Value} (wr : va_W) (C : gC E p s m args meth c cc nL own ret A) (hX : gX sa A s s.heap) (hNc : gNc s) (hK9 : gKW l E y bytes maxL ry hh rm As w0 sa rv w1)
    (hcw : Cond.codeWith y bytes maxL ry hh ∈ lw_g) (hini : Cond.initialized y.cls ∈ lw_g) (hy : y.cls ≠ "java/lang/invoke/MethodHandle" ∧ y.cls ≠ "java/lang/invoke/VarHandle") (hdn : (parseMethodDescriptor y.desc).map (fun d => d.parameters.length) = some n) (hi : Cond.static y ∈ lw_g) (hlink : Cond.methodLink own index y ∈ lw_g)
    (hn : As.length = n) (hst : st = As.reverse ++ rest) (hW : (rest.map fun v => v.category).sum ≤ 8) (hR : rm.frames + 1 ≤ R.frames ∧ 8 + (maxL + 11) + rm.locals ≤ R.locals) (hf : kc + rm.cells ≤ R.cells ∧ ks + rm.slots ≤ R.slots) (hw : ws = w0 ++ wr) (hd : decode cc pc = .ok (.invokestatic index, 3)) (hp : pc + 3 = pc')
    (kk : gG E p l e R s m args below meth c A nL (kc + rm.cells) (ks + rm.slots) Q (w1 ++ wr) pc' lv (rv.toList ++ rest)) : gG E p l e R s m args below meth c A nL kc ks Q ws pc lv st := by
  subst hp; subst hw; subst hst
  intro H locs ls hP hD hS hl
  obtain ⟨hx, hb, hml, hown, hts, hK, hN, hA, hrt, hlk⟩ := id C
  refine g_behind C hP hD hS hl (vx_runSW (Ts := lw_g) (nL := nL) (cc := cc) (n := n) (hh := hh) (bytes := bytes) (maxL := maxL) (ret := ry) ⟨hx, hb, hml, hown, hts⟩ (hK9 H.size) ⟨⟨rfl, rfl, hR.1, hR.2, pay_in (big := Cond.codeWith y bytes maxL ry hh :: lw_g) (fun w hw => (List.mem_cons.mp hw).elim (fun z => by rw [z]; exact hts _ hcw) (hts w)) (lg_good hcw), List.mem_cons_self⟩, hts _ hcw, hts _ hini, hy, fun sig h => ?_, hts _ hlink, hts _ hi⟩ ⟨gPN_blind, fun U hU hW => ⟨gX.pre C hX hP hD hS U hU hW, gNc.warm hW hNc⟩⟩ rfl hn hl.1 rfl ?_ hd hf) kk
  · rw [h] at hdn
    exact (Option.some.inj hdn).symm
  · show 2 * 0 + _ ≤ 8
    omega
end GH
