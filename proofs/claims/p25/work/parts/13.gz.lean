/-! a method's proof: the end as a fact of its own, so that the walk's goal speaks of plain names -/
def gZ (E : gE) (s : State) (args : Array Value) (below : List Frame) (A : Nat → Prop) (Q : State → Prop) (kc ks : Nat) (rv : Option Value) (w1 : va_W) : Prop :=
  ∃ pre : va_W, A = va_A pre s.heap.size ∧ Q = MQ below (gQ E pre s.heap.size rv w1) args s kc ks (va_A pre s.heap.size)
theorem gK_by {l : Launch} {E : gE} {y : MethodName} {bytes : ByteArray} {maxL n : Nat} {ret : Option FieldType} {rm : Room} {av : List Value} {pre : va_W} {rv : Option Value} {w1 : va_W} (own : String) (ho : y.cls = own) (hm : gM y bytes maxL ret n) (lv0 : List (Nat × Value)) (hlen : (lg_sl av).length ≤ maxL) (hl0 : lv_args 0 av = lv0)
    (body : ∀ (p : Program) (e : Env) (s : State) (m : MethodId) (args : Array Value) (below : List Frame) (meth : Method) (c : Code) (A : Nat → Prop) (Q : State → Prop), gC E p s m args meth c bytes maxL own ret A → gZ E s args below A Q rm.cells rm.slots rv w1 → gG E p l e rm s m args below meth c A maxL 0 0 Q pre 0 lv0 []) : gK l E y bytes maxL ret rm av pre rv w1 := by
  subst ho
  exact gK_of hm lv0 hlen hl0 (fun p e s m args below meth c C => body p e s m args below meth c _ _ C ⟨pre, rfl, rfl⟩)
section GZ
variable {E : gE} {p : Program} {l : Launch} {e : Env} {R : Room} {s : State} {m : MethodId} {args : Array Value} {below : List Frame} {meth : Method} {c : Code} {A : Nat → Prop} {nL kc ks : Nat} {Q : State → Prop} {ws ws' : va_W} {pc pc' : Nat} {lv lv' : List (Nat × Value)} {st : List Value}
variable {cc : ByteArray} {own : String}
theorem z_iret {w1 : va_W} {v : Int32} {rv : Option Value} {ty : FieldType} (C : gC E p s m args meth c cc nL own (some ty) A) (Z : gZ E s args below A Q kc ks rv w1) (hn : narrow ty (.int v) = .int v) (hd : decode cc pc = .ok (.ireturn, 1)) (hv : rv = some (.int v)) (hw : ws = w1) : gG E p l e R s m args below meth c A nL kc ks Q ws pc lv [.int v] := by
  obtain ⟨pre, rfl, rfl⟩ := Z
  exact g_iret C hn hv hw hd
theorem z_vret {w1 : va_W} {rv : Option Value} (C : gC E p s m args meth c cc nL own none A) (Z : gZ E s args below A Q kc ks rv w1) (hd : decode cc pc = .ok (.return_, 1)) (hv : rv = none) (hw : ws = w1) : gG E p l e R s m args below meth c A nL kc ks Q ws pc lv [] := by
  obtain ⟨pre, rfl, rfl⟩ := Z
  exact g_vret C hv hw hd
theorem z_lret {w1 : va_W} {v : Int64} {rv : Option Value} (C : gC E p s m args meth c cc nL own (some .long) A) (Z : gZ E s args below A Q kc ks rv w1) (hd : decode cc pc = .ok (.lreturn, 1)) (hv : rv = some (.long v)) (hw : ws = w1) : gG E p l e R s m args below meth c A nL kc ks Q ws pc lv [.long v] := by
  obtain ⟨pre, rfl, rfl⟩ := Z
  exact g_lret C hv hw hd
theorem z_dret {w1 : va_W} {v : UInt64} {rv : Option Value} (C : gC E p s m args meth c cc nL own (some .double) A) (Z : gZ E s args below A Q kc ks rv w1) (hd : decode cc pc = .ok (.dreturn, 1)) (hv : rv = some (.double v)) (hw : ws = w1) : gG E p l e R s m args below meth c A nL kc ks Q ws pc lv [.double v] := by
  obtain ⟨pre, rfl, rfl⟩ := Z
  exact g_dret C hv hw hd
theorem z_nar {b : Int} (h : b = 0 ∨ b = 1) : narrow .boolean (.int (iI b)) = .int (iI b) := by rcases h with rfl | rfl <;> rfl
theorem g_min2 {ret : Option FieldType} (C : gC E p s m args meth c cc nL own ret A) {index : Nat} (hlink : Cond.methodLink own index Lib.Math.min.name ∈ lw_g) (hstat : Cond.static Lib.Math.min.name ∈ lw_g ∧ Cond.initialized "java/lang/Math" ∈ lw_g ∧ Cond.code Lib.Math.min.name Lib.Math.min.code 2 (some .int) ∈ lw_g) (hframes : 1 ≤ R.frames) (hlocals : (st.map fun v => v.category).sum + 13 ≤ R.locals) (hf : kc ≤ R.cells ∧ ks ≤ R.slots) {x y : Int} (hd : decode cc pc = .ok (.invokestatic index, 3)) (hp : pc + 3 = pc') (hx : -2147483648 ≤ x ∧ x ≤ 2147483647) (hy : -2147483648 ≤ y ∧ y ≤ 2147483647)
    (kk : gG E p l e R s m args below meth c A nL kc ks Q ws pc' lv (.int (iI (min x y)) :: st)) : gG E p l e R s m args below meth c A nL kc ks Q ws pc lv (.int (iI y) :: .int (iI x) :: st) := by
  refine g_min C hlink hstat hframes hlocals hf hx hy hd hp ?_
  rw [show (if y < x then y else x) = min x y by omega]
  exact kk
end GZ
/-! states as rows and numbers; worlds of them -/
abbrev gS : Type := (Nat → Int → Int) × (Nat → Int)
def setA (S : gS) (k : Nat) (f : Int → Int) : gS := (fun j => if j = k then f else S.1 j, S.2)
def setI (S : gS) (k : Nat) (x : Int) : gS := (S.1, fun j => if j = k then x else S.2 j)
def itr {α : Type} (f : Nat → α → α) (a : α) : Nat → α
  | 0 => a
  | k + 1 => f k (itr f a k)
def bI (b : Prop) [Decidable b] : Int := if b then 1 else 0
theorem bI_t {b : Prop} [Decidable b] (h : b) : bI b = 1 := if_pos h
theorem bI_f {b : Prop} [Decidable b] (h : ¬ b) : bI b = 0 := if_neg h
theorem bI_01 (b : Prop) [Decidable b] : bI b = 0 ∨ bI b = 1 := by
  by_cases h : b
  · exact Or.inr (if_pos h)
  · exact Or.inl (if_neg h)
/-- a town of FloodWardens: 32 cells -/
def wT (E : gE) (ad : Nat → Nat) (S : gS) : va_W :=
  [(ad 0, .inr (6, [.int (iI (S.2 0)), .ref (ad 1), .ref (ad 7), .ref (ad 13), .ref (ad 16), .ref (ad 21), .ref (ad 25), .ref (ad 28)])),
   (ad 1, .inr (3, [.ref (ad 2), .ref (ad 3), .ref (ad 4), .ref (ad 5), .ref (ad 6)])),
   (ad 2, ca E 80 (S.1 2)), (ad 3, ca E 80 (S.1 3)), (ad 4, ca E 80 (S.1 4)), (ad 5, ca E 80 (S.1 5)), (ad 6, ca E 12 (S.1 6)),
   (ad 7, .inr (4, [.ref (ad 8), .int (iI (S.2 1)), .ref (ad 9), .ref (ad 10), .ref (ad 11), .ref (ad 12)])),
   (ad 8, ca E 5 (S.1 8)), (ad 9, ca E 5 (S.1 9)), (ad 10, ca E 5 (S.1 10)), (ad 11, cz E 5 (S.1 11)), (ad 12, ca E 5 (S.1 12)),
   (ad 13, .inr (1, [.ref (ad 14), .int (iI (S.2 2)), .ref (ad 15)])),
   (ad 14, ca E 4 (S.1 14)), (ad 15, ca E 4 (S.1 15)),
   (ad 16, .inr (5, [.ref (ad 17), .int (iI (S.2 3)), .ref (ad 18), .ref (ad 19), .ref (ad 20)])),
   (ad 17, ca E 4 (S.1 17)), (ad 18, ca E 4 (S.1 18)), (ad 19, ca E 4 (S.1 19)), (ad 20, ca E 4 (S.1 20)),
   (ad 21, .inr (2, [.ref (ad 22), .int (iI (S.2 4)), .ref (ad 23), .ref (ad 24), .int (iI (S.2 5))])),
   (ad 22, ca E 10 (S.1 22)), (ad 23, ca E 10 (S.1 23)), (ad 24, ca E 10 (S.1 24)),
   (ad 25, .inr (0, [.ref (ad 26), .int (iI (S.2 6)), .ref (ad 27)])),
   (ad 26, ca E 3 (S.1 26)), (ad 27, ca E 3 (S.1 27)),
   (ad 28, .inr (7, [.ref (ad 29), .ref (ad 30), .ref (ad 31), .int (iI (S.2 7))])),
   (ad 29, ca E 80 (S.1 29)), (ad 30, ca E 80 (S.1 30)), (ad 31, ca E 80 (S.1 31))]
/-- a State of the model: 9 cells; ints: 0 hour, 1 lost -/
def wS (E : gE) (ad : Nat → Nat) (S : gS) : va_W :=
  [(ad 0, .inr (9, [.int (iI (S.2 0)), .int (iI (S.2 1)), .ref (ad 1), .ref (ad 2), .ref (ad 3), .ref (ad 4), .ref (ad 5), .ref (ad 6), .ref (ad 7), .ref (ad 8)])),
   (ad 1, ca E 80 (S.1 1)), (ad 2, ca E 80 (S.1 2)), (ad 3, ca E 80 (S.1 3)), (ad 4, ca E 25 (S.1 4)), (ad 5, ca E 8 (S.1 5)), (ad 6, ca E 8 (S.1 6)), (ad 7, ca E 40 (S.1 7)), (ad 8, ca E 6 (S.1 8))]
/-- the model itself: 6 cells; ints: 0 thrown, 1 pumps, 2 gauges, 3 refuges, 4 households, 5 callers -/
def wM (E : gE) (ad : Nat → Nat) (ss sa : Nat) (M : gS) : va_W :=
  [(ad 0, .inr (10, [.int (iI (M.2 0)), .ref (ad 1), .int (iI (M.2 1)), .int (iI (M.2 2)), .int (iI (M.2 3)), .int (iI (M.2 4)), .int (iI (M.2 5)), .ref (ad 2), .ref (ad 3), .ref (ad 4), .ref (ad 5), .ref ss, .ref sa])),
   (ad 1, ca E 12 (M.1 1)), (ad 2, ca E 80 (M.1 2)), (ad 3, ca E 80 (M.1 3)), (ad 4, ca E 80 (M.1 4)), (ad 5, ca E 80 (M.1 5))]
section GZ2
variable {E : gE} {p : Program} {l : Launch} {e : Env} {R : Room} {s : State} {m : MethodId} {args : Array Value} {below : List Frame} {meth : Method} {c : Code} {A : Nat → Prop} {nL kc ks kc' ks' : Nat} {Q : State → Prop} {ws ws' : va_W} {pc pc' : Nat} {lv lv' : List (Nat × Value)} {st : List Value}
variable {cc : ByteArray} {own : String} {ret : Option FieldType}
theorem g_callV0 (C : gC E p s m args meth c cc nL own ret A) {y : MethodName} {bytes : ByteArray} {maxL n index : Nat} {ry : Option FieldType} {rm : Room} {b : Addr} {As rest : List Value} {w1 : va_W} {rv : Option Value} (hK9 : gK l E y bytes maxL ry rm (.ref b :: As) ws rv w1) (hm : gM y bytes maxL ry n) (hi : Cond.instanceMethod y ∈ lw_g ∧ Cond.selects y.cls y y ∈ lw_g) (hlink : Cond.methodLink own index y ∈ lw_g)
    (q0 ci : Nat) {fs : List Value} {q : vw_C} (he : ws[q0]? = some (b, .inr (ci, fs))) (hc : vwCl[ci]? = some q) (hq : q.1 = y.cls) (hn : As.length = n) (hst : st = As.reverse ++ .ref b :: rest) (hW : (rest.map fun v => v.category).sum ≤ 8) (hR : rm.frames + 1 ≤ R.frames ∧ 8 + (maxL + 11) + rm.locals ≤ R.locals) (hf : kc + rm.cells ≤ R.cells ∧ ks + rm.slots ≤ R.slots) (hk1 : kc + rm.cells = kc') (hk2 : ks + rm.slots = ks') (hd : decode cc pc = .ok (.invokevirtual index, 3)) (hp : pc + 3 = pc')
    (kk : gG E p l e R s m args below meth c A nL kc' ks' Q w1 pc' lv (rv.toList ++ rest)) : gG E p l e R s m args below meth c A nL kc ks Q ws pc lv st := by
  subst hk1; subst hk2
  exact g_callV C [] hK9 hm hi hlink q0 ci he hc hq hn hst hW hR hf (List.append_nil _).symm hd hp (by rw [List.append_nil]; exact kk)
theorem g_callS0 (C : gC E p s m args meth c cc nL own ret A) {y : MethodName} {bytes : ByteArray} {maxL n index : Nat} {ry : Option FieldType} {rm : Room} {As rest : List Value} {w1 : va_W} {rv : Option Value} (hK9 : gK l E y bytes maxL ry rm As ws rv w1) (hm : gM y bytes maxL ry n) (hi : Cond.static y ∈ lw_g) (hlink : Cond.methodLink own index y ∈ lw_g)
    (hn : As.length = n) (hst : st = As.reverse ++ rest) (hW : (rest.map fun v => v.category).sum ≤ 8) (hR : rm.frames + 1 ≤ R.frames ∧ 8 + (maxL + 11) + rm.locals ≤ R.locals) (hf : kc + rm.cells ≤ R.cells ∧ ks + rm.slots ≤ R.slots) (hk1 : kc + rm.cells = kc') (hk2 : ks + rm.slots = ks') (hd : decode cc pc = .ok (.invokestatic index, 3)) (hp : pc + 3 = pc')
    (kk : gG E p l e R s m args below meth c A nL kc' ks' Q w1 pc' lv (rv.toList ++ rest)) : gG E p l e R s m args below meth c A nL kc ks Q ws pc lv st := by
  subst hk1; subst hk2
  exact g_callS C [] hK9 hm hi hlink hn hst hW hR hf (List.append_nil _).symm hd hp (by rw [List.append_nil]; exact kk)
theorem g_callI0 (C : gC E p s m args meth c cc nL own ret A) {y : MethodName} {bytes : ByteArray} {maxL n index : Nat} {rm : Room} {b : Addr} {As rest : List Value} {w1 : va_W} {rv : Option Value} (hK9 : gK l E y bytes maxL none rm (.ref b :: As) ws rv w1) (hm : gM y bytes maxL none n) (hi : Cond.instanceMethod y ∈ lw_g) (hy : y.name = "<init>") (hlink : Cond.methodLink own index y ∈ lw_g)
    (hn : As.length = n) (hst : st = As.reverse ++ .ref b :: rest) (hW : (rest.map fun v => v.category).sum ≤ 8) (hR : rm.frames + 1 ≤ R.frames ∧ 8 + (maxL + 11) + rm.locals ≤ R.locals) (hf : kc + rm.cells ≤ R.cells ∧ ks + rm.slots ≤ R.slots) (hk1 : kc + rm.cells = kc') (hk2 : ks + rm.slots = ks') (hd : decode cc pc = .ok (.invokespecial index, 3)) (hp : pc + 3 = pc')
    (kk : gG E p l e R s m args below meth c A nL kc' ks' Q w1 pc' lv (rv.toList ++ rest)) : gG E p l e R s m args below meth c A nL kc ks Q ws pc lv st := by
  subst hk1; subst hk2
  exact g_callI C [] hK9 hm hi hy hlink hn hst hW hR hf (List.append_nil _).symm hd hp (by rw [List.append_nil]; exact kk)
theorem g_callU0 (C : gC E p s m args meth c cc nL own ret A) {x y : MethodName} {bytes : ByteArray} {maxL n index : Nat} {ry : Option FieldType} {rm : Room} {b : Addr} {As rest : List Value} {w1 : va_W} {rv : Option Value} (owner Cn : String) (hK9 : gK l E y bytes maxL ry rm (.ref b :: As) ws rv w1) (hm : gM y bytes maxL ry n) (hi : Cond.instanceMethod y ∈ lw_g ∧ Cond.selects Cn x y ∈ lw_g ∧ Cond.sameMethod x.cls owner x.name x.desc ∈ lw_g) (hyx : y = ⟨owner, x.name, x.desc⟩) (ho : owner ≠ "java/lang/invoke/MethodHandle" ∧ owner ≠ "java/lang/invoke/VarHandle") (hlink : Cond.methodLink own index x ∈ lw_g)
    (q0 ci : Nat) {fs : List Value} {q : vw_C} (he : ws[q0]? = some (b, .inr (ci, fs))) (hc : vwCl[ci]? = some q) (hq : q.1 = Cn) (hn : As.length = n) (hst : st = As.reverse ++ .ref b :: rest) (hW : (rest.map fun v => v.category).sum ≤ 8) (hR : rm.frames + 1 ≤ R.frames ∧ 8 + (maxL + 11) + rm.locals ≤ R.locals) (hf : kc + rm.cells ≤ R.cells ∧ ks + rm.slots ≤ R.slots) (hk1 : kc + rm.cells = kc') (hk2 : ks + rm.slots = ks') (hd : decode cc pc = .ok (.invokevirtual index, 3)) (hp : pc + 3 = pc')
    (kk : gG E p l e R s m args below meth c A nL kc' ks' Q w1 pc' lv (rv.toList ++ rest)) : gG E p l e R s m args below meth c A nL kc ks Q ws pc lv st := by
  subst hk1; subst hk2
  exact g_callU C owner Cn [] hK9 hm hi hyx ho hlink q0 ci he hc hq hn hst hW hR hf (List.append_nil _).symm hd hp (by rw [List.append_nil]; exact kk)
end GZ2
section GZ3
variable {E : gE} {p : Program} {l : Launch} {e : Env} {R : Room} {s : State} {m : MethodId} {args : Array Value} {below : List Frame} {meth : Method} {c : Code} {A : Nat → Prop} {nL kc ks kc' ks' : Nat} {Q : State → Prop} {ws ws' : va_W} {pc pc' : Nat} {lv lv' : List (Nat × Value)} {st : List Value}
variable {cc : ByteArray} {own : String} {ret : Option FieldType}
/-- a static method that looks at no cell -/
theorem g_callS1 (C : gC E p s m args meth c cc nL own ret A) {y : MethodName} {bytes : ByteArray} {maxL n index : Nat} {ry : Option FieldType} {rm : Room} {As rest : List Value} {rv : Option Value} (hK9 : gK l E y bytes maxL ry rm As [] rv []) (hm : gM y bytes maxL ry n) (hi : Cond.static y ∈ lw_g) (hlink : Cond.methodLink own index y ∈ lw_g)
    (hn : As.length = n) (hst : st = As.reverse ++ rest) (hW : (rest.map fun v => v.category).sum ≤ 8) (hR : rm.frames + 1 ≤ R.frames ∧ 8 + (maxL + 11) + rm.locals ≤ R.locals) (hf : kc + rm.cells ≤ R.cells ∧ ks + rm.slots ≤ R.slots) (hk1 : kc + rm.cells = kc') (hk2 : ks + rm.slots = ks') (hd : decode cc pc = .ok (.invokestatic index, 3)) (hp : pc + 3 = pc')
    (kk : gG E p l e R s m args below meth c A nL kc' ks' Q ws pc' lv (rv.toList ++ rest)) : gG E p l e R s m args below meth c A nL kc ks Q ws pc lv st := by
  subst hk1; subst hk2
  exact g_callS C ws hK9 hm hi hlink hn hst hW hR hf rfl hd hp kk
theorem g_callVf (C : gC E p s m args meth c cc nL own ret A) {y : MethodName} {bytes : ByteArray} {maxL n index : Nat} {ry : Option FieldType} {rm : Room} {b : Addr} {As rest : List Value} {w0 w1 : va_W} {rv : Option Value} (wr : va_W) (hK9 : gK l E y bytes maxL ry rm (.ref b :: As) w0 rv w1) (hm : gM y bytes maxL ry n) (hi : Cond.instanceMethod y ∈ lw_g ∧ Cond.selects y.cls y y ∈ lw_g) (hlink : Cond.methodLink own index y ∈ lw_g)
    (q0 ci : Nat) {fs : List Value} {q : vw_C} (he : w0[q0]? = some (b, .inr (ci, fs))) (hc : vwCl[ci]? = some q) (hq : q.1 = y.cls) (hn : As.length = n) (hst : st = As.reverse ++ .ref b :: rest) (hW : (rest.map fun v => v.category).sum ≤ 8) (hR : rm.frames + 1 ≤ R.frames ∧ 8 + (maxL + 11) + rm.locals ≤ R.locals) (hf : kc + rm.cells ≤ R.cells ∧ ks + rm.slots ≤ R.slots) (hk1 : kc + rm.cells = kc') (hk2 : ks + rm.slots = ks') (hw : ws = w0 ++ wr) (hd : decode cc pc = .ok (.invokevirtual index, 3)) (hp : pc + 3 = pc')
    (kk : gG E p l e R s m args below meth c A nL kc' ks' Q (w1 ++ wr) pc' lv (rv.toList ++ rest)) : gG E p l e R s m args below meth c A nL kc ks Q ws pc lv st := by
  subst hk1; subst hk2
  exact g_callV C wr hK9 hm hi hlink q0 ci he hc hq hn hst hW hR hf hw hd hp kk
theorem g_callSf (C : gC E p s m args meth c cc nL own ret A) {y : MethodName} {bytes : ByteArray} {maxL n index : Nat} {ry : Option FieldType} {rm : Room} {As rest : List Value} {w0 w1 : va_W} {rv : Option Value} (wr : va_W) (hK9 : gK l E y bytes maxL ry rm As w0 rv w1) (hm : gM y bytes maxL ry n) (hi : Cond.static y ∈ lw_g) (hlink : Cond.methodLink own index y ∈ lw_g)
    (hn : As.length = n) (hst : st = As.reverse ++ rest) (hW : (rest.map fun v => v.category).sum ≤ 8) (hR : rm.frames + 1 ≤ R.frames ∧ 8 + (maxL + 11) + rm.locals ≤ R.locals) (hf : kc + rm.cells ≤ R.cells ∧ ks + rm.slots ≤ R.slots) (hk1 : kc + rm.cells = kc') (hk2 : ks + rm.slots = ks') (hw : ws = w0 ++ wr) (hd : decode cc pc = .ok (.invokestatic index, 3)) (hp : pc + 3 = pc')
    (kk : gG E p l e R s m args below meth c A nL kc' ks' Q (w1 ++ wr) pc' lv (rv.toList ++ rest)) : gG E p l e R s m args below meth c A nL kc ks Q ws pc lv st := by
  subst hk1; subst hk2
  exact g_callS C wr hK9 hm hi hlink hn hst hW hR hf hw hd hp kk
theorem g_callIf (C : gC E p s m args meth c cc nL own ret A) {y : MethodName} {bytes : ByteArray} {maxL n index : Nat} {rm : Room} {b : Addr} {As rest : List Value} {w0 w1 : va_W} {rv : Option Value} (wr : va_W) (hK9 : gK l E y bytes maxL none rm (.ref b :: As) w0 rv w1) (hm : gM y bytes maxL none n) (hi : Cond.instanceMethod y ∈ lw_g) (hy : y.name = "<init>") (hlink : Cond.methodLink own index y ∈ lw_g)
    (hn : As.length = n) (hst : st = As.reverse ++ .ref b :: rest) (hW : (rest.map fun v => v.category).sum ≤ 8) (hR : rm.frames + 1 ≤ R.frames ∧ 8 + (maxL + 11) + rm.locals ≤ R.locals) (hf : kc + rm.cells ≤ R.cells ∧ ks + rm.slots ≤ R.slots) (hk1 : kc + rm.cells = kc') (hk2 : ks + rm.slots = ks') (hw : ws = w0 ++ wr) (hd : decode cc pc = .ok (.invokespecial index, 3)) (hp : pc + 3 = pc')
    (kk : gG E p l e R s m args below meth c A nL kc' ks' Q (w1 ++ wr) pc' lv (rv.toList ++ rest)) : gG E p l e R s m args below meth c A nL kc ks Q ws pc lv st := by
  subst hk1; subst hk2
  exact g_callI C wr hK9 hm hi hy hlink hn hst hW hR hf hw hd hp kk
theorem g_callINf (C : gC E p s m args meth c cc nL own ret A) {y : MethodName} {bytes : ByteArray} {maxL n index : Nat} {rm : Room} {b : Addr} {As rest : List Value} {w0 w1 : va_W} {rv : Option Value} (host : String) (wr : va_W) (hK9 : gK l E y bytes maxL none rm (.ref b :: As) w0 rv w1) (hm : gM y bytes maxL none n) (hi : Cond.instanceMethod y ∈ lw_g) (hy : y.name = "<init>") (hlink : (own, index, y.cls, host) ∈ gNM ∧ y = ⟨y.cls, "<init>", "()V"⟩)
    (hn : As.length = n) (hst : st = As.reverse ++ .ref b :: rest) (hW : (rest.map fun v => v.category).sum ≤ 8) (hR : rm.frames + 1 ≤ R.frames ∧ 8 + (maxL + 11) + rm.locals ≤ R.locals) (hf : kc + rm.cells ≤ R.cells ∧ ks + rm.slots ≤ R.slots) (hk1 : kc + rm.cells = kc') (hk2 : ks + rm.slots = ks') (hw : ws = w0 ++ wr) (hd : decode cc pc = .ok (.invokespecial index, 3)) (hp : pc + 3 = pc')
    (kk : gG E p l e R s m args below meth c A nL kc' ks' Q (w1 ++ wr) pc' lv (rv.toList ++ rest)) : gG E p l e R s m args below meth c A nL kc ks Q ws pc lv st := by
  subst hk1; subst hk2
  exact g_callIN C host wr hK9 hm hi hy hlink hn hst hW hR hf hw hd hp kk
theorem g_callUf (C : gC E p s m args meth c cc nL own ret A) {x y : MethodName} {bytes : ByteArray} {maxL n index : Nat} {ry : Option FieldType} {rm : Room} {b : Addr} {As rest : List Value} {w0 w1 : va_W} {rv : Option Value} (owner Cn : String) (wr : va_W) (hK9 : gK l E y bytes maxL ry rm (.ref b :: As) w0 rv w1) (hm : gM y bytes maxL ry n) (hi : Cond.instanceMethod y ∈ lw_g ∧ Cond.selects Cn x y ∈ lw_g ∧ Cond.sameMethod x.cls owner x.name x.desc ∈ lw_g) (hyx : y = ⟨owner, x.name, x.desc⟩) (ho : owner ≠ "java/lang/invoke/MethodHandle" ∧ owner ≠ "java/lang/invoke/VarHandle") (hlink : Cond.methodLink own index x ∈ lw_g)
    (q0 ci : Nat) {fs : List Value} {q : vw_C} (he : w0[q0]? = some (b, .inr (ci, fs))) (hc : vwCl[ci]? = some q) (hq : q.1 = Cn) (hn : As.length = n) (hst : st = As.reverse ++ .ref b :: rest) (hW : (rest.map fun v => v.category).sum ≤ 8) (hR : rm.frames + 1 ≤ R.frames ∧ 8 + (maxL + 11) + rm.locals ≤ R.locals) (hf : kc + rm.cells ≤ R.cells ∧ ks + rm.slots ≤ R.slots) (hk1 : kc + rm.cells = kc') (hk2 : ks + rm.slots = ks') (hw : ws = w0 ++ wr) (hd : decode cc pc = .ok (.invokevirtual index, 3)) (hp : pc + 3 = pc')
    (kk : gG E p l e R s m args below meth c A nL kc' ks' Q (w1 ++ wr) pc' lv (rv.toList ++ rest)) : gG E p l e R s m args below meth c A nL kc ks Q ws pc lv st := by
  subst hk1; subst hk2
  exact g_callU C owner Cn wr hK9 hm hi hyx ho hlink q0 ci he hc hq hn hst hW hR hf hw hd hp kk
/-! worlds of several blocks, in another order -/
theorem pm_10 {a b : va_W} : (b ++ a).Perm (a ++ b) := List.perm_append_comm
theorem pm_102 {a b c : va_W} : (b ++ (a ++ c)).Perm (a ++ (b ++ c)) := by
  rw [← List.append_assoc, ← List.append_assoc]
  exact List.perm_append_comm.append_right c
theorem pm_021 {a b c : va_W} : (a ++ (c ++ b)).Perm (a ++ (b ++ c)) := List.perm_append_comm.append_left a
theorem pm_201 {a b c : va_W} : (c ++ (a ++ b)).Perm (a ++ (b ++ c)) := by
  rw [← List.append_assoc a b c]
  exact List.perm_append_comm
theorem pm_120 {a b c : va_W} : (b ++ (c ++ a)).Perm (a ++ (b ++ c)) := by
  rw [← List.append_assoc b c a]
  exact List.perm_append_comm
theorem pm_210 {a b c : va_W} : (c ++ (b ++ a)).Perm (a ++ (b ++ c)) := (List.perm_append_comm.append_left c).trans pm_201
end GZ3
section GZ4
variable {E : gE} {p : Program} {l : Launch} {e : Env} {R : Room} {s : State} {m : MethodId} {args : Array Value} {below : List Frame} {meth : Method} {c : Code} {A : Nat → Prop} {nL kc ks kc' ks' : Nat} {Q : State → Prop} {ws ws' : va_W} {pc pc' : Nat} {lv lv' : List (Nat × Value)} {st : List Value}
variable {cc : ByteArray} {own : String} {ret : Option FieldType}
theorem iI_xor {a b : Int} (ha : 0 ≤ a ∧ a ≤ 2147483647) (hb : 0 ≤ b ∧ b ≤ 2147483647) : ∃ z : Int, (0 ≤ z ∧ z ≤ 2147483647) ∧ iI a ^^^ iI b = iI z := by
  refine ⟨((a.toNat ^^^ b.toNat : Nat) : Int), ?_, ?_⟩
  · have := Nat.xor_lt_two_pow (n := 31) (x := a.toNat) (y := b.toNat) (by omega) (by omega)
    omega
  · have h : ∀ n : Nat, iI (n : Int) = Int32.ofNat n := fun n => by
      show Int32.ofInt n = Int32.ofNat n
      rw [← Int32.ofInt_eq_ofNat]
    rw [h, show iI a = Int32.ofNat a.toNat from by rw [← h]; congr 1; omega, show iI b = Int32.ofNat b.toNat from by rw [← h]; congr 1; omega]
    apply Int32.toBitVec_inj.mp
    show BitVec.ofNat 32 a.toNat ^^^ BitVec.ofNat 32 b.toNat = BitVec.ofNat 32 (a.toNat ^^^ b.toNat)
    apply BitVec.eq_of_toNat_eq
    rw [BitVec.toNat_xor, BitVec.toNat_ofNat, BitVec.toNat_ofNat, BitVec.toNat_ofNat]
    have h3 := Nat.xor_lt_two_pow (n := 31) (x := a.toNat) (y := b.toNat) (by omega) (by omega)
    rw [Nat.mod_eq_of_lt (by omega), Nat.mod_eq_of_lt (by omega), Nat.mod_eq_of_lt (by omega)]
theorem g_ixor (C : gC E p s m args meth c cc nL own ret A) {x y : Int} (hd : decode cc pc = .ok (.ixor, 1)) (hp : pc + 1 = pc') (hx : 0 ≤ x ∧ x ≤ 2147483647) (hy : 0 ≤ y ∧ y ≤ 2147483647) (kk : ∀ z : Int, 0 ≤ z ∧ z ≤ 2147483647 → gG E p l e R s m args below meth c A nL kc ks Q ws pc' lv (.int (iI z) :: st)) : gG E p l e R s m args below meth c A nL kc ks Q ws pc lv (.int (iI y) :: .int (iI x) :: st) := by
  subst hp
  obtain ⟨z, hz, e9⟩ := iI_xor hx hy
  exact fun H locs ls hP hD hS hl => lv_ixor C.1 C.2.1 hd (by rw [e9]; exact kk z hz H locs ls hP hD hS hl)
theorem itr_stop {α : Type} {f : Nat → α → α} {a : α} {k : Nat} (h : ∀ j, k ≤ j → f j (itr f a k) = itr f a k) : ∀ n, k ≤ n → itr f a n = itr f a k := by
  intro n hn
  induction n with
  | zero => rw [show k = 0 by omega]
  | succ n ih =>
    rcases Nat.lt_or_ge n k with q | q
    · rw [show k = n + 1 by omega]
    · show f n (itr f a n) = _
      rw [ih q]
      exact h n q
theorem g_if_ge (C : gC E p s m args meth c cc nL own ret A) {off : Int} {x : Int} (hd : decode cc pc = .ok (.ifCond .ge off, 3)) (tgt : Nat) (ht : (pc : Int) + off = (tgt : Int)) (hp : pc + 3 = pc') (hx : -2147483648 ≤ x ∧ x ≤ 2147483647) (kt : 0 ≤ x → gG E p l e R s m args below meth c A nL kc ks Q ws tgt lv st) (kf : ¬ 0 ≤ x → gG E p l e R s m args below meth c A nL kc ks Q ws pc' lv st) : gG E p l e R s m args below meth c A nL kc ks Q ws pc lv (.int (iI x) :: st) := by
  subst hp
  exact fun H locs ls hP hD hS hl => lv_if_ge C.1 C.2.1 hd ht (fun h => kt ((iI_le (a := 0) (by omega) hx).mp h) H locs ls hP hD hS hl) (fun h => kf (fun z => h ((iI_le (a := 0) (by omega) hx).mpr z)) H locs ls hP hD hS hl)
theorem g_lookIn (C : gC E p s m args meth c cc nL own ret A) {dflt : Int} {ps : Array (Int × Int)} {len : Nat} {x off : Int} (hd : decode cc pc = .ok (.lookupswitch dflt ps, len)) (hp : (ps.toList.zip (ps.toList.drop 1)).all (fun (a, next) => a.1 < next.1) = true) (tgt : Nat) (v : Int) (hv : x = v) (hx : -2147483648 ≤ v ∧ v ≤ 2147483647) (ho : Op.lookupswitch.offset ps.toList dflt v = off) (ht : (pc : Int) + off = (tgt : Int)) (kk : gG E p l e R s m args below meth c A nL kc ks Q ws tgt lv st) : gG E p l e R s m args below meth c A nL kc ks Q ws pc lv (.int (iI x) :: st) := by
  subst hv
  exact fun H locs ls hP hD hS hl => lv_lookup C.1 C.2.1 hd hp (by rw [iI_toInt hx]; exact ho) ht (kk H locs ls hP hD hS hl)
theorem g_lookOut2 (C : gC E p s m args meth c cc nL own ret A) {dflt : Int} {a0 o0 a1 o1 : Int} {len : Nat} {x : Int} (hd : decode cc pc = .ok (.lookupswitch dflt #[(a0, o0), (a1, o1)], len)) (hp : a0 < a1) (tgt : Nat) (hx : -2147483648 ≤ x ∧ x ≤ 2147483647) (h0 : ¬ x = a0) (h1 : ¬ x = a1) (ht : (pc : Int) + dflt = (tgt : Int)) (kk : gG E p l e R s m args below meth c A nL kc ks Q ws tgt lv st) : gG E p l e R s m args below meth c A nL kc ks Q ws pc lv (.int (iI x) :: st) :=
  fun H locs ls hP hD hS hl => lv_lookup C.1 C.2.1 hd (by simp [hp]) (by rw [iI_toInt hx]; rw [Op.lookupswitch.offset_cons, if_neg (fun z => h0 z.symm), Op.lookupswitch.offset_cons, if_neg (fun z => h1 z.symm)]; rfl) ht (kk H locs ls hP hD hS hl)
end GZ4
