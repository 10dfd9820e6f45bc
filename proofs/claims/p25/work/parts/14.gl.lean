/-- an int as a long -/
def lI (x : Int) : Int64 := (iI x).toInt64
section GL
variable {E : gE} {p : Program} {l : Launch} {e : Env} {R : Room} {s : State} {m : MethodId} {args : Array Value} {below : List Frame} {meth : Method} {c : Code} {A : Nat → Prop} {nL kc ks : Nat} {Q : State → Prop} {ws ws' : va_W} {pc pc' : Nat} {lv lv' : List (Nat × Value)} {st : List Value}
variable {cc : ByteArray} {own : String} {ret : Option FieldType}
theorem g_sipush (C : gC E p s m args meth c cc nL own ret A) {n : Int} (hd : decode cc pc = .ok (.sipush n, 3)) (hp : pc + 3 = pc') (hv : (Int16.ofInt n).toInt32 = iI n) (kk : gG E p l e R s m args below meth c A nL kc ks Q ws pc' lv (.int (iI n) :: st)) : gG E p l e R s m args below meth c A nL kc ks Q ws pc lv st := by
  subst hp
  exact fun H locs ls hP hD hS hl => lv_sipush C.1 C.2.1 hd hv (kk H locs ls hP hD hS hl)
theorem g_ldc2 (C : gC E p s m args meth c cc nL own ret A) {index : Nat} {v : Int64} (hc : Cond.constantLong own index v ∈ lw_g) (hd : decode cc pc = .ok (.ldc2_w index, 3)) (hp : pc + 3 = pc') (kk : gG E p l e R s m args below meth c A nL kc ks Q ws pc' lv (.long v :: st)) : gG E p l e R s m args below meth c A nL kc ks Q ws pc lv st := by
  subst hp
  obtain ⟨hx, hb, -, hown, hts, -⟩ := C
  exact fun H locs ls hP hD hS hl => lv_ldc2 hx hb hown (hts _ hc) hd (kk H locs ls hP hD hS hl)
theorem g_ladd (C : gC E p s m args meth c cc nL own ret A) {x y : Int64} (hd : decode cc pc = .ok (.ladd, 1)) (hp : pc + 1 = pc') (kk : gG E p l e R s m args below meth c A nL kc ks Q ws pc' lv (.long (x + y) :: st)) : gG E p l e R s m args below meth c A nL kc ks Q ws pc lv (.long y :: .long x :: st) := by
  subst hp
  exact fun H locs ls hP hD hS hl => lv_ladd C.1 C.2.1 hd (kk H locs ls hP hD hS hl)
theorem g_lmul (C : gC E p s m args meth c cc nL own ret A) {x y : Int64} (hd : decode cc pc = .ok (.lmul, 1)) (hp : pc + 1 = pc') (kk : gG E p l e R s m args below meth c A nL kc ks Q ws pc' lv (.long (x * y) :: st)) : gG E p l e R s m args below meth c A nL kc ks Q ws pc lv (.long y :: .long x :: st) := by
  subst hp
  exact fun H locs ls hP hD hS hl => lv_lmul C.1 C.2.1 hd (kk H locs ls hP hD hS hl)
theorem g_i2l (C : gC E p s m args meth c cc nL own ret A) {x : Int} (hd : decode cc pc = .ok (.i2l, 1)) (hp : pc + 1 = pc') (kk : gG E p l e R s m args below meth c A nL kc ks Q ws pc' lv (.long (lI x) :: st)) : gG E p l e R s m args below meth c A nL kc ks Q ws pc lv (.int (iI x) :: st) := by
  subst hp
  exact fun H locs ls hP hD hS hl => lv_i2l C.1 C.2.1 hd rfl (kk H locs ls hP hD hS hl)
theorem g_lconst (C : gC E p s m args meth c cc nL own ret A) {n : Fin 2} {v : Int64} (hd : decode cc pc = .ok (.lconst n, 1)) (hp : pc + 1 = pc') (hv : Int64.ofNat (n : Nat) = v) (kk : gG E p l e R s m args below meth c A nL kc ks Q ws pc' lv (.long v :: st)) : gG E p l e R s m args below meth c A nL kc ks Q ws pc lv st := by
  subst hp
  exact fun H locs ls hP hD hS hl => lv_lconst C.1 C.2.1 hd hv (kk H locs ls hP hD hS hl)
theorem g_dconst0 (C : gC E p s m args meth c cc nL own ret A) (hd : decode cc pc = .ok (.dconst 0, 1)) (hp : pc + 1 = pc') (kk : gG E p l e R s m args below meth c A nL kc ks Q ws pc' lv (.double FP.dconst0 :: st)) : gG E p l e R s m args below meth c A nL kc ks Q ws pc lv st := by
  subst hp
  exact fun H locs ls hP hD hS hl => lv_dconst0 C.1 C.2.1 hd (kk H locs ls hP hD hS hl)
theorem g_i2d (C : gC E p s m args meth c cc nL own ret A) {x : Int32} (hd : decode cc pc = .ok (.i2d, 1)) (hp : pc + 1 = pc') (kk : gG E p l e R s m args below meth c A nL kc ks Q ws pc' lv (.double (FP.i2d x) :: st)) : gG E p l e R s m args below meth c A nL kc ks Q ws pc lv (.int x :: st) := by
  subst hp
  exact fun H locs ls hP hD hS hl => lv_i2d C.1 C.2.1 hd (kk H locs ls hP hD hS hl)
theorem g_ddiv (C : gC E p s m args meth c cc nL own ret A) {x y : UInt64} (hd : decode cc pc = .ok (.ddiv, 1)) (hp : pc + 1 = pc') (hne : vf_n64 (FP.ddiv x y)) (kk : gG E p l e R s m args below meth c A nL kc ks Q ws pc' lv (.double (FP.ddiv x y) :: st)) : gG E p l e R s m args below meth c A nL kc ks Q ws pc lv (.double y :: .double x :: st) := by
  subst hp
  exact fun H locs ls hP hD hS hl => lv_ddiv C.1 C.2.1 hd hne (kk H locs ls hP hD hS hl)
theorem g_putF (C : gC E p s m args meth c cc nL own ret A) (hin2 : meth.name = "<init>") {Cn : String} {T : u_T} {N ci index : Nat} {a : Nat} (hin : ∀ w ∈ u_ws Cn T N, w ∈ lw_g) (ty0 : Nat → FieldType) (hty : ∀ k, k < N → parseFieldDescriptor (T k).2.2.1 = some (ty0 k)) (hnm : ∀ a, a < N → ∀ b, b < N → a ≠ b → (T a).2.1 ≠ (T b).2.1) (q0 : Nat) {fs : List Value} (he : ws[q0]? = some (a, .inr (ci, fs))) (hc : vwCl[ci]? = some (Cn, T, N)) (k : Nat) (hk : k < N) (hlink : Cond.fieldLink own index (T k).1 (T k).2.1 (T k).2.2.1 ∈ lw_g) (hfin : (T k).2.2.2 = true) (hdecl : (T k).1 = own) {ty : FieldType} {v : Value} (hdn : parseFieldDescriptor (T k).2.2.1 = some ty) (hn : narrow ty v = v) (hfit : fits ty v = true) (hl : k < fs.length) (hw : ws.set q0 (a, .inr (ci, fs.set k v)) = ws') (hd : decode cc pc = .ok (.putfield index, 3)) (hp : pc + 3 = pc')
    (kk : gG E p l e R s m args below meth c A nL kc ks Q ws' pc' lv st) : gG E p l e R s m args below meth c A nL kc ks Q ws pc lv (v :: .ref a :: st) := by
  subst hp; subst hw
  obtain ⟨hx, hb, -, hown, hts, hK, -⟩ := C
  exact fun H locs ls hP hD hS h => va_putF hx hb hts hin ty0 hty hnm hown hK hP hD hS q0 he hc k hk (hts _ hlink) (fun _ z => z) hfin hin2 hdecl hdn hn hfit hl hd (fun H1 locs1 hP hD hS => kk H1 locs1 ls hP hD hS h)
end GL
theorem gK_ofN {l : Launch} {E : gE} {y : MethodName} {bytes : ByteArray} {maxL n : Nat} {ret : Option FieldType} {rm : Room} {av : List Value} {pre : va_W} {rv : Option Value} {w1 : va_W} (hm : gM y bytes maxL ret n) (lv0 : List (Nat × Value)) (hlen : (lg_sl av).length ≤ maxL) (hl0 : lv_args 0 av = lv0)
    (body : ∀ (p : Program) (e : Env) (s : State) (m : MethodId) (args : Array Value) (below : List Frame) (meth : Method) (c : Code), meth.name = y.name → gC E p s m args meth c bytes maxL y.cls ret (va_A pre s.heap.size) → gG E p l e rm s m args below meth c (va_A pre s.heap.size) maxL 0 0 (MQ below (gQ E pre s.heap.size rv w1) args s rm.cells rm.slots (va_A pre s.heap.size)) pre 0 lv0 []) : gK l E y bytes maxL ret rm av pre rv w1 := by
  intro sz
  refine gMetF (cc := bytes) (maxL := maxL) (ret := ret) hm.2.2.2.2 rfl ?_
  intro p e s m args below meth c s₁ B hml hv
  obtain ⟨rfl, hsz, hP, hD, hK, hN⟩ := hv
  subst hsz
  have hl := lv_entry av (n := maxL) hlen
  rw [hl0] at hl
  rw [lg_entry_eq]
  have hts := atoms_spec (ws := gW y bytes maxL ret) B.pre
  exact body p e s m _ below meth c (name_of_methodNamed B.named B.method).1 ⟨B.exec, B.bytes, hml, findClass_of_methodNamed B.named, fun w hw => hts w (List.mem_cons_of_mem _ hw), hK, hN, fun q h => Or.inr h, B.returns, B.notSynchronized⟩ s.heap [] _ hP hD.self va_S.rf hl
theorem gK_byN {l : Launch} {E : gE} {y : MethodName} {bytes : ByteArray} {maxL n : Nat} {ret : Option FieldType} {rm : Room} {av : List Value} {pre : va_W} {rv : Option Value} {w1 : va_W} (own : String) (ho : y.cls = own) (hm : gM y bytes maxL ret n) (lv0 : List (Nat × Value)) (hlen : (lg_sl av).length ≤ maxL) (hl0 : lv_args 0 av = lv0)
    (body : ∀ (p : Program) (e : Env) (s : State) (m : MethodId) (args : Array Value) (below : List Frame) (meth : Method) (c : Code) (A : Nat → Prop) (Q : State → Prop), meth.name = y.name → gC E p s m args meth c bytes maxL own ret A → gZ E s args below A Q rm.cells rm.slots rv w1 → gG E p l e rm s m args below meth c A maxL 0 0 Q pre 0 lv0 []) : gK l E y bytes maxL ret rm av pre rv w1 := by
  subst ho
  exact gK_ofN hm lv0 hlen hl0 (fun p e s m args below meth c hn C => body p e s m args below meth c _ _ hn C ⟨pre, rfl, rfl⟩)
