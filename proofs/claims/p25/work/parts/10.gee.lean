/-! numbers: an Int32 as the image of an Int -/
def iI (z : Int) : Int32 := Int32.ofInt z
theorem iI_toInt {a : Int} (h : -2147483648 ≤ a ∧ a ≤ 2147483647) : (iI a).toInt = a := by
  unfold iI
  rw [Int32.toInt_ofInt]
  have : a.bmod (2 ^ 32) = a := by
    rw [Int.bmod_eq_of_le] <;> omega
  simpa using this
theorem iI_of (x : Int32) : x = iI x.toInt := by
  unfold iI
  exact (Int32.ofInt_toInt x).symm
theorem iI_rng (x : Int32) : -2147483648 ≤ x.toInt ∧ x.toInt ≤ 2147483647 := by
  have h1 := Int32.le_toInt x
  have h2 := Int32.toInt_lt x
  omega
theorem vp_nar_int' (x : Int32) : vp_nar .int x = x := rfl
theorem iI_add (a b : Int) : iI a + iI b = iI (a + b) := (Int32.ofInt_add a b).symm
theorem iI_sub (a b : Int) : iI a - iI b = iI (a - b) := (Int32.ofInt_sub a b).symm
theorem iI_mul (a b : Int) : iI a * iI b = iI (a * b) := (Int32.ofInt_mul a b).symm
theorem iI_lt {a b : Int} (ha : -2147483648 ≤ a ∧ a ≤ 2147483647) (hb : -2147483648 ≤ b ∧ b ≤ 2147483647) : iI a < iI b ↔ a < b := by
  rw [Int32.lt_iff_toInt_lt, iI_toInt ha, iI_toInt hb]
theorem iI_le {a b : Int} (ha : -2147483648 ≤ a ∧ a ≤ 2147483647) (hb : -2147483648 ≤ b ∧ b ≤ 2147483647) : iI a ≤ iI b ↔ a ≤ b := by
  rw [Int32.le_iff_toInt_le, iI_toInt ha, iI_toInt hb]
theorem iI_eq {a b : Int} (ha : -2147483648 ≤ a ∧ a ≤ 2147483647) (hb : -2147483648 ≤ b ∧ b ≤ 2147483647) : iI a = iI b ↔ a = b := by
  rw [← Int32.toInt_inj, iI_toInt ha, iI_toInt hb]
theorem iI_0 : iI 0 = 0 := rfl
theorem iI_lt0 {a : Int} (ha : -2147483648 ≤ a ∧ a ≤ 2147483647) : iI a < 0 ↔ a < 0 := by
  rw [← iI_0]; exact iI_lt ha (by omega)
theorem iI_le0 {a : Int} (ha : -2147483648 ≤ a ∧ a ≤ 2147483647) : iI a ≤ 0 ↔ a ≤ 0 := by
  rw [← iI_0]; exact iI_le ha (by omega)
theorem iI_eq0 {a : Int} (ha : -2147483648 ≤ a ∧ a ≤ 2147483647) : iI a = 0 ↔ a = 0 := by
  rw [← iI_0]; exact iI_eq ha (by omega)
theorem iI_clamp {a : Int} (h : 0 ≤ a ∧ a ≤ 2147483647) : (iI a).toNatClampNeg = a.toNat := by
  show (iI a).toInt.toNat = a.toNat
  rw [iI_toInt (by omega)]
theorem iI_in {a : Int} {n : Nat} (h : 0 ≤ a ∧ a < (n : Int)) (hn : n ≤ 2147483647) : vp_in (iI a) n := by
  rw [vp_in_iff, iI_toInt (by omega)]
  exact h
theorem iI_div {a b : Int} (ha : 0 ≤ a ∧ a ≤ 2147483647) (hb : 0 < b ∧ b ≤ 2147483647) : iI a / iI b = iI (a / b) := by
  have h := pk_div (a := a.toNat) (d := b.toNat) (by omega) (by omega) (by omega)
  have e1 : nI a.toNat = iI a := by
    show Int32.ofNat a.toNat = Int32.ofInt a
    rw [← Int32.ofInt_eq_ofNat]
    congr 1
    omega
  have e2 : nI b.toNat = iI b := by
    show Int32.ofNat b.toNat = Int32.ofInt b
    rw [← Int32.ofInt_eq_ofNat]
    congr 1
    omega
  rw [e1, e2] at h
  rw [h]
  show Int32.ofNat (a.toNat / b.toNat) = Int32.ofInt (a / b)
  rw [← Int32.ofInt_eq_ofNat]
  congr 1
  rw [Int.natCast_ediv]
  congr 1 <;> omega
theorem iI_rem {a b : Int} (ha : 0 ≤ a ∧ a ≤ 2147483647) (hb : 0 < b ∧ b ≤ 2147483647) : iI a - iI a / iI b * iI b = iI (a % b) := by
  rw [iI_div ha hb, iI_mul, iI_sub]
  congr 1
  have := Int.emod_add_mul_ediv a b
  rw [Int.mul_comm] at this
  omega
/-! functions -/
def fset (f : Int → Int) (a x : Int) : Int → Int := fun j => if j = a then x else f j
theorem fset_same (f : Int → Int) (a x : Int) : fset f a x a = x := by simp [fset]
theorem fset_ne {f : Int → Int} {a x j : Int} (h : j ≠ a) : fset f a x j = f j := by simp [fset, h]
theorem iI_upd {f : Int → Int} {a x : Int} (h : 0 ≤ a ∧ a ≤ 2147483647) : upd (fun j : Nat => iI (f (j : Int))) (iI a).toNatClampNeg (iI x) = fun j : Nat => iI (fset f a x (j : Int)) := by
  rw [iI_clamp h]
  funext j
  by_cases hj : j = a.toNat
  · subst hj
    simp [upd, fset, show ((a.toNat : Nat) : Int) = a by omega]
  · simp only [upd, fset, if_neg hj, if_neg (show ¬ ((j : Nat) : Int) = a by omega)]
/-- what an array copy leaves, over Int -/
def fcpy (f g : Int → Int) (n : Int) : Int → Int := fun j => if 0 ≤ j ∧ j < n then f j else g j
/-! cells -/
abbrev gE : Type := va_G × ClassId × ClassId × ClassId
def ca (E : gE) (n : Nat) (f : Int → Int) : va_E := .inl (E.2.1, n, .inl (fun j => iI (f (j : Int))))
def cz (E : gE) (n : Nat) (f : Int → Int) : va_E := .inl (E.2.2.1, n, .inl (fun j => iI (f (j : Int))))
def cj (E : gE) (n : Nat) (f : Nat → Int64) : va_E := .inl (E.2.2.2, n, .inr (.inl f))
abbrev gT (E : gE) : List (ClassId × FieldType) := [(E.2.1, .int), (E.2.2.1, .boolean)]
/-! the tables' words -/
def lw_g : List Cond := lw_tbl.filter goodWord
theorem lg_t {w : Cond} (i : Nat) (h : (decide (tables_1[i]? = some w) && goodWord w) = true) : w ∈ lw_g := by
  simp only [Bool.and_eq_true, decide_eq_true_eq] at h
  exact List.mem_filter.mpr ⟨List.mem_append_right _ (List.mem_of_getElem? h.1), h.2⟩
theorem lg_s {w : Cond} (i : Nat) (h : (decide ((k2_sels lw_privs)[i]? = some w) && goodWord w) = true) : w ∈ lw_g := by
  simp only [Bool.and_eq_true, decide_eq_true_eq] at h
  exact List.mem_filter.mpr ⟨List.mem_append_left _ (List.mem_of_getElem? h.1), h.2⟩
theorem lg_good {a b : Cond} (hb : b ∈ lw_g) : GoodIn (a :: lw_g) (b :: lw_g) := by
  have key : ∀ w ∈ lw_g, w ∈ a :: lw_g ∧ ((w.onTables && w.keeps) = true ∨ ∃ ty, w = .arrayClass ty) := fun w hw =>
    ⟨List.mem_cons_of_mem _ hw, good_of_word (List.mem_filter.mp hw).2⟩
  intro w hw
  rcases List.mem_cons.mp hw with rfl | hw
  · exact key _ hb
  · exact key _ hw
/-- a method's own words -/
def gM (y : MethodName) (bytes : ByteArray) (maxL : Nat) (ret : Option FieldType) (n : Nat) : Prop :=
  Cond.code y bytes maxL ret ∈ lw_g ∧ Cond.initialized y.cls ∈ lw_g ∧ (y.cls ≠ "java/lang/invoke/MethodHandle" ∧ y.cls ≠ "java/lang/invoke/VarHandle") ∧ (parseMethodDescriptor y.desc).map (fun d => d.parameters.length) = some n ∧ plainFor y = true
abbrev gW (y : MethodName) (bytes : ByteArray) (maxL : Nat) (ret : Option FieldType) : List Cond := Cond.code y bytes maxL ret :: lw_g
/-- the nest mates' links -/
def gNF : List (Nat × String × String) := []
def gNM : List (String × Nat × String × String) := [("FloodWardens", 9, "FloodWardens$Town", "FloodWardens"), ("FloodWardens$Town", 55, "FloodWardens$Ways", "FloodWardens")]
def gN (U : State) : Prop := (∀ q ∈ gNF, va_Nw (.fieldLinkNest "FloodWardensModel" q.1 "FloodWardensModel$State" q.2.1 q.2.2 "FloodWardensModel") U) ∧ (∀ q ∈ gNM, va_Nw (.methodLinkNest q.1 q.2.1 ⟨q.2.2.1, "<init>", "()V"⟩ q.2.2.2) U)
theorem gN.warm {s U : State} (hW : s.WarmedH U.vm) (h : gN s) : gN U := ⟨fun q hq => va_Nw.warmF hW (h.1 q hq), fun q hq => va_Nw.warmM hW (h.2 q hq)⟩
theorem gN.same {s U : State} (hW : s.vm = U.vm) (h : gN s) : gN U := ⟨fun q hq => va_Nw.same rfl hW (h.1 q hq), fun q hq => va_Nw.same rfl hW (h.2 q hq)⟩
/-! the walk's goal: at a pc, over a world, locals and stack; heap, written cells and the locals' array are hidden -/
def gC (E : gE) (p : Program) (s : State) (m : MethodId) (args : Array Value) (meth : Method) (c : Code) (cc : ByteArray) (nL : Nat) (own : String) (ret : Option FieldType) (A : Nat → Prop) : Prop :=
  p.tables.exec = Jvm.exec ∧ c.code = cc ∧ c.maxLocals = nL ∧ s.vm.findClass own = some m.cls ∧ (∀ w ∈ lw_g, w.before args s = true) ∧ va_K E.1 vwCl (gT E) s ∧ gN s ∧ (∀ q : Nat, s.heap.size ≤ q → A q) ∧ meth.sig.returnType = ret ∧ meth.locks = false
def gG (E : gE) (p : Program) (l : Launch) (e : Env) (R : Room) (s : State) (m : MethodId) (args : Array Value) (below : List Frame) (meth : Method) (c : Code) (A : Nat → Prop) (nL kc ks : Nat) (Q : State → Prop) (ws : va_W) (pc : Nat) (lv : List (Nat × Value)) (st : List Value) : Prop :=
  ∀ (H : Heap) (locs : List Loc) (ls : Array Slot), va_P E.1 vwCl ws H → va_D A ws → va_S A s.heap H locs → lv_has ls nL lv → W p l e R s m args below meth c H locs kc ks Q (F0 m pc ls st)
/-- a method's end: its answer, its world -/
def gQ (E : gE) (pre : va_W) (sz : Nat) (rv : Option Value) (w1 : va_W) : Array Value → State → Outcome → State → Prop := fun _ st oc t =>
  (oc = .returned rv ∧ va_P E.1 vwCl w1 t.heap ∧ va_D (va_A pre sz) w1) ∧ va_F (va_A pre sz) st t
def gP (E : gE) (pre : va_W) (sz : Nat) (av : List Value) : Array Value → State → Prop :=
  va_Pc av (fun U => U.heap.size = sz ∧ va_P E.1 vwCl pre U.heap ∧ va_D (fun _ => True) pre ∧ va_K E.1 vwCl (gT E) U ∧ gN U)
/-- a method's contract: from the world pre with the arguments av to the answer rv and the world w1 -/
def gK (l : Launch) (E : gE) (y : MethodName) (bytes : ByteArray) (maxL : Nat) (ret : Option FieldType) (rm : Room) (av : List Value) (pre : va_W) (rv : Option Value) (w1 : va_W) : Prop :=
  ∀ sz : Nat, Met l y (gW y bytes maxL ret) rm (gP E pre sz av) (gQ E pre sz rv w1) rm.cells rm.slots (va_A pre sz)
theorem gP_blind {E : gE} {pre : va_W} {sz : Nat} {av : List Value} : FrameBlind (gP E pre sz av) := by
  intro a U g mk q
  obtain ⟨h0, h1, h2, h3, h4, h5⟩ := q
  exact ⟨h0, h1, h2, h3, va_K.moved (u := U) (U := U.calling g mk a) (Vm.Alike.refl U.vm) h4, gN.same rfl h5⟩
/-- as Met.ofW, by the method's own name (a method of Math that is no entry) -/
theorem gMetF {l : Launch} {y : MethodName} {ws ws' : List Cond} {rm : Room} {Pc : Array Value → State → Prop} {Qc : Array Value → State → Outcome → State → Prop} {mc ms : Nat} {free : Addr → Prop} {cc : ByteArray} {maxL : Nat} {ret : Option FieldType}
    (hy : plainFor y = true) (hw : ws = Cond.code y cc maxL ret :: ws')
    (body : ∀ p e s m args below meth c s₁, BodyLoose p l y (headSpec ws rm) cc maxL ret e s m args below meth c s₁ → c.maxLocals = maxL → Pc args s →
      W p l e (headSpec ws rm).room s m args below meth c s.heap [] 0 0 (MQ below Qc args s mc ms free) (entryFrame m args maxL)) : Met l y ws rm Pc Qc mc ms free := by
  refine MetFree.of_bodySF (code := cc) (maxLocals := maxL) (ret := ret) hy ?_ ?_
  · intro args s m h hn
    obtain ⟨meth, c, h1, h2, h3, h4, h5, h6, -, -⟩ := Cond.code_spec hn (atoms_spec (ws := ws) h _ (by rw [hw]; exact List.mem_cons_self))
    exact ⟨meth, c, h1, h2, h3, h4, h5, h6⟩
  · intro p e s m args below meth c s₁ B hml hP _
    have hh0 : s₁.heap = s.heap := by rw [B.state]; rfl
    obtain ⟨t, a1, o, b1, b2, b3⟩ := body p e s m args below meth c s₁ B hml hP s₁ hh0 (Stand.of_body B)
    exact ⟨t, o, a1, b1, b2, ⟨b3.1, b3.2⟩⟩
theorem gK_of {l : Launch} {E : gE} {y : MethodName} {bytes : ByteArray} {maxL n : Nat} {ret : Option FieldType} {rm : Room} {av : List Value} {pre : va_W} {rv : Option Value} {w1 : va_W} (hm : gM y bytes maxL ret n) (lv0 : List (Nat × Value)) (hlen : (lg_sl av).length ≤ maxL) (hl0 : lv_args 0 av = lv0)
    (body : ∀ (p : Program) (e : Env) (s : State) (m : MethodId) (args : Array Value) (below : List Frame) (meth : Method) (c : Code), gC E p s m args meth c bytes maxL y.cls ret (va_A pre s.heap.size) → gG E p l e rm s m args below meth c (va_A pre s.heap.size) maxL 0 0 (MQ below (gQ E pre s.heap.size rv w1) args s rm.cells rm.slots (va_A pre s.heap.size)) pre 0 lv0 []) : gK l E y bytes maxL ret rm av pre rv w1 := by
  intro sz
  refine gMetF (cc := bytes) (maxL := maxL) (ret := ret) hm.2.2.2.2 rfl ?_
  intro p e s m args below meth c s₁ B hml hv
  obtain ⟨rfl, hsz, hP, hD, hK, hN⟩ := hv
  subst hsz
  have hl := lv_entry av (n := maxL) hlen
  rw [hl0] at hl
  rw [lg_entry_eq]
  have hts := atoms_spec (ws := gW y bytes maxL ret) B.pre
  exact body p e s m _ below meth c ⟨B.exec, B.bytes, hml, findClass_of_methodNamed B.named, fun w hw => hts w (List.mem_cons_of_mem _ hw), hK, hN, fun q h => Or.inr h, B.returns, B.notSynchronized⟩ s.heap [] _ hP hD.self va_S.rf hl
/-! rows -/
section GR
variable {E : gE} {p : Program} {l : Launch} {e : Env} {R : Room} {s : State} {m : MethodId} {args : Array Value} {below : List Frame} {meth : Method} {c : Code} {A : Nat → Prop} {nL kc ks : Nat} {Q : State → Prop} {ws ws' : va_W} {pc pc' : Nat} {lv lv' : List (Nat × Value)} {st : List Value}
variable {cc : ByteArray} {own : String} {ret : Option FieldType}
theorem g_widen {kc' ks' : Nat} (h1 : kc ≤ kc') (h2 : ks ≤ ks') (kk : gG E p l e R s m args below meth c A nL kc' ks' Q ws pc lv st) : gG E p l e R s m args below meth c A nL kc ks Q ws pc lv st :=
  fun H locs ls hP hD hS hl => W.widen h1 h2 (kk H locs ls hP hD hS hl)
/-- another reading of the same point -/
theorem g_to {ws1 : va_W} {lv1 : List (Nat × Value)} {st1 : List Value} (ks9 : List Nat) (kk : gG E p l e R s m args below meth c A nL kc ks Q ws1 pc lv1 st1) (hw : ws1 = ws) (hl : lv_pick lv ks9 = lv1) (hst : st1 = st) : gG E p l e R s m args below meth c A nL kc ks Q ws pc lv st := by
  subst hw; subst hst
  exact fun H locs ls hP hD hS h => kk H locs ls hP hD hS (lv_sub h ks9 hl)
theorem g_perm {ws1 : va_W} (hp : ws1.Perm ws) (kk : gG E p l e R s m args below meth c A nL kc ks Q ws1 pc lv st) : gG E p l e R s m args below meth c A nL kc ks Q ws pc lv st := by
  intro H locs ls hP hD hS hl
  have q1 : va_P E.1 vwCl ws1 H := by
    intro k q hk
    obtain ⟨i, hi⟩ := List.getElem?_of_mem (hp.mem_iff.mp (List.mem_of_getElem? hk))
    exact hP i q hi
  have nd : ∀ w : va_W, (∀ (i j : Nat) (p q : Nat × va_E), w[i]? = some p → w[j]? = some q → p.1 = q.1 → i = j) ↔ (w.map (fun q => q.1)).Nodup := by
    intro w
    constructor
    · intro h
      refine List.pairwise_iff_getElem.mpr ?_
      intro i j hi hj hij hc
      have hi' : i < w.length := by simpa using hi
      have hj' : j < w.length := by simpa using hj
      rw [List.getElem_map, List.getElem_map] at hc
      have := h i j w[i] w[j] (List.getElem?_eq_getElem hi') (List.getElem?_eq_getElem hj') hc
      omega
    · intro h i j x y hi hj hxy
      have h := List.pairwise_iff_getElem.mp h
      obtain ⟨hi', ei⟩ := List.getElem?_eq_some_iff.mp hi
      obtain ⟨hj', ej⟩ := List.getElem?_eq_some_iff.mp hj
      rcases Nat.lt_trichotomy i j with q | q | q
      · refine absurd ?_ (h i j (by simpa using hi') (by simpa using hj') q)
        rw [List.getElem_map, List.getElem_map, ei, ej, hxy]
      · exact q
      · refine absurd ?_ (h j i (by simpa using hj') (by simpa using hi') q)
        rw [List.getElem_map, List.getElem_map, ei, ej, hxy]
  have q2 : va_D A ws1 := by
    refine ⟨(nd ws1).mpr ?_, fun k q hk => ?_⟩
    · exact ((hp.map (fun q => q.1)).nodup_iff).mpr ((nd ws).mp hD.1)
    · obtain ⟨i, hi⟩ := List.getElem?_of_mem (hp.mem_iff.mp (List.mem_of_getElem? hk))
      exact hD.2 i q hi
  exact kk H locs ls q1 q2 hS hl
theorem g_iconst (C : gC E p s m args meth c cc nL own ret A) {n : Int} (hd : decode cc pc = .ok (.iconst n, 1)) (hp : pc + 1 = pc') (kk : gG E p l e R s m args below meth c A nL kc ks Q ws pc' lv (.int (iI n) :: st)) : gG E p l e R s m args below meth c A nL kc ks Q ws pc lv st := by
  subst hp
  exact fun H locs ls hP hD hS hl => lv_iconst C.1 C.2.1 hd rfl (kk H locs ls hP hD hS hl)
theorem g_bipush (C : gC E p s m args meth c cc nL own ret A) {n : Int} (hd : decode cc pc = .ok (.bipush n, 2)) (hp : pc + 2 = pc') (hv : (Int8.ofInt n).toInt32 = iI n) (kk : gG E p l e R s m args below meth c A nL kc ks Q ws pc' lv (.int (iI n) :: st)) : gG E p l e R s m args below meth c A nL kc ks Q ws pc lv st := by
  subst hp
  exact fun H locs ls hP hD hS hl => lv_bipush C.1 C.2.1 hd hv (kk H locs ls hP hD hS hl)
theorem g_iload_n (C : gC E p s m args meth c cc nL own ret A) {k : Fin 4} {x : Int32} (hd : decode cc pc = .ok (.iload_n k, 1)) (hp : pc + 1 = pc') (j : Nat) (hj : lv[j]? = some ((k : Nat), .int x)) (kk : gG E p l e R s m args below meth c A nL kc ks Q ws pc' lv (.int x :: st)) : gG E p l e R s m args below meth c A nL kc ks Q ws pc lv st := by
  subst hp
  exact fun H locs ls hP hD hS hl => lv_iload_n C.1 C.2.1 hd rfl (lv_at hl j hj) (kk H locs ls hP hD hS hl)
theorem g_iload (C : gC E p s m args meth c cc nL own ret A) {i : Nat} {x : Int32} (hd : decode cc pc = .ok (.iload i, 2)) (hp : pc + 2 = pc') (j : Nat) (hj : lv[j]? = some (i, .int x)) (kk : gG E p l e R s m args below meth c A nL kc ks Q ws pc' lv (.int x :: st)) : gG E p l e R s m args below meth c A nL kc ks Q ws pc lv st := by
  subst hp
  exact fun H locs ls hP hD hS hl => lv_iload C.1 C.2.1 hd (lv_at hl j hj) (kk H locs ls hP hD hS hl)
theorem g_aload_n (C : gC E p s m args meth c cc nL own ret A) {k : Fin 4} {x : Nat} (hd : decode cc pc = .ok (.aload_n k, 1)) (hp : pc + 1 = pc') (j : Nat) (hj : lv[j]? = some ((k : Nat), .ref x)) (kk : gG E p l e R s m args below meth c A nL kc ks Q ws pc' lv (.ref x :: st)) : gG E p l e R s m args below meth c A nL kc ks Q ws pc lv st := by
  subst hp
  exact fun H locs ls hP hD hS hl => lv_aload_n C.1 C.2.1 hd rfl (lv_at hl j hj) (kk H locs ls hP hD hS hl)
theorem g_aload (C : gC E p s m args meth c cc nL own ret A) {i : Nat} {x : Nat} (hd : decode cc pc = .ok (.aload i, 2)) (hp : pc + 2 = pc') (j : Nat) (hj : lv[j]? = some (i, .ref x)) (kk : gG E p l e R s m args below meth c A nL kc ks Q ws pc' lv (.ref x :: st)) : gG E p l e R s m args below meth c A nL kc ks Q ws pc lv st := by
  subst hp
  exact fun H locs ls hP hD hS hl => lv_aload C.1 C.2.1 hd (lv_at hl j hj) (kk H locs ls hP hD hS hl)
theorem g_lload_n (C : gC E p s m args meth c cc nL own ret A) {k : Fin 4} {x : Int64} (hd : decode cc pc = .ok (.lload_n k, 1)) (hp : pc + 1 = pc') (j : Nat) (hj : lv[j]? = some ((k : Nat), .long x)) (kk : gG E p l e R s m args below meth c A nL kc ks Q ws pc' lv (.long x :: st)) : gG E p l e R s m args below meth c A nL kc ks Q ws pc lv st := by
  subst hp
  exact fun H locs ls hP hD hS hl => lv_lload_n C.1 C.2.1 hd rfl (lv_at hl j hj) (kk H locs ls hP hD hS hl)
theorem g_istore_n (C : gC E p s m args meth c cc nL own ret A) {k : Fin 4} {x : Int32} (hd : decode cc pc = .ok (.istore_n k, 1)) (hp : pc + 1 = pc') (hn : (k : Nat) < nL) (hl : ((k : Nat), Value.int x) :: lv.filter (fun q => !(q.1 == (k : Nat)) && !(q.1 + 1 == (k : Nat) && q.2.category == 2)) = lv') (kk : gG E p l e R s m args below meth c A nL kc ks Q ws pc' lv' st) : gG E p l e R s m args below meth c A nL kc ks Q ws pc lv (.int x :: st) := by
  subst hp
  exact fun H locs ls hP hD hS h => lv_istore_n C.1 C.2.1 hd rfl h hn hl (fun ls' h' => kk H locs ls' hP hD hS h')
theorem g_istore (C : gC E p s m args meth c cc nL own ret A) {i : Nat} {x : Int32} (hd : decode cc pc = .ok (.istore i, 2)) (hp : pc + 2 = pc') (hn : i < nL) (hl : (i, Value.int x) :: lv.filter (fun q => !(q.1 == i) && !(q.1 + 1 == i && q.2.category == 2)) = lv') (kk : gG E p l e R s m args below meth c A nL kc ks Q ws pc' lv' st) : gG E p l e R s m args below meth c A nL kc ks Q ws pc lv (.int x :: st) := by
  subst hp
  exact fun H locs ls hP hD hS h => lv_istore C.1 C.2.1 hd h hn hl (fun ls' h' => kk H locs ls' hP hD hS h')
theorem g_astore_n (C : gC E p s m args meth c cc nL own ret A) {k : Fin 4} {x : Nat} (hd : decode cc pc = .ok (.astore_n k, 1)) (hp : pc + 1 = pc') (hn : (k : Nat) < nL) (hl : ((k : Nat), Value.ref x) :: lv.filter (fun q => !(q.1 == (k : Nat)) && !(q.1 + 1 == (k : Nat) && q.2.category == 2)) = lv') (kk : gG E p l e R s m args below meth c A nL kc ks Q ws pc' lv' st) : gG E p l e R s m args below meth c A nL kc ks Q ws pc lv (.ref x :: st) := by
  subst hp
  exact fun H locs ls hP hD hS h => lv_astore_n C.1 C.2.1 hd rfl h hn hl (fun ls' h' => kk H locs ls' hP hD hS h')
theorem g_astore (C : gC E p s m args meth c cc nL own ret A) {i : Nat} {x : Nat} (hd : decode cc pc = .ok (.astore i, 2)) (hp : pc + 2 = pc') (hn : i < nL) (hl : (i, Value.ref x) :: lv.filter (fun q => !(q.1 == i) && !(q.1 + 1 == i && q.2.category == 2)) = lv') (kk : gG E p l e R s m args below meth c A nL kc ks Q ws pc' lv' st) : gG E p l e R s m args below meth c A nL kc ks Q ws pc lv (.ref x :: st) := by
  subst hp
  exact fun H locs ls hP hD hS h => lv_astore C.1 C.2.1 hd h hn hl (fun ls' h' => kk H locs ls' hP hD hS h')
theorem g_lstore_n (C : gC E p s m args meth c cc nL own ret A) {k : Fin 4} {x : Int64} (hd : decode cc pc = .ok (.lstore_n k, 1)) (hp : pc + 1 = pc') (hn : (k : Nat) + 1 < nL) (hl : ((k : Nat), Value.long x) :: lv.filter (fun q => !(q.1 == (k : Nat)) && (!(q.1 == (k : Nat) + 1) && !(q.1 + 1 == (k : Nat) && q.2.category == 2))) = lv') (kk : gG E p l e R s m args below meth c A nL kc ks Q ws pc' lv' st) : gG E p l e R s m args below meth c A nL kc ks Q ws pc lv (.long x :: st) := by
  subst hp
  exact fun H locs ls hP hD hS h => lv_lstore_n C.1 C.2.1 hd rfl h hn hl (fun ls' h' => kk H locs ls' hP hD hS h')
theorem g_iinc (C : gC E p s m args meth c cc nL own ret A) {i : Nat} {n : Int} {x : Int} (hd : decode cc pc = .ok (.iinc i n, 3)) (hp : pc + 3 = pc') (j : Nat) (hj : lv[j]? = some (i, .int (iI x))) (hn : i < nL) (hl : (i, Value.int (iI (x + n))) :: lv.filter (fun q => !(q.1 == i) && !(q.1 + 1 == i && q.2.category == 2)) = lv') (kk : gG E p l e R s m args below meth c A nL kc ks Q ws pc' lv' st) : gG E p l e R s m args below meth c A nL kc ks Q ws pc lv st := by
  subst hp
  exact fun H locs ls hP hD hS h => lv_iinc C.1 C.2.1 hd h hj (iI_add x n) hn hl (fun ls' h' => kk H locs ls' hP hD hS h')
theorem g_iadd (C : gC E p s m args meth c cc nL own ret A) {x y : Int} (hd : decode cc pc = .ok (.iadd, 1)) (hp : pc + 1 = pc') (kk : gG E p l e R s m args below meth c A nL kc ks Q ws pc' lv (.int (iI (x + y)) :: st)) : gG E p l e R s m args below meth c A nL kc ks Q ws pc lv (.int (iI y) :: .int (iI x) :: st) := by
  subst hp
  exact fun H locs ls hP hD hS hl => lv_iadd C.1 C.2.1 hd (by rw [iI_add]; exact kk H locs ls hP hD hS hl)
theorem g_isub (C : gC E p s m args meth c cc nL own ret A) {x y : Int} (hd : decode cc pc = .ok (.isub, 1)) (hp : pc + 1 = pc') (kk : gG E p l e R s m args below meth c A nL kc ks Q ws pc' lv (.int (iI (x - y)) :: st)) : gG E p l e R s m args below meth c A nL kc ks Q ws pc lv (.int (iI y) :: .int (iI x) :: st) := by
  subst hp
  exact fun H locs ls hP hD hS hl => lv_isub C.1 C.2.1 hd (by rw [iI_sub]; exact kk H locs ls hP hD hS hl)
theorem g_imul (C : gC E p s m args meth c cc nL own ret A) {x y : Int} (hd : decode cc pc = .ok (.imul, 1)) (hp : pc + 1 = pc') (kk : gG E p l e R s m args below meth c A nL kc ks Q ws pc' lv (.int (iI (x * y)) :: st)) : gG E p l e R s m args below meth c A nL kc ks Q ws pc lv (.int (iI y) :: .int (iI x) :: st) := by
  subst hp
  exact fun H locs ls hP hD hS hl => lv_imul C.1 C.2.1 hd (by rw [iI_mul]; exact kk H locs ls hP hD hS hl)
theorem iI_ne0 {b : Int} (hb : 0 < b ∧ b ≤ 2147483647) : ¬ iI b = 0 := by
  rw [iI_eq0 (by omega)]; omega
theorem g_idiv (C : gC E p s m args meth c cc nL own ret A) {x y : Int} (hd : decode cc pc = .ok (.idiv, 1)) (hp : pc + 1 = pc') (hx : 0 ≤ x ∧ x ≤ 2147483647) (hy : 0 < y ∧ y ≤ 2147483647) (kk : gG E p l e R s m args below meth c A nL kc ks Q ws pc' lv (.int (iI (x / y)) :: st)) : gG E p l e R s m args below meth c A nL kc ks Q ws pc lv (.int (iI y) :: .int (iI x) :: st) := by
  subst hp
  exact fun H locs ls hP hD hS hl => lv_idiv C.1 C.2.1 hd (iI_ne0 hy) (by rw [iI_div hx hy]; exact kk H locs ls hP hD hS hl)
theorem g_irem (C : gC E p s m args meth c cc nL own ret A) {x y : Int} (hd : decode cc pc = .ok (.irem, 1)) (hp : pc + 1 = pc') (hx : 0 ≤ x ∧ x ≤ 2147483647) (hy : 0 < y ∧ y ≤ 2147483647) (kk : gG E p l e R s m args below meth c A nL kc ks Q ws pc' lv (.int (iI (x % y)) :: st)) : gG E p l e R s m args below meth c A nL kc ks Q ws pc lv (.int (iI y) :: .int (iI x) :: st) := by
  subst hp
  exact fun H locs ls hP hD hS hl => lv_irem C.1 C.2.1 hd (iI_ne0 hy) (by rw [iI_rem hx hy]; exact kk H locs ls hP hD hS hl)
theorem g_dup (C : gC E p s m args meth c cc nL own ret A) {v : Value} (hd : decode cc pc = .ok (.dup, 1)) (hp : pc + 1 = pc') (hv : v.category = 1) (kk : gG E p l e R s m args below meth c A nL kc ks Q ws pc' lv (v :: v :: st)) : gG E p l e R s m args below meth c A nL kc ks Q ws pc lv (v :: st) := by
  subst hp
  exact fun H locs ls hP hD hS hl => lv_dup C.1 C.2.1 hd hv (kk H locs ls hP hD hS hl)
theorem g_dup2 (C : gC E p s m args meth c cc nL own ret A) {v w : Value} (hd : decode cc pc = .ok (.dup2, 1)) (hp : pc + 1 = pc') (hv : v.category = 1) (hw : w.category = 1) (kk : gG E p l e R s m args below meth c A nL kc ks Q ws pc' lv (v :: w :: v :: w :: st)) : gG E p l e R s m args below meth c A nL kc ks Q ws pc lv (v :: w :: st) := by
  subst hp
  exact fun H locs ls hP hD hS hl => lv_dup2_11 C.1 C.2.1 hd hv hw (kk H locs ls hP hD hS hl)
theorem g_goto (C : gC E p s m args meth c cc nL own ret A) {off : Int} (hd : decode cc pc = .ok (.goto off, 3)) (tgt : Nat) (ht : (pc : Int) + off = (tgt : Int)) (kk : gG E p l e R s m args below meth c A nL kc ks Q ws tgt lv st) : gG E p l e R s m args below meth c A nL kc ks Q ws pc lv st :=
  fun H locs ls hP hD hS hl => lv_goto C.1 C.2.1 hd ht (kk H locs ls hP hD hS hl)
/-! branches: target first, then what follows -/
theorem g_if_eq (C : gC E p s m args meth c cc nL own ret A) {off : Int} {x : Int} (hd : decode cc pc = .ok (.ifCond .eq off, 3)) (tgt : Nat) (ht : (pc : Int) + off = (tgt : Int)) (hp : pc + 3 = pc') (hx : -2147483648 ≤ x ∧ x ≤ 2147483647) (kt : x = 0 → gG E p l e R s m args below meth c A nL kc ks Q ws tgt lv st) (kf : ¬ x = 0 → gG E p l e R s m args below meth c A nL kc ks Q ws pc' lv st) : gG E p l e R s m args below meth c A nL kc ks Q ws pc lv (.int (iI x) :: st) := by
  subst hp
  exact fun H locs ls hP hD hS hl => lv_if_eq C.1 C.2.1 hd ht (fun h => kt ((iI_eq0 hx).mp h) H locs ls hP hD hS hl) (fun h => kf (fun z => h ((iI_eq0 hx).mpr z)) H locs ls hP hD hS hl)
theorem g_if_ne (C : gC E p s m args meth c cc nL own ret A) {off : Int} {x : Int} (hd : decode cc pc = .ok (.ifCond .ne off, 3)) (tgt : Nat) (ht : (pc : Int) + off = (tgt : Int)) (hp : pc + 3 = pc') (hx : -2147483648 ≤ x ∧ x ≤ 2147483647) (kt : ¬ x = 0 → gG E p l e R s m args below meth c A nL kc ks Q ws tgt lv st) (kf : x = 0 → gG E p l e R s m args below meth c A nL kc ks Q ws pc' lv st) : gG E p l e R s m args below meth c A nL kc ks Q ws pc lv (.int (iI x) :: st) := by
  subst hp
  exact fun H locs ls hP hD hS hl => lv_if_ne C.1 C.2.1 hd ht (fun h => kt (fun z => h ((iI_eq0 hx).mpr z)) H locs ls hP hD hS hl) (fun h => kf ((iI_eq0 hx).mp h) H locs ls hP hD hS hl)
theorem g_if_lt (C : gC E p s m args meth c cc nL own ret A) {off : Int} {x : Int} (hd : decode cc pc = .ok (.ifCond .lt off, 3)) (tgt : Nat) (ht : (pc : Int) + off = (tgt : Int)) (hp : pc + 3 = pc') (hx : -2147483648 ≤ x ∧ x ≤ 2147483647) (kt : x < 0 → gG E p l e R s m args below meth c A nL kc ks Q ws tgt lv st) (kf : ¬ x < 0 → gG E p l e R s m args below meth c A nL kc ks Q ws pc' lv st) : gG E p l e R s m args below meth c A nL kc ks Q ws pc lv (.int (iI x) :: st) := by
  subst hp
  exact fun H locs ls hP hD hS hl => lv_if_lt C.1 C.2.1 hd ht (fun h => kt ((iI_lt0 hx).mp h) H locs ls hP hD hS hl) (fun h => kf (fun z => h ((iI_lt0 hx).mpr z)) H locs ls hP hD hS hl)
theorem g_if_le (C : gC E p s m args meth c cc nL own ret A) {off : Int} {x : Int} (hd : decode cc pc = .ok (.ifCond .le off, 3)) (tgt : Nat) (ht : (pc : Int) + off = (tgt : Int)) (hp : pc + 3 = pc') (hx : -2147483648 ≤ x ∧ x ≤ 2147483647) (kt : x ≤ 0 → gG E p l e R s m args below meth c A nL kc ks Q ws tgt lv st) (kf : ¬ x ≤ 0 → gG E p l e R s m args below meth c A nL kc ks Q ws pc' lv st) : gG E p l e R s m args below meth c A nL kc ks Q ws pc lv (.int (iI x) :: st) := by
  subst hp
  exact fun H locs ls hP hD hS hl => lv_if_le C.1 C.2.1 hd ht (fun h => kt ((iI_le0 hx).mp h) H locs ls hP hD hS hl) (fun h => kf (fun z => h ((iI_le0 hx).mpr z)) H locs ls hP hD hS hl)
theorem g_icmp_eq (C : gC E p s m args meth c cc nL own ret A) {off : Int} {x y : Int} (hd : decode cc pc = .ok (.if_icmp .eq off, 3)) (tgt : Nat) (ht : (pc : Int) + off = (tgt : Int)) (hp : pc + 3 = pc') (hx : -2147483648 ≤ x ∧ x ≤ 2147483647) (hy : -2147483648 ≤ y ∧ y ≤ 2147483647) (kt : x = y → gG E p l e R s m args below meth c A nL kc ks Q ws tgt lv st) (kf : ¬ x = y → gG E p l e R s m args below meth c A nL kc ks Q ws pc' lv st) : gG E p l e R s m args below meth c A nL kc ks Q ws pc lv (.int (iI y) :: .int (iI x) :: st) := by
  subst hp
  exact fun H locs ls hP hD hS hl => lv_icmp_eq C.1 C.2.1 hd ht (fun h => kt ((iI_eq hx hy).mp h) H locs ls hP hD hS hl) (fun h => kf (fun z => h ((iI_eq hx hy).mpr z)) H locs ls hP hD hS hl)
theorem g_icmp_ne (C : gC E p s m args meth c cc nL own ret A) {off : Int} {x y : Int} (hd : decode cc pc = .ok (.if_icmp .ne off, 3)) (tgt : Nat) (ht : (pc : Int) + off = (tgt : Int)) (hp : pc + 3 = pc') (hx : -2147483648 ≤ x ∧ x ≤ 2147483647) (hy : -2147483648 ≤ y ∧ y ≤ 2147483647) (kt : ¬ x = y → gG E p l e R s m args below meth c A nL kc ks Q ws tgt lv st) (kf : x = y → gG E p l e R s m args below meth c A nL kc ks Q ws pc' lv st) : gG E p l e R s m args below meth c A nL kc ks Q ws pc lv (.int (iI y) :: .int (iI x) :: st) := by
  subst hp
  exact fun H locs ls hP hD hS hl => lv_icmp_ne C.1 C.2.1 hd ht (fun h => kt (fun z => h ((iI_eq hx hy).mpr z)) H locs ls hP hD hS hl) (fun h => kf ((iI_eq hx hy).mp h) H locs ls hP hD hS hl)
theorem g_icmp_lt (C : gC E p s m args meth c cc nL own ret A) {off : Int} {x y : Int} (hd : decode cc pc = .ok (.if_icmp .lt off, 3)) (tgt : Nat) (ht : (pc : Int) + off = (tgt : Int)) (hp : pc + 3 = pc') (hx : -2147483648 ≤ x ∧ x ≤ 2147483647) (hy : -2147483648 ≤ y ∧ y ≤ 2147483647) (kt : x < y → gG E p l e R s m args below meth c A nL kc ks Q ws tgt lv st) (kf : ¬ x < y → gG E p l e R s m args below meth c A nL kc ks Q ws pc' lv st) : gG E p l e R s m args below meth c A nL kc ks Q ws pc lv (.int (iI y) :: .int (iI x) :: st) := by
  subst hp
  exact fun H locs ls hP hD hS hl => lv_icmp_lt C.1 C.2.1 hd ht (fun h => kt ((iI_lt hx hy).mp h) H locs ls hP hD hS hl) (fun h => kf (fun z => h ((iI_lt hx hy).mpr z)) H locs ls hP hD hS hl)
theorem g_icmp_ge (C : gC E p s m args meth c cc nL own ret A) {off : Int} {x y : Int} (hd : decode cc pc = .ok (.if_icmp .ge off, 3)) (tgt : Nat) (ht : (pc : Int) + off = (tgt : Int)) (hp : pc + 3 = pc') (hx : -2147483648 ≤ x ∧ x ≤ 2147483647) (hy : -2147483648 ≤ y ∧ y ≤ 2147483647) (kt : y ≤ x → gG E p l e R s m args below meth c A nL kc ks Q ws tgt lv st) (kf : ¬ y ≤ x → gG E p l e R s m args below meth c A nL kc ks Q ws pc' lv st) : gG E p l e R s m args below meth c A nL kc ks Q ws pc lv (.int (iI y) :: .int (iI x) :: st) := by
  subst hp
  exact fun H locs ls hP hD hS hl => lv_icmp_ge C.1 C.2.1 hd ht (fun h => kt ((iI_le hy hx).mp h) H locs ls hP hD hS hl) (fun h => kf (fun z => h ((iI_le hy hx).mpr z)) H locs ls hP hD hS hl)
theorem g_icmp_gt (C : gC E p s m args meth c cc nL own ret A) {off : Int} {x y : Int} (hd : decode cc pc = .ok (.if_icmp .gt off, 3)) (tgt : Nat) (ht : (pc : Int) + off = (tgt : Int)) (hp : pc + 3 = pc') (hx : -2147483648 ≤ x ∧ x ≤ 2147483647) (hy : -2147483648 ≤ y ∧ y ≤ 2147483647) (kt : y < x → gG E p l e R s m args below meth c A nL kc ks Q ws tgt lv st) (kf : ¬ y < x → gG E p l e R s m args below meth c A nL kc ks Q ws pc' lv st) : gG E p l e R s m args below meth c A nL kc ks Q ws pc lv (.int (iI y) :: .int (iI x) :: st) := by
  subst hp
  exact fun H locs ls hP hD hS hl => lv_icmp_gt C.1 C.2.1 hd ht (fun h => kt ((iI_lt hy hx).mp h) H locs ls hP hD hS hl) (fun h => kf (fun z => h ((iI_lt hy hx).mpr z)) H locs ls hP hD hS hl)
theorem g_icmp_le (C : gC E p s m args meth c cc nL own ret A) {off : Int} {x y : Int} (hd : decode cc pc = .ok (.if_icmp .le off, 3)) (tgt : Nat) (ht : (pc : Int) + off = (tgt : Int)) (hp : pc + 3 = pc') (hx : -2147483648 ≤ x ∧ x ≤ 2147483647) (hy : -2147483648 ≤ y ∧ y ≤ 2147483647) (kt : x ≤ y → gG E p l e R s m args below meth c A nL kc ks Q ws tgt lv st) (kf : ¬ x ≤ y → gG E p l e R s m args below meth c A nL kc ks Q ws pc' lv st) : gG E p l e R s m args below meth c A nL kc ks Q ws pc lv (.int (iI y) :: .int (iI x) :: st) := by
  subst hp
  exact fun H locs ls hP hD hS hl => lv_icmp_le C.1 C.2.1 hd ht (fun h => kt ((iI_le hx hy).mp h) H locs ls hP hD hS hl) (fun h => kf (fun z => h ((iI_le hx hy).mpr z)) H locs ls hP hD hS hl)
theorem g_if_gt (C : gC E p s m args meth c cc nL own ret A) {off : Int} {x : Int} (hd : decode cc pc = .ok (.ifCond .gt off, 3)) (tgt : Nat) (ht : (pc : Int) + off = (tgt : Int)) (hp : pc + 3 = pc') (hx : -2147483648 ≤ x ∧ x ≤ 2147483647) (kt : 0 < x → gG E p l e R s m args below meth c A nL kc ks Q ws tgt lv st) (kf : ¬ 0 < x → gG E p l e R s m args below meth c A nL kc ks Q ws pc' lv st) : gG E p l e R s m args below meth c A nL kc ks Q ws pc lv (.int (iI x) :: st) := by
  subst hp
  exact fun H locs ls hP hD hS hl => lv_if_gt C.1 C.2.1 hd ht (fun h => kt ((iI_lt (a := 0) (by omega) hx).mp h) H locs ls hP hD hS hl) (fun h => kf (fun z => h ((iI_lt (a := 0) (by omega) hx).mpr z)) H locs ls hP hD hS hl)
/-! switches -/
theorem g_tableIn (C : gC E p s m args meth c cc nL own ret A) {dflt lo hi : Int} {offs : Array Int} {len : Nat} {x : Int} {off : Int} (hd : decode cc pc = .ok (.tableswitch dflt lo hi offs, len)) (tgt : Nat) (v : Int) (hv : x = v) (hx : -2147483648 ≤ v ∧ v ≤ 2147483647) (h1 : ¬ v < lo) (h2 : ¬ hi < v) (ho : offs[(v - lo).toNat]? = some off) (ht : (pc : Int) + off = (tgt : Int)) (kk : gG E p l e R s m args below meth c A nL kc ks Q ws tgt lv st) : gG E p l e R s m args below meth c A nL kc ks Q ws pc lv (.int (iI x) :: st) := by
  subst hv
  exact fun H locs ls hP hD hS hl => lv_tableIn C.1 C.2.1 hd (by rw [iI_toInt hx]; exact h1) (by rw [iI_toInt hx]; exact h2) (by rw [iI_toInt hx]; exact ho) ht (kk H locs ls hP hD hS hl)
theorem g_tableOut (C : gC E p s m args meth c cc nL own ret A) {dflt lo hi : Int} {offs : Array Int} {len : Nat} {x : Int} (hd : decode cc pc = .ok (.tableswitch dflt lo hi offs, len)) (tgt : Nat) (hx : -2147483648 ≤ x ∧ x ≤ 2147483647) (h : x < lo ∨ hi < x) (ht : (pc : Int) + dflt = (tgt : Int)) (kk : gG E p l e R s m args below meth c A nL kc ks Q ws tgt lv st) : gG E p l e R s m args below meth c A nL kc ks Q ws pc lv (.int (iI x) :: st) :=
  fun H locs ls hP hD hS hl => lv_tableOut C.1 C.2.1 hd (by rw [iI_toInt hx]; exact h) ht (kk H locs ls hP hD hS hl)
/-! fields and arrays -/
theorem g_get (C : gC E p s m args meth c cc nL own ret A) {ref Cn : String} {T : u_T} {N ci index : Nat} {a : Nat} (hin : ∀ w ∈ u_ws Cn T N, w ∈ lw_g) (q0 : Nat) {fs : List Value} (he : ws[q0]? = some (a, .inr (ci, fs))) (hc : vwCl[ci]? = some (Cn, T, N)) (k : Nat) (hk : k < N) (hlink : Cond.fieldLink own index ref (T k).2.1 (T k).2.2.1 ∈ lw_g) (hsame : (T k).1 = ref ∨ Cond.sameField ref (T k).1 (T k).2.1 (T k).2.2.1 ∈ lw_g) {v : Value} (hv : fs[k]? = some v) (hd : decode cc pc = .ok (.getfield index, 3)) (hp : pc + 3 = pc')
    (kk : gG E p l e R s m args below meth c A nL kc ks Q ws pc' lv (v :: st)) : gG E p l e R s m args below meth c A nL kc ks Q ws pc lv (.ref a :: st) := by
  subst hp
  obtain ⟨hx, hb, -, hown, hts, hK, -⟩ := C
  exact fun H locs ls hP hD hS hl => va_get hx hb hts hin hown hK hP q0 he hc k hk (hts _ hlink) (by
    rcases hsame with h | h
    · rw [← h]; exact fun _ z => z
    · exact fun x z => u_same (hts _ h) x z) hv hd (kk H locs ls hP hD hS hl)
theorem g_getN (C : gC E p s m args meth c cc nL own ret A) {T : u_T} {N ci index : Nat} {a : Nat} {Cn : String} (ho : own = "FloodWardensModel") (hin : ∀ w ∈ u_ws Cn T N, w ∈ lw_g) (q0 : Nat) {fs : List Value} (he : ws[q0]? = some (a, .inr (ci, fs))) (hc : vwCl[ci]? = some (Cn, T, N)) (k : Nat) (hk : k < N) (hlink : (index, (T k).2.1, (T k).2.2.1) ∈ gNF) (hT : (T k).1 = "FloodWardensModel$State") {v : Value} (hv : fs[k]? = some v) (hd : decode cc pc = .ok (.getfield index, 3)) (hp : pc + 3 = pc')
    (kk : gG E p l e R s m args below meth c A nL kc ks Q ws pc' lv (v :: st)) : gG E p l e R s m args below meth c A nL kc ks Q ws pc lv (.ref a :: st) := by
  subst hp; subst ho
  obtain ⟨hx, hb, -, hown, hts, hK, hN, -⟩ := C
  exact fun H locs ls hP hD hS hl => va_getN hx hb hts hin hown hK hP q0 he hc k hk (va_Nw.use rfl (hN.1 _ hlink)) (by rw [hT]; exact fun _ z => z) hv hd (kk H locs ls hP hD hS hl)
theorem g_put (C : gC E p s m args meth c cc nL own ret A) {ref Cn : String} {T : u_T} {N ci index : Nat} {a : Nat} (hin : ∀ w ∈ u_ws Cn T N, w ∈ lw_g) (ty0 : Nat → FieldType) (hty : ∀ k, k < N → parseFieldDescriptor (T k).2.2.1 = some (ty0 k)) (hnm : ∀ a, a < N → ∀ b, b < N → a ≠ b → (T a).2.1 ≠ (T b).2.1) (q0 : Nat) {fs : List Value} (he : ws[q0]? = some (a, .inr (ci, fs))) (hc : vwCl[ci]? = some (Cn, T, N)) (k : Nat) (hk : k < N) (hlink : Cond.fieldLink own index ref (T k).2.1 (T k).2.2.1 ∈ lw_g) (hsame : (T k).1 = ref ∨ Cond.sameField ref (T k).1 (T k).2.1 (T k).2.2.1 ∈ lw_g) (hfin : (T k).2.2.2 = false) {ty : FieldType} {v : Value} (hdn : parseFieldDescriptor (T k).2.2.1 = some ty) (hn : narrow ty v = v) (hfit : fits ty v = true) (hl : k < fs.length) (hw : ws.set q0 (a, .inr (ci, fs.set k v)) = ws') (hd : decode cc pc = .ok (.putfield index, 3)) (hp : pc + 3 = pc')
    (kk : gG E p l e R s m args below meth c A nL kc ks Q ws' pc' lv st) : gG E p l e R s m args below meth c A nL kc ks Q ws pc lv (v :: .ref a :: st) := by
  subst hp; subst hw
  obtain ⟨hx, hb, -, hown, hts, hK, -⟩ := C
  exact fun H locs ls hP hD hS h => va_put hx hb hts hin ty0 hty hnm hown hK hP hD hS q0 he hc k hk (hts _ hlink) (by
    rcases hsame with h | h
    · rw [← h]; exact fun _ z => z
    · exact fun x z => u_same (hts _ h) x z) hfin hdn hn hfit hl hd (fun H1 locs1 hP hD hS => kk H1 locs1 ls hP hD hS h)
theorem g_putN (C : gC E p s m args meth c cc nL own ret A) {T : u_T} {N ci index : Nat} {a : Nat} {Cn : String} (ho : own = "FloodWardensModel") (hin : ∀ w ∈ u_ws Cn T N, w ∈ lw_g) (ty0 : Nat → FieldType) (hty : ∀ k, k < N → parseFieldDescriptor (T k).2.2.1 = some (ty0 k)) (hnm : ∀ a, a < N → ∀ b, b < N → a ≠ b → (T a).2.1 ≠ (T b).2.1) (q0 : Nat) {fs : List Value} (he : ws[q0]? = some (a, .inr (ci, fs))) (hc : vwCl[ci]? = some (Cn, T, N)) (k : Nat) (hk : k < N) (hlink : (index, (T k).2.1, (T k).2.2.1) ∈ gNF) (hT : (T k).1 = "FloodWardensModel$State") (hfin : (T k).2.2.2 = false) {ty : FieldType} {v : Value} (hdn : parseFieldDescriptor (T k).2.2.1 = some ty) (hn : narrow ty v = v) (hfit : fits ty v = true) (hl : k < fs.length) (hw : ws.set q0 (a, .inr (ci, fs.set k v)) = ws') (hd : decode cc pc = .ok (.putfield index, 3)) (hp : pc + 3 = pc')
    (kk : gG E p l e R s m args below meth c A nL kc ks Q ws' pc' lv st) : gG E p l e R s m args below meth c A nL kc ks Q ws pc lv (v :: .ref a :: st) := by
  subst hp; subst hw; subst ho
  obtain ⟨hx, hb, -, hown, hts, hK, hN, -⟩ := C
  exact fun H locs ls hP hD hS h => va_putN hx hb hts hin ty0 hty hnm hown hK hP hD hS q0 he hc k hk (va_Nw.use rfl (hN.1 _ hlink)) (by rw [hT]; exact fun _ z => z) hfin hdn hn hfit hl hd (fun H1 locs1 hP hD hS => kk H1 locs1 ls hP hD hS h)
theorem g_iald (C : gC E p s m args meth c cc nL own ret A) {n : Nat} {f : Int → Int} {i : Int} {a : Nat} (hd : decode cc pc = .ok (.iaload, 1)) (hp : pc + 1 = pc') (q0 : Nat) (he : ws[q0]? = some (a, ca E n f)) (hin : 0 ≤ i ∧ i < (n : Int)) (hn : n ≤ 2147483647)
    (kk : gG E p l e R s m args below meth c A nL kc ks Q ws pc' lv (.int (iI (f i)) :: st)) : gG E p l e R s m args below meth c A nL kc ks Q ws pc lv (.int (iI i) :: .ref a :: st) := by
  subst hp
  obtain ⟨hx, hb, -, hown, hts, hK, -⟩ := C
  intro H locs ls hP hD hS hl
  refine va_iald hx hb hK hP q0 0 he rfl (iI_in hin hn) hd ?_
  rw [iI_clamp (by omega), show ((i.toNat : Nat) : Int) = i by omega]
  exact kk H locs ls hP hD hS hl
theorem g_zald (C : gC E p s m args meth c cc nL own ret A) {n : Nat} {f : Int → Int} {i : Int} {a : Nat} (hd : decode cc pc = .ok (.baload, 1)) (hp : pc + 1 = pc') (q0 : Nat) (he : ws[q0]? = some (a, cz E n f)) (hin : 0 ≤ i ∧ i < (n : Int)) (hn : n ≤ 2147483647)
    (kk : gG E p l e R s m args below meth c A nL kc ks Q ws pc' lv (.int (iI (f i)) :: st)) : gG E p l e R s m args below meth c A nL kc ks Q ws pc lv (.int (iI i) :: .ref a :: st) := by
  subst hp
  obtain ⟨hx, hb, -, hown, hts, hK, -⟩ := C
  intro H locs ls hP hD hS hl
  refine va_zald hx hb hK hP q0 1 he rfl (iI_in hin hn) hd ?_
  rw [iI_clamp (by omega), show ((i.toNat : Nat) : Int) = i by omega]
  exact kk H locs ls hP hD hS hl
theorem g_iast (C : gC E p s m args meth c cc nL own ret A) {n : Nat} {f : Int → Int} {i x : Int} {a : Nat} (hd : decode cc pc = .ok (.iastore, 1)) (hp : pc + 1 = pc') (q0 : Nat) (he : ws[q0]? = some (a, ca E n f)) (hin : 0 ≤ i ∧ i < (n : Int)) (hn : n ≤ 2147483647) (hw : ws.set q0 (a, ca E n (fset f i x)) = ws')
    (kk : gG E p l e R s m args below meth c A nL kc ks Q ws' pc' lv st) : gG E p l e R s m args below meth c A nL kc ks Q ws pc lv (.int (iI x) :: .int (iI i) :: .ref a :: st) := by
  subst hp; subst hw
  obtain ⟨hx, hb, -, hown, hts, hK, -⟩ := C
  intro H locs ls hP hD hS hl
  refine va_iast hx hb hK hP hD hS q0 0 he rfl (iI_in hin hn) hd (fun H1 locs1 hP hD hS => ?_)
  rw [iI_upd (by omega)] at hP hD
  exact kk H1 locs1 ls hP hD hS hl
theorem g_zast (C : gC E p s m args meth c cc nL own ret A) {n : Nat} {f : Int → Int} {i x : Int} {a : Nat} (hd : decode cc pc = .ok (.bastore, 1)) (hp : pc + 1 = pc') (q0 : Nat) (he : ws[q0]? = some (a, cz E n f)) (hin : 0 ≤ i ∧ i < (n : Int)) (hn : n ≤ 2147483647) (hb01 : x = 0 ∨ x = 1) (hw : ws.set q0 (a, cz E n (fset f i x)) = ws')
    (kk : gG E p l e R s m args below meth c A nL kc ks Q ws' pc' lv st) : gG E p l e R s m args below meth c A nL kc ks Q ws pc lv (.int (iI x) :: .int (iI i) :: .ref a :: st) := by
  subst hp; subst hw
  obtain ⟨hx, hb, -, hown, hts, hK, -⟩ := C
  intro H locs ls hP hD hS hl
  refine va_zast hx hb hK hP hD hS q0 1 he rfl (iI_in hin hn) hd (fun H1 locs1 hP hD hS => ?_)
  have e9 : vp_nar .boolean (iI x) = iI x := by rcases hb01 with rfl | rfl <;> rfl
  rw [e9, iI_upd (by omega)] at hP hD
  exact kk H1 locs1 ls hP hD hS hl
end GR
