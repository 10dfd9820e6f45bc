/-- what throws stand on: words that are carried, the texts, Throwable's two statics -/
def txB : List Cond := (txI ++ txA ++ txS).filter (fun w => !goodWord w)
def tKeep : Cond → Bool
  | .castable .. => true
  | .declares _ => true
  | _ => false
theorem txB_k : txB.all tKeep = true := by decide +kernel
theorem tKeep_warm {w : Cond} (h : tKeep w = true) {s U : State} (hW : s.WarmedH U.vm) (hz : va_Nw w s) : va_Nw w U := by
  cases w <;> first | exact va_Nw.warmC hW hz | exact va_Nw.warmD hW hz | cases h
abbrev gTx : Type := Nat × Nat × Nat
def gX (sa : gTx) (A : Nat → Prop) (U : State) (H : Heap) : Prop :=
  (∀ w ∈ txB, va_Nw w U) ∧ (vk_R "FloodWardens" 201 "there is no such thing to name" sa.1 U ∧ vk_R "FloodWardens" 208 "a number is out of its bounds" sa.2.1 U ∧ vk_R "FloodWardens" 213 "there is no place for it" sa.2.2 U) ∧ vx_Zq Bundle.tN "UNASSIGNED_STACK" Bundle.steD A U H ∧ vx_Zq Bundle.tN "SUPPRESSED_SENTINEL" Bundle.listD A U H
theorem gX.pass {sa : gTx} {A A' : Nat → Prop} {s U : State} {H : Heap} {locs : List Loc} (h : gX sa A s s.heap) (hS : va_S A s.heap H locs) (hAA : ∀ q, A' q → A q) (hW : s.WarmedH U.vm) (hU : U.heap = H) : gX sa A' U U.heap := by
  obtain ⟨h1, ⟨h2, h3, h4⟩, h5, h6⟩ := h
  rw [hU]
  refine ⟨fun w hw => tKeep_warm (List.all_eq_true.mp txB_k w hw) hW (h1 w hw), ⟨vk_R.warm hW h2, vk_R.warm hW h3, vk_R.warm hW h4⟩, ?_, ?_⟩
  · exact ((h5.kept hS.2.1).narrow hAA).moved hW.alike
  · exact ((h6.kept hS.2.1).narrow hAA).moved hW.alike
def gPX (E : gE) (pre : va_W) (sz : Nat) (av : List Value) (sa : gTx) : Array Value → State → Prop :=
  va_Pc av (fun U => U.heap.size = sz ∧ va_P E.1 vwCl pre U.heap ∧ va_D (fun _ => True) pre ∧ va_K E.1 vwCl (gT E) U ∧ gN U ∧ gX sa (va_A pre sz) U U.heap)
def gXC (E : gE) (pre : va_W) (sz : Nat) (X : String) (w1 : va_W) : String → State → State → Prop := fun C st t =>
  C = X ∧ va_P E.1 vwCl w1 t.heap ∧ va_D (va_A pre sz) w1 ∧ va_F (va_A pre sz) st t
/-- a contract of what always throws -/
def gKT (l : Launch) (E : gE) (y : MethodName) (bytes : ByteArray) (maxL : Nat) (ret : Option FieldType) (rm : Room) (av : List Value) (pre : va_W) (sa : gTx) (X : String) (w1 : va_W) : Prop :=
  ∀ sz : Nat, vx_Met l y (gW y bytes maxL ret) rm (gPX E pre sz av sa) (fun _ _ _ _ => False) (gXC E pre sz X w1) rm.cells rm.slots (va_A pre sz)
def gZT (E : gE) (s : State) (args : Array Value) (below : List Frame) (A : Nat → Prop) (Q : State → Prop) (kc ks : Nat) (X : String) (w1 : va_W) : Prop :=
  ∃ pre : va_W, A = va_A pre s.heap.size ∧ Q = vx_MQ below (fun _ _ _ _ => False) (gXC E pre s.heap.size X w1) args s kc ks (va_A pre s.heap.size)
theorem gKT_by {l : Launch} {E : gE} {y : MethodName} {bytes : ByteArray} {maxL n : Nat} {ret : Option FieldType} {rm : Room} {av : List Value} {pre : va_W} {sa : gTx} {X : String} {w1 : va_W} (own : String) (ho : y.cls = own) (hpl : plainName y.cls = true) (hm : gM y bytes maxL ret n) (lv0 : List (Nat × Value)) (hlen : (lg_sl av).length ≤ maxL) (hl0 : lv_args 0 av = lv0)
    (body : ∀ (p : Program) (e : Env) (s : State) (m : MethodId) (args : Array Value) (below : List Frame) (meth : Method) (c : Code) (A : Nat → Prop) (Q : State → Prop), (∀ x ∈ c.exceptionTable.toList, False) → gC E p s m args meth c bytes maxL own ret A → gX sa A s s.heap → gZT E s args below A Q rm.cells rm.slots X w1 → gG E p l e rm s m args below meth c A maxL 0 0 Q pre 0 lv0 []) : gKT l E y bytes maxL ret rm av pre sa X w1 := by
  subst ho
  intro sz
  refine vx_ofW (cc := bytes) (maxL := maxL) (ret := ret) hpl rfl ?_
  intro p e s m args below meth c s₁ B hml hx hv
  obtain ⟨rfl, hsz, hP, hD, hK, hN, hX⟩ := hv
  subst hsz
  have hl := lv_entry av (n := maxL) hlen
  rw [hl0] at hl
  rw [lg_entry_eq]
  have hts := atoms_spec (ws := gW y bytes maxL ret) B.pre
  exact body p e s m _ below meth c _ _ hx ⟨B.exec, B.bytes, hml, findClass_of_methodNamed B.named, fun w hw => hts w (List.mem_cons_of_mem _ hw), hK, hN, fun q h => Or.inr h, B.returns, B.notSynchronized⟩ hX ⟨pre, rfl, rfl⟩ s.heap [] _ hP hD.self va_S.rf hl
