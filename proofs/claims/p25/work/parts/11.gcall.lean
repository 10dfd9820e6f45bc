/-! calls, ends, makings -/
section GA
variable {E : gE} {p : Program} {l : Launch} {e : Env} {R : Room} {s : State} {m : MethodId} {args : Array Value} {below : List Frame} {meth : Method} {c : Code} {A : Nat → Prop} {nL kc ks : Nat} {Q : State → Prop} {ws ws' : va_W} {pc pc' : Nat} {lv lv' : List (Nat × Value)} {st : List Value}
variable {cc : ByteArray} {own : String} {ret : Option FieldType}
/-- behind a call: the callee's world beside the rest -/
theorem g_behind {mc ms : Nat} {rest : List Value} {w0 w1 wr : va_W} {rv : Option Value} {a9 : Array Value} (C : gC E p s m args meth c cc nL own ret A) {H : Heap} {locs : List Loc} {ls : Array Slot} (hP : va_P E.1 vwCl (w0 ++ wr) H) (hD : va_D A (w0 ++ wr)) (hS : va_S A s.heap H locs) (hl : lv_has ls nL lv) {st0 : List Value}
    (hr : va_Run p l e R s m args below meth c H locs kc ks mc ms (F0 m pc ls st0) rest (gQ E w0 H.size rv w1 a9) (va_A w0 H.size))
    (kk : gG E p l e R s m args below meth c A nL (kc + mc) (ks + ms) Q (w1 ++ wr) (pc + 3) lv (rv.toList ++ rest)) : W p l e R s m args below meth c H locs kc ks Q (F0 m pc ls st0) := by
  obtain ⟨hx, hb, hml, hown, hts, hK, hN, hA, hrt, hlk⟩ := C
  have hF : ∀ q, va_A w0 H.size q → A q := by
    intro q h
    rcases h with ⟨k, e, h⟩ | h
    · have hlt := (List.getElem?_eq_some_iff.mp h).1
      exact hD.2 k (q, e) (by rw [List.getElem?_append_left hlt]; exact h)
    · exact hA q (Nat.le_trans hS.1 h)
  intro T hT X
  obtain ⟨v, st₀, t, T', L, h0, X', hL, e1, e2, ⟨⟨hv, hP1, hD1⟩, hz, hk⟩, stp⟩ := hr T hT X
  cases hv
  rw [h0] at hz hk
  rw [← e1] at hz hk hP1
  have apart : ∀ (k : Nat) (q : Nat × va_E), wr[k]? = some q → q.1 < H.size ∧ ¬ va_A w0 H.size q.1 := by
    intro k q hq
    have hq' : (w0 ++ wr)[w0.length + k]? = some q := by rw [List.getElem?_append_right (by omega)]; simpa using hq
    have hlt := (hP _ q hq').lt
    refine ⟨hlt, fun h => ?_⟩
    rcases h with ⟨k2, e9, h⟩ | h
    · have hlt2 := (List.getElem?_eq_some_iff.mp h).1
      have := hD.1 (w0.length + k) k2 q (q.1, e9) hq' (by rw [List.getElem?_append_left hlt2]; exact h) rfl
      omega
    · omega
  have hPr : va_P E.1 vwCl wr T'.heap := by
    intro k q hq
    have hq' : (w0 ++ wr)[w0.length + k]? = some q := by rw [List.getElem?_append_right (by omega)]; simpa using hq
    obtain ⟨g1, g2⟩ := apart k q hq
    exact (hP _ q hq').kept (hk q.1 g1 g2)
  have hDr : va_D A wr := by
    refine ⟨fun i j x y hi hj hxy => ?_, fun k q hq => ?_⟩
    · have := hD.1 (w0.length + i) (w0.length + j) x y (by rw [List.getElem?_append_right (by omega)]; simpa using hi) (by rw [List.getElem?_append_right (by omega)]; simpa using hj) hxy
      omega
    · exact hD.2 (w0.length + k) q (by rw [List.getElem?_append_right (by omega)]; simpa using hq)
  have hP2 : va_P E.1 vwCl (w1 ++ wr) T'.heap := va_P.app hP1 hPr
  have hD2 : va_D A (w1 ++ wr) := va_D.app (hD1.weaken (fun k q _ h => hF q.1 h)) hDr (fun i j x y hi hj hxy => (apart j y hj).2 (by rw [← hxy]; exact hD1.2 i x hi))
  have hS2 : va_S A s.heap T'.heap (locs ++ L) := ⟨Nat.le_trans hS.1 hz, fun q h1 h2 => by rw [hk q (Nat.lt_of_lt_of_le h1 hS.1) (fun z => h2 (hF q z))]; exact hS.2.1 q h1 h2, fun q hq => by
    rcases List.mem_append.mp hq with h | h
    · exact hS.2.2 q h
    · exact hF _ (hL q h)⟩
  obtain ⟨t2, a1, b1⟩ := kk T'.heap (locs ++ L) ls hP2 hD2 hS2 hl T' rfl X'
  exact ⟨t2, stp t2 a1, b1⟩
theorem g_preS {E : gE} {s : State} {H : Heap} {w0 : va_W} {av : List Value} {A : Nat → Prop} (hP : va_P E.1 vwCl w0 H) (hD : va_D A w0) (hK : va_K E.1 vwCl (gT E) s) (hN : gN s) : ∀ U : State, U.heap = H → s.WarmedH U.vm → gP E w0 H.size av av.toArray U :=
  fun U hU hW => ⟨rfl, by rw [hU], by rw [hU]; exact hP, hD.weaken (fun _ _ _ _ => trivial), va_K.moved hW.alike hK, gN.warm hW hN⟩
theorem g_dl {A : Nat → Prop} {w0 wr : va_W} (hD : va_D A (w0 ++ wr)) : va_D A w0 := by
  refine ⟨fun i j x y hi hj hxy => ?_, fun k q hq => ?_⟩
  · have h1 := (List.getElem?_eq_some_iff.mp hi).1
    have h2 := (List.getElem?_eq_some_iff.mp hj).1
    exact hD.1 i j x y (by rw [List.getElem?_append_left h1]; exact hi) (by rw [List.getElem?_append_left h2]; exact hj) hxy
  · have h1 := (List.getElem?_eq_some_iff.mp hq).1
    exact hD.2 k q (by rw [List.getElem?_append_left h1]; exact hq)
theorem g_pl {D : va_G} {cl : List vw_C} {H : Heap} {w0 wr : va_W} (hP : va_P D cl (w0 ++ wr) H) : va_P D cl w0 H := by
  intro k q hq
  have h1 := (List.getElem?_eq_some_iff.mp hq).1
  exact hP k q (by rw [List.getElem?_append_left h1]; exact hq)
/-- what a call asks of the words -/
theorem g_cb {y : MethodName} {bytes : ByteArray} {maxL n index : Nat} {ry : Option FieldType} {rm : Room} (hm : gM y bytes maxL ry n) (hlink : Cond.methodLink own index y ∈ lw_g) (hts : ∀ w ∈ lw_g, w.before args s = true) (hR : rm.frames + 1 ≤ R.frames ∧ 8 + (maxL + 11) + rm.locals ≤ R.locals) :
    CallB R s args own index y bytes maxL ry (gW y bytes maxL ry) rm rm.cells rm.slots n := by
  obtain ⟨h1, h2, h3, h4, h5⟩ := hm
  refine ⟨rfl, rfl, hR.1, hR.2, pay_in (big := Cond.code y bytes maxL ry :: lw_g) (fun w hw => (List.mem_cons.mp hw).elim (fun z => by rw [z]; exact hts _ h1) (hts w)) (lg_good h1), List.mem_cons_self, hts _ h1, hts _ h2, h3, fun sig h => ?_, hts _ hlink⟩
  rw [h] at h4
  exact (Option.some.inj h4).symm
theorem g_callV (C : gC E p s m args meth c cc nL own ret A) {y : MethodName} {bytes : ByteArray} {maxL n index : Nat} {ry : Option FieldType} {rm : Room} {b : Addr} {As rest : List Value} {w0 w1 : va_W} {rv : Option Value} (wr : va_W) (hK9 : gK l E y bytes maxL ry rm (.ref b :: As) w0 rv w1) (hm : gM y bytes maxL ry n) (hi : Cond.instanceMethod y ∈ lw_g ∧ Cond.selects y.cls y y ∈ lw_g) (hlink : Cond.methodLink own index y ∈ lw_g)
    (q0 ci : Nat) {fs : List Value} {q : vw_C} (he : w0[q0]? = some (b, .inr (ci, fs))) (hc : vwCl[ci]? = some q) (hq : q.1 = y.cls) (hn : As.length = n) (hst : st = As.reverse ++ .ref b :: rest) (hW : (rest.map fun v => v.category).sum ≤ 8) (hR : rm.frames + 1 ≤ R.frames ∧ 8 + (maxL + 11) + rm.locals ≤ R.locals) (hf : kc + rm.cells ≤ R.cells ∧ ks + rm.slots ≤ R.slots) (hw : ws = w0 ++ wr) (hd : decode cc pc = .ok (.invokevirtual index, 3)) (hp : pc + 3 = pc')
    (kk : gG E p l e R s m args below meth c A nL (kc + rm.cells) (ks + rm.slots) Q (w1 ++ wr) pc' lv (rv.toList ++ rest)) : gG E p l e R s m args below meth c A nL kc ks Q ws pc lv st := by
  subst hp; subst hw; subst hst
  intro H locs ls hP hD hS hl
  obtain ⟨hx, hb, hml, hown, hts, hK, hN, hA, hrt, hlk⟩ := id C
  refine g_behind C hP hD hS hl (va_runV (Ts := lw_g) (nL := nL) (cc := cc) ⟨hx, hb, hml, hown, hts⟩ (hK9 H.size) ⟨g_cb hm hlink hts hR, hts _ hi.1, hts _ hi.2⟩ ⟨gP_blind, ?_, g_preS (g_pl hP) (g_dl hD) hK hN⟩ rfl hn hl.1 rfl ?_ hd hf) kk
  · rw [← hq]; exact va_recv hK (g_pl hP) hc he
  · show 2 * 0 + _ ≤ 8
    omega
theorem g_callS (C : gC E p s m args meth c cc nL own ret A) {y : MethodName} {bytes : ByteArray} {maxL n index : Nat} {ry : Option FieldType} {rm : Room} {As rest : List Value} {w0 w1 : va_W} {rv : Option Value} (wr : va_W) (hK9 : gK l E y bytes maxL ry rm As w0 rv w1) (hm : gM y bytes maxL ry n) (hi : Cond.static y ∈ lw_g) (hlink : Cond.methodLink own index y ∈ lw_g)
    (hn : As.length = n) (hst : st = As.reverse ++ rest) (hW : (rest.map fun v => v.category).sum ≤ 8) (hR : rm.frames + 1 ≤ R.frames ∧ 8 + (maxL + 11) + rm.locals ≤ R.locals) (hf : kc + rm.cells ≤ R.cells ∧ ks + rm.slots ≤ R.slots) (hw : ws = w0 ++ wr) (hd : decode cc pc = .ok (.invokestatic index, 3)) (hp : pc + 3 = pc')
    (kk : gG E p l e R s m args below meth c A nL (kc + rm.cells) (ks + rm.slots) Q (w1 ++ wr) pc' lv (rv.toList ++ rest)) : gG E p l e R s m args below meth c A nL kc ks Q ws pc lv st := by
  subst hp; subst hw; subst hst
  intro H locs ls hP hD hS hl
  obtain ⟨hx, hb, hml, hown, hts, hK, hN, hA, hrt, hlk⟩ := id C
  refine g_behind C hP hD hS hl (va_runS (Ts := lw_g) (nL := nL) (cc := cc) ⟨hx, hb, hml, hown, hts⟩ (hK9 H.size) ⟨g_cb hm hlink hts hR, hts _ hi⟩ ⟨gP_blind, g_preS (g_pl hP) (g_dl hD) hK hN⟩ rfl hn hl.1 rfl ?_ hd hf) kk
  show 2 * 0 + _ ≤ 8
  omega
theorem g_callI (C : gC E p s m args meth c cc nL own ret A) {y : MethodName} {bytes : ByteArray} {maxL n index : Nat} {rm : Room} {b : Addr} {As rest : List Value} {w0 w1 : va_W} {rv : Option Value} (wr : va_W) (hK9 : gK l E y bytes maxL none rm (.ref b :: As) w0 rv w1) (hm : gM y bytes maxL none n) (hi : Cond.instanceMethod y ∈ lw_g) (hy : y.name = "<init>") (hlink : Cond.methodLink own index y ∈ lw_g)
    (hn : As.length = n) (hst : st = As.reverse ++ .ref b :: rest) (hW : (rest.map fun v => v.category).sum ≤ 8) (hR : rm.frames + 1 ≤ R.frames ∧ 8 + (maxL + 11) + rm.locals ≤ R.locals) (hf : kc + rm.cells ≤ R.cells ∧ ks + rm.slots ≤ R.slots) (hw : ws = w0 ++ wr) (hd : decode cc pc = .ok (.invokespecial index, 3)) (hp : pc + 3 = pc')
    (kk : gG E p l e R s m args below meth c A nL (kc + rm.cells) (ks + rm.slots) Q (w1 ++ wr) pc' lv (rv.toList ++ rest)) : gG E p l e R s m args below meth c A nL kc ks Q ws pc lv st := by
  subst hp; subst hw; subst hst
  intro H locs ls hP hD hS hl
  obtain ⟨hx, hb, hml, hown, hts, hK, hN, hA, hrt, hlk⟩ := id C
  refine g_behind C hP hD hS hl (va_runI (Ts := lw_g) (nL := nL) (cc := cc) ⟨hx, hb, hml, hown, hts⟩ (hK9 H.size) ⟨g_cb hm hlink hts hR, hy, hts _ hi⟩ ⟨gP_blind, g_preS (g_pl hP) (g_dl hD) hK hN⟩ rfl hn hl.1 rfl ?_ hd hf) kk
  show 2 * 0 + _ ≤ 8
  omega
/-- a private constructor of a nest mate -/
theorem g_callIN (C : gC E p s m args meth c cc nL own ret A) {y : MethodName} {bytes : ByteArray} {maxL n index : Nat} {rm : Room} {b : Addr} {As rest : List Value} {w0 w1 : va_W} {rv : Option Value} (host : String) (wr : va_W) (hK9 : gK l E y bytes maxL none rm (.ref b :: As) w0 rv w1) (hm : gM y bytes maxL none n) (hi : Cond.instanceMethod y ∈ lw_g) (hy : y.name = "<init>") (hlink : (own, index, y.cls, host) ∈ gNM ∧ y = ⟨y.cls, "<init>", "()V"⟩)
    (hn : As.length = n) (hst : st = As.reverse ++ .ref b :: rest) (hW : (rest.map fun v => v.category).sum ≤ 8) (hR : rm.frames + 1 ≤ R.frames ∧ 8 + (maxL + 11) + rm.locals ≤ R.locals) (hf : kc + rm.cells ≤ R.cells ∧ ks + rm.slots ≤ R.slots) (hw : ws = w0 ++ wr) (hd : decode cc pc = .ok (.invokespecial index, 3)) (hp : pc + 3 = pc')
    (kk : gG E p l e R s m args below meth c A nL (kc + rm.cells) (ks + rm.slots) Q (w1 ++ wr) pc' lv (rv.toList ++ rest)) : gG E p l e R s m args below meth c A nL kc ks Q ws pc lv st := by
  subst hp; subst hw; subst hst
  intro H locs ls hP hD hS hl
  obtain ⟨hx, hb, hml, hown, hts, hK, hN, hA, hrt, hlk⟩ := id C
  have hnl : (Cond.methodLinkNest own index y host).before args s = true := by
    have h9 := hN.2 _ hlink.1
    rw [hlink.2]
    exact va_Nw.use rfl h9
  obtain ⟨h1, h2, h3, h4, h5⟩ := hm
  refine g_behind C hP hD hS hl (va_runIN (Ts := lw_g) (nL := nL) (cc := cc) (host := host) (n := n) ⟨hx, hb, hml, hown, hts⟩ (hK9 H.size) ⟨⟨⟨rfl, rfl, hR.1, hR.2, pay_in (big := Cond.code y bytes maxL none :: lw_g) (fun w hw => (List.mem_cons.mp hw).elim (fun z => by rw [z]; exact hts _ h1) (hts w)) (lg_good h1), List.mem_cons_self⟩, hts _ h1, hts _ h2, h3, fun sig h => ?_, hnl⟩, hy, hts _ hi⟩ ⟨gP_blind, g_preS (g_pl hP) (g_dl hD) hK hN⟩ rfl hn hl.1 rfl ?_ hd hf) kk
  · rw [h] at h4
    exact (Option.some.inj h4).symm
  · show 2 * 0 + _ ≤ 8
    omega
/-- a method of the class above, on an object of a class below -/
theorem g_callU (C : gC E p s m args meth c cc nL own ret A) {x y : MethodName} {bytes : ByteArray} {maxL n index : Nat} {ry : Option FieldType} {rm : Room} {b : Addr} {As rest : List Value} {w0 w1 : va_W} {rv : Option Value} (owner Cn : String) (wr : va_W) (hK9 : gK l E y bytes maxL ry rm (.ref b :: As) w0 rv w1) (hm : gM y bytes maxL ry n) (hi : Cond.instanceMethod y ∈ lw_g ∧ Cond.selects Cn x y ∈ lw_g ∧ Cond.sameMethod x.cls owner x.name x.desc ∈ lw_g) (hyx : y = ⟨owner, x.name, x.desc⟩) (ho : owner ≠ "java/lang/invoke/MethodHandle" ∧ owner ≠ "java/lang/invoke/VarHandle") (hlink : Cond.methodLink own index x ∈ lw_g)
    (q0 ci : Nat) {fs : List Value} {q : vw_C} (he : w0[q0]? = some (b, .inr (ci, fs))) (hc : vwCl[ci]? = some q) (hq : q.1 = Cn) (hn : As.length = n) (hst : st = As.reverse ++ .ref b :: rest) (hW : (rest.map fun v => v.category).sum ≤ 8) (hR : rm.frames + 1 ≤ R.frames ∧ 8 + (maxL + 11) + rm.locals ≤ R.locals) (hf : kc + rm.cells ≤ R.cells ∧ ks + rm.slots ≤ R.slots) (hw : ws = w0 ++ wr) (hd : decode cc pc = .ok (.invokevirtual index, 3)) (hp : pc + 3 = pc')
    (kk : gG E p l e R s m args below meth c A nL (kc + rm.cells) (ks + rm.slots) Q (w1 ++ wr) pc' lv (rv.toList ++ rest)) : gG E p l e R s m args below meth c A nL kc ks Q ws pc lv st := by
  subst hp; subst hw; subst hst
  intro H locs ls hP hD hS hl
  obtain ⟨hx, hb, hml, hown, hts, hK, hN, hA, hrt, hlk⟩ := id C
  obtain ⟨h1, h2, h3, h4, h5⟩ := hm
  refine g_behind C hP hD hS hl (va_runU (Ts := lw_g) (nL := nL) (cc := cc) (C := Cn) (owner := owner) (n := n) ⟨hx, hb, hml, hown, hts⟩ (hK9 H.size) ⟨⟨rfl, rfl, hR.1, hR.2, pay_in (big := Cond.code y bytes maxL ry :: lw_g) (fun w hw => (List.mem_cons.mp hw).elim (fun z => by rw [z]; exact hts _ h1) (hts w)) (lg_good h1), List.mem_cons_self⟩, hts _ h1, hts _ h2, ho, fun sig h => ?_, hts _ hlink, hts _ hi.2.2, by rw [← hyx]; exact va_Decl.of (hts _ hi.1) (hts _ h1), hts _ hi.2.1, hts _ hi.1⟩ ⟨gP_blind, ?_, g_preS (g_pl hP) (g_dl hD) hK hN⟩ rfl hn hl.1 rfl ?_ hd hf) kk
  · have e9 : y.desc = x.desc := by rw [hyx]
    rw [e9, h] at h4
    exact (Option.some.inj h4).symm
  · rw [← hq]; exact va_recv hK (g_pl hP) hc he
  · show 2 * 0 + _ ≤ 8
    omega
/-! ends -/
theorem g_iret {pre w1 : va_W} {v : Int32} {rv : Option Value} {ty : FieldType} (C : gC E p s m args meth c cc nL own (some ty) (va_A pre s.heap.size)) (hn : narrow ty (.int v) = .int v) (hv : rv = some (.int v)) (hw : ws = w1) (hd : decode cc pc = .ok (.ireturn, 1)) : gG E p l e R s m args below meth c (va_A pre s.heap.size) nL kc ks (MQ below (gQ E pre s.heap.size rv w1) args s kc ks (va_A pre s.heap.size)) ws pc lv [.int v] := by
  subst hv; subst hw
  obtain ⟨hx, hb, hml, hown, hts, hK, hN, hA, hrt, hlk⟩ := C
  intro H locs ls hP hD hS hl
  exact W.zret hx hb hrt hn (fun t ht hW => ⟨⟨rfl, by rw [ht]; exact hP, hD⟩, hS.F ht⟩) hS.2.2 hd hlk
theorem g_vret {pre w1 : va_W} {rv : Option Value} (C : gC E p s m args meth c cc nL own none (va_A pre s.heap.size)) (hv : rv = none) (hw : ws = w1) (hd : decode cc pc = .ok (.return_, 1)) : gG E p l e R s m args below meth c (va_A pre s.heap.size) nL kc ks (MQ below (gQ E pre s.heap.size rv w1) args s kc ks (va_A pre s.heap.size)) ws pc lv [] := by
  subst hv; subst hw
  obtain ⟨hx, hb, hml, hown, hts, hK, hN, hA, hrt, hlk⟩ := C
  intro H locs ls hP hD hS hl
  exact W.vret hx hb hrt (fun t ht hW => ⟨⟨rfl, by rw [ht]; exact hP, hD⟩, hS.F ht⟩) hS.2.2 hd hlk
theorem g_lret {pre w1 : va_W} {v : Int64} {rv : Option Value} (C : gC E p s m args meth c cc nL own (some .long) (va_A pre s.heap.size)) (hv : rv = some (.long v)) (hw : ws = w1) (hd : decode cc pc = .ok (.lreturn, 1)) : gG E p l e R s m args below meth c (va_A pre s.heap.size) nL kc ks (MQ below (gQ E pre s.heap.size rv w1) args s kc ks (va_A pre s.heap.size)) ws pc lv [.long v] := by
  subst hv; subst hw
  obtain ⟨hx, hb, hml, hown, hts, hK, hN, hA, hrt, hlk⟩ := C
  intro H locs ls hP hD hS hl
  exact W.lret hx hb hrt (fun t ht hW => ⟨⟨rfl, by rw [ht]; exact hP, hD⟩, hS.F ht⟩) hS.2.2 hd hlk
theorem g_dret {pre w1 : va_W} {v : UInt64} {rv : Option Value} (C : gC E p s m args meth c cc nL own (some .double) (va_A pre s.heap.size)) (hv : rv = some (.double v)) (hw : ws = w1) (hd : decode cc pc = .ok (.dreturn, 1)) : gG E p l e R s m args below meth c (va_A pre s.heap.size) nL kc ks (MQ below (gQ E pre s.heap.size rv w1) args s kc ks (va_A pre s.heap.size)) ws pc lv [.double v] := by
  subst hv; subst hw
  obtain ⟨hx, hb, hml, hown, hts, hK, hN, hA, hrt, hlk⟩ := C
  intro H locs ls hP hD hS hl
  exact W.dret hx hb hrt (fun t ht hW => ⟨⟨rfl, by rw [ht]; exact hP, hD⟩, hS.F ht⟩) hS.2.2 hd hlk
/-- fewer cells: what was made is left behind -/
theorem g_drop {w1 : va_W} (wr : va_W) (hw : ws = w1 ++ wr) (kk : gG E p l e R s m args below meth c A nL kc ks Q w1 pc lv st) : gG E p l e R s m args below meth c A nL kc ks Q ws pc lv st := by
  subst hw
  exact fun H locs ls hP hD hS hl => kk H locs ls (g_pl hP) (g_dl hD) hS hl
/-! the library's own -/
theorem g_min (C : gC E p s m args meth c cc nL own ret A) {index : Nat} (hlink : Cond.methodLink own index Lib.Math.min.name ∈ lw_g) (hstat : Cond.static Lib.Math.min.name ∈ lw_g ∧ Cond.initialized "java/lang/Math" ∈ lw_g ∧ Cond.code Lib.Math.min.name Lib.Math.min.code 2 (some .int) ∈ lw_g) (hframes : 1 ≤ R.frames) (hlocals : (st.map fun v => v.category).sum + 13 ≤ R.locals) (hf : kc ≤ R.cells ∧ ks ≤ R.slots) {x y : Int} (hx : -2147483648 ≤ x ∧ x ≤ 2147483647) (hy : -2147483648 ≤ y ∧ y ≤ 2147483647) (hd : decode cc pc = .ok (.invokestatic index, 3)) (hp : pc + 3 = pc')
    (kk : gG E p l e R s m args below meth c A nL kc ks Q ws pc' lv (.int (iI (if y < x then y else x)) :: st)) : gG E p l e R s m args below meth c A nL kc ks Q ws pc lv (.int (iI y) :: .int (iI x) :: st) := by
  subst hp
  obtain ⟨hx1, hb, hml, hown, hts, hK, hN, hA, hrt, hlk⟩ := C
  intro H locs ls hP hD hS hl
  refine va_mmin hx1 hb (by rw [hml, hl.1]) hown (hts _ hlink) (hts _ hstat.1) (hts _ hstat.2.1) (hts _ hstat.2.2) hframes hlocals hf.1 hf.2 hd ?_
  have e9 : (if iI y < iI x then iI y else iI x) = iI (if y < x then y else x) := by
    by_cases h : y < x
    · rw [if_pos h, if_pos ((iI_lt hy hx).mpr h)]
    · rw [if_neg h, if_neg (fun z => h ((iI_lt hy hx).mp z))]
  rw [e9]
  exact kk H locs ls hP hD hS hl
theorem g_abs (C : gC E p s m args meth c cc nL own ret A) {index : Nat} (hlink : Cond.methodLink own index Lib.Math.abs.name ∈ lw_g) (hstat : Cond.static Lib.Math.abs.name ∈ lw_g ∧ Cond.initialized "java/lang/Math" ∈ lw_g ∧ Cond.code Lib.Math.abs.name Lib.Math.abs.code 1 (some .int) ∈ lw_g) (hframes : 1 ≤ R.frames) (hlocals : (st.map fun v => v.category).sum + 13 ≤ R.locals) (hf : kc ≤ R.cells ∧ ks ≤ R.slots) {x : Int} (hx : -2147483648 ≤ x ∧ x ≤ 2147483647) (hd : decode cc pc = .ok (.invokestatic index, 3)) (hp : pc + 3 = pc')
    (kk : gG E p l e R s m args below meth c A nL kc ks Q ws pc' lv (.int (iI (if 0 ≤ x then x else 0 - x)) :: st)) : gG E p l e R s m args below meth c A nL kc ks Q ws pc lv (.int (iI x) :: st) := by
  subst hp
  obtain ⟨hx1, hb, hml, hown, hts, hK, hN, hA, hrt, hlk⟩ := C
  intro H locs ls hP hD hS hl
  refine va_mabs hx1 hb (by rw [hml, hl.1]) hown (hts _ hlink) (hts _ hstat.1) (hts _ hstat.2.1) (hts _ hstat.2.2) hframes hlocals hf.1 hf.2 hd ?_
  have e9 : (if 0 ≤ iI x then iI x else 0 - iI x) = iI (if 0 ≤ x then x else 0 - x) := by
    have e0 : (0 ≤ iI x) = (iI 0 ≤ iI x) := rfl
    by_cases h : 0 ≤ x
    · rw [if_pos h, if_pos (by rw [e0]; exact (iI_le (by omega) hx).mpr h)]
    · rw [if_neg h, if_neg (fun z => h ((iI_le (by omega) hx).mp (by rw [← e0]; exact z)))]
      exact iI_sub 0 x
  rw [e9]
  exact kk H locs ls hP hD hS hl
theorem iI_cpy {f g : Int → Int} {n : Int} (h : 0 ≤ n ∧ n ≤ 2147483647) : va_cpy (fun j : Nat => iI (f (j : Int))) (fun j : Nat => iI (g (j : Int))) (iI 0).toNatClampNeg (iI 0).toNatClampNeg (iI n).toNatClampNeg = fun j : Nat => iI (fcpy f g n (j : Int)) := by
  rw [iI_clamp h, iI_clamp (a := 0) (by omega)]
  funext j
  simp only [va_cpy, fcpy, Int.toNat_zero, Nat.zero_add, Nat.zero_le, true_and, Nat.sub_zero]
  by_cases hj : j < n.toNat
  · rw [if_pos hj, if_pos (by omega)]
  · rw [if_neg hj, if_neg (by omega)]
theorem g_copy (C : gC E p s m args meth c cc nL own ret A) {index : Nat} (hlink : Cond.methodLink own index arraycopyName ∈ lw_g) (hstat : Cond.native arraycopyName ∈ lw_g ∧ Cond.static arraycopyName ∈ lw_g ∧ Cond.initialized "java/lang/System" ∈ lw_g) {n0 n1 : Nat} {f g : Int → Int} {a0 a : Nat} {n : Int} (q0 q1 : Nat) (he0 : ws[q0]? = some (a0, ca E n0 f)) (he1 : ws[q1]? = some (a, ca E n1 g)) (hn : 0 ≤ n ∧ n ≤ (n0 : Int) ∧ n ≤ (n1 : Int) ∧ n ≤ 2147483647) (hw : ws.set q1 (a, ca E n1 (fcpy f g n)) = ws')
    (hframes : 1 ≤ R.frames) (hlocals : (st.map fun v => v.category).sum + (nativeFrameWords "java/lang/System" "arraycopy" 5 + 11) ≤ R.locals) (hd : decode cc pc = .ok (.invokestatic index, 3)) (hp : pc + 3 = pc')
    (kk : gG E p l e R s m args below meth c A nL kc ks Q ws' pc' lv st) : gG E p l e R s m args below meth c A nL kc ks Q ws pc lv (.int (iI n) :: .int (iI 0) :: .ref a :: .int (iI 0) :: .ref a0 :: st) := by
  subst hp; subst hw
  obtain ⟨hx1, hb, hml, hown, hts, hK, hN, hA, hrt, hlk⟩ := C
  intro H locs ls hP hD hS hl
  have e0 : (iI 0).toNatClampNeg = 0 := rfl
  have en : (iI n).toNatClampNeg = n.toNat := iI_clamp (by omega)
  refine va_copyi hx1 hb (by rw [hml, hl.1]) hown (hts _ hlink) (hts _ hstat.1) (hts _ hstat.2.1) (hts _ hstat.2.2) hK hP hD hS q0 q1 0 0 he0 he1 rfl rfl rfl (by decide) (by decide) (by rw [iI_lt0 (by omega)]; omega) (by rw [e0, en]; omega) (by rw [e0, en]; omega) (fun _ _ => rfl) hframes hlocals hd (fun H1 locs1 hP hD hS => ?_)
  rw [iI_cpy (by omega)] at hP hD
  exact kk H1 locs1 ls hP hD hS hl
theorem g_objInit (C : gC E p s m args meth c cc nL own ret A) {idx : Nat} {a : Addr} (hlink : Cond.methodLink own idx Lib.objectInit ∈ lw_g) (hi : Cond.instanceMethod Lib.objectInit ∈ lw_g ∧ Cond.code Lib.objectInit ⟨#[0xb1]⟩ 1 none ∈ lw_g) (hframes : 1 ≤ R.frames) (hlocals : (st.map fun v => v.category).sum + 12 ≤ R.locals) (hd : decode cc pc = .ok (.invokespecial idx, 3)) (hp : pc + 3 = pc')
    (kk : gG E p l e R s m args below meth c A nL kc ks Q ws pc' lv st) : gG E p l e R s m args below meth c A nL kc ks Q ws pc lv (.ref a :: st) := by
  subst hp
  obtain ⟨hx1, hb, hml, hown, hts, hK, hN, hA, hrt, hlk⟩ := C
  intro H locs ls hP hD hS hl
  refine W.objInit hx1 hb hown (hts _ hlink) (hts _ hi.1) (hts _ hi.2) rfl (by rw [hml]; exact hl.1) rfl hd hframes (by show 2 * 0 + _ + 12 ≤ _; omega) ?_
  exact kk H locs ls hP hD hS hl
theorem g_alen (C : gC E p s m args meth c cc nL own ret A) {n : Nat} {f : Int → Int} {a : Nat} (q0 : Nat) (he : ws[q0]? = some (a, ca E n f)) (hd : decode cc pc = .ok (.arraylength, 1)) (hp : pc + 1 = pc')
    (kk : gG E p l e R s m args below meth c A nL kc ks Q ws pc' lv (.int (iI (n : Int)) :: st)) : gG E p l e R s m args below meth c A nL kc ks Q ws pc lv (.ref a :: st) := by
  subst hp
  obtain ⟨hx1, hb, hml, hown, hts, hK, hN, hA, hrt, hlk⟩ := C
  intro H locs ls hP hD hS hl
  exact va_alen hx1 hb hK hP q0 0 he rfl (v := iI (n : Int)) (by show Int32.ofNat n = Int32.ofInt n; rw [← Int32.ofInt_eq_ofNat]) hd (kk H locs ls hP hD hS hl)
theorem g_new (C : gC E p s m args meth c cc nL own ret A) {Cn : String} {T : u_T} {N ci index : Nat} (hin : ∀ w ∈ u_ws Cn T N, w ∈ lw_g) (ty : Nat → FieldType) (hty : ∀ k, k < N → parseFieldDescriptor (T k).2.2.1 = some (ty k)) (hcl : Cond.classLink own index Cn ∈ lw_g ∧ Cond.instantiable Cn N ∈ lw_g ∧ Cond.initialized Cn ∈ lw_g) (hc : vwCl[ci]? = some (Cn, T, N)) {fs : List Value} (hfs : ∀ j, j < N → defaultValue (ty j) = vp_V fs j) (hf : kc + 1 ≤ R.cells ∧ ks + N ≤ R.slots) (hd : decode cc pc = .ok (.new index, 3)) (hp : pc + 3 = pc')
    (kk : ∀ q : Nat, gG E p l e R s m args below meth c A nL (kc + 1) (ks + N) Q (ws ++ [(q, .inr (ci, fs))]) pc' lv (.ref q :: st)) : gG E p l e R s m args below meth c A nL kc ks Q ws pc lv st := by
  subst hp
  obtain ⟨hx1, hb, hml, hown, hts, hK, hN, hA, hrt, hlk⟩ := C
  intro H locs ls hP hD hS hl
  exact va_new hx1 hb hts hin ty hty hown (hts _ hcl.1) (hts _ hcl.2.1) (hts _ hcl.2.2) hK hP hD hS hA hc hfs hf.1 hf.2 hd (fun q H1 hP hD hS => kk q H1 locs ls hP hD hS hl)
/-- all arrays of a kind have one class -/
theorem g_newa (C : gC E p s m args meth c cc nL own ret A) {N : Nat} {n : Int} (harr : Cond.arrayClass .int ∈ lw_g) (hn : n = (N : Int)) (hN9 : N ≤ 100000000) (hf : kc + 1 ≤ R.cells ∧ ks + N ≤ R.slots) (hd : decode cc pc = .ok (.newarray .int, 2)) (hp : pc + 2 = pc')
    (kk : ∀ q : Nat, gG E p l e R s m args below meth c A nL (kc + 1) (ks + N) Q (ws ++ [(q, ca E N (fun _ => 0))]) pc' lv (.ref q :: st)) : gG E p l e R s m args below meth c A nL kc ks Q ws pc lv (.int (iI n) :: st) := by
  subst hp; subst hn
  obtain ⟨hx1, hb, hml, hown, hts, hK, hN, hA, hrt, hlk⟩ := C
  intro H locs ls hP hD hS hl
  refine va_newa (atype := .int) (ty := .int) (N' := N) (a0 := (N, .inl (fun _ => iI 0))) hx1 hb (hts _ harr) rfl hK hP hD hS hA (fun cA => rfl) (by rw [iI_lt0 (by omega)]; omega) (by rw [iI_clamp (by omega)]; omega) ?_ hf.1 hf.2 hd (fun q cA H1 hK2 hP hD hS => ?_)
  · show N * 4 ≤ 536870912
    omega
  · have e1 := (hK.2 0 _ rfl).2
    have e2 := (hK2.2 2 _ rfl).2
    have e3 : cA = E.2.1 := Option.some.inj ((show s.vm.findClass _ = some cA from e2).symm.trans (show s.vm.findClass _ = some E.2.1 from e1))
    subst e3
    exact kk q H1 locs ls hP hD hS hl
theorem g_newz (C : gC E p s m args meth c cc nL own ret A) {N : Nat} {n : Int} (harr : Cond.arrayClass .boolean ∈ lw_g) (hn : n = (N : Int)) (hN9 : N ≤ 100000000) (hf : kc + 1 ≤ R.cells ∧ ks + N ≤ R.slots) (hd : decode cc pc = .ok (.newarray .boolean, 2)) (hp : pc + 2 = pc')
    (kk : ∀ q : Nat, gG E p l e R s m args below meth c A nL (kc + 1) (ks + N) Q (ws ++ [(q, cz E N (fun _ => 0))]) pc' lv (.ref q :: st)) : gG E p l e R s m args below meth c A nL kc ks Q ws pc lv (.int (iI n) :: st) := by
  subst hp; subst hn
  obtain ⟨hx1, hb, hml, hown, hts, hK, hN, hA, hrt, hlk⟩ := C
  intro H locs ls hP hD hS hl
  refine va_newa (atype := .boolean) (ty := .boolean) (N' := N) (a0 := (N, .inl (fun _ => iI 0))) hx1 hb (hts _ harr) rfl hK hP hD hS hA (fun cA => rfl) (by rw [iI_lt0 (by omega)]; omega) (by rw [iI_clamp (by omega)]; omega) ?_ hf.1 hf.2 hd (fun q cA H1 hK2 hP hD hS => ?_)
  · show N * 1 ≤ 536870912
    omega
  · have e1 := (hK.2 1 _ rfl).2
    have e2 := (hK2.2 2 _ rfl).2
    have e3 : cA = E.2.2.1 := Option.some.inj ((show s.vm.findClass _ = some cA from e2).symm.trans (show s.vm.findClass _ = some E.2.2.1 from e1))
    subst e3
    exact kk q H1 locs ls hP hD hS hl
/-! loops -/
theorem g_up (N : Nat) (P : Nat → Prop) (hs : ∀ k, (k < N → P (k + 1)) → k ≤ N → P k) : ∀ k, k ≤ N → P k := by
  have key : ∀ d k, k ≤ N → N - k = d → P k := by
    intro d
    induction d with
    | zero => exact fun k hk h => hs k (fun z => absurd z (by omega)) hk
    | succ d ih => exact fun k hk h => hs k (fun z => ih (k + 1) (by omega) (by omega)) hk
  exact fun k hk => key (N - k) k hk rfl
end GA
