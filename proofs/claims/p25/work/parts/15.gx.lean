/-! makers: what is made lies where no one knew before -/
def gQX (E : gE) (pre : va_W) (sz : Nat) (Φ : va_W → Prop) : Array Value → State → Outcome → State → Prop := fun _ st oc t =>
  (oc = .returned none ∧ ∃ w1 : va_W, Φ w1 ∧ va_P E.1 vwCl w1 t.heap ∧ va_D (va_A pre sz) w1) ∧ va_F (va_A pre sz) st t
def gKX (l : Launch) (E : gE) (y : MethodName) (bytes : ByteArray) (maxL : Nat) (rm : Room) (av : List Value) (pre : va_W) (Φ : va_W → Prop) : Prop :=
  ∀ sz : Nat, Met l y (gW y bytes maxL none) rm (gP E pre sz av) (gQX E pre sz Φ) rm.cells rm.slots (va_A pre sz)
def gZX (E : gE) (s : State) (args : Array Value) (below : List Frame) (A : Nat → Prop) (Q : State → Prop) (kc ks : Nat) (Φ : va_W → Prop) : Prop :=
  ∃ pre : va_W, A = va_A pre s.heap.size ∧ Q = MQ below (gQX E pre s.heap.size Φ) args s kc ks (va_A pre s.heap.size)
theorem gKX_byN {l : Launch} {E : gE} {y : MethodName} {bytes : ByteArray} {maxL n : Nat} {rm : Room} {av : List Value} {pre : va_W} {Φ : va_W → Prop} (own : String) (ho : y.cls = own) (hm : gM y bytes maxL none n) (lv0 : List (Nat × Value)) (hlen : (lg_sl av).length ≤ maxL) (hl0 : lv_args 0 av = lv0)
    (body : ∀ (p : Program) (e : Env) (s : State) (m : MethodId) (args : Array Value) (below : List Frame) (meth : Method) (c : Code) (A : Nat → Prop) (Q : State → Prop), meth.name = y.name → gC E p s m args meth c bytes maxL own none A → gZX E s args below A Q rm.cells rm.slots Φ → gG E p l e rm s m args below meth c A maxL 0 0 Q pre 0 lv0 []) : gKX l E y bytes maxL rm av pre Φ := by
  subst ho
  intro sz
  refine gMetF (cc := bytes) (maxL := maxL) (ret := none) hm.2.2.2.2 rfl ?_
  intro p e s m args below meth c s₁ B hml hv
  obtain ⟨rfl, hsz, hP, hD, hK, hN⟩ := hv
  subst hsz
  have hl := lv_entry av (n := maxL) hlen
  rw [hl0] at hl
  rw [lg_entry_eq]
  have hts := atoms_spec (ws := gW y bytes maxL none) B.pre
  exact body p e s m _ below meth c _ _ (name_of_methodNamed B.named B.method).1 ⟨B.exec, B.bytes, hml, findClass_of_methodNamed B.named, fun w hw => hts w (List.mem_cons_of_mem _ hw), hK, hN, fun q h => Or.inr h, B.returns, B.notSynchronized⟩ ⟨pre, rfl, rfl⟩ s.heap [] _ hP hD.self va_S.rf hl
section GX
variable {E : gE} {p : Program} {l : Launch} {e : Env} {R : Room} {s : State} {m : MethodId} {args : Array Value} {below : List Frame} {meth : Method} {c : Code} {A : Nat → Prop} {nL kc ks kc' ks' : Nat} {Q : State → Prop} {ws ws' : va_W} {pc pc' : Nat} {lv lv' : List (Nat × Value)} {st : List Value}
variable {cc : ByteArray} {own : String} {ret : Option FieldType}
theorem g_behindX {mc ms : Nat} {rest : List Value} {w0 wr : va_W} {Φ : va_W → Prop} {a9 : Array Value} (C : gC E p s m args meth c cc nL own ret A) {H : Heap} {locs : List Loc} {ls : Array Slot} (hP : va_P E.1 vwCl (w0 ++ wr) H) (hD : va_D A (w0 ++ wr)) (hS : va_S A s.heap H locs) (hl : lv_has ls nL lv) {st0 : List Value}
    (hr : va_Run p l e R s m args below meth c H locs kc ks mc ms (F0 m pc ls st0) rest (gQX E w0 H.size Φ a9) (va_A w0 H.size))
    (kk : ∀ w1 : va_W, Φ w1 → gG E p l e R s m args below meth c A nL (kc + mc) (ks + ms) Q (w1 ++ wr) (pc + 3) lv rest) : W p l e R s m args below meth c H locs kc ks Q (F0 m pc ls st0) := by
  obtain ⟨hx, hb, hml, hown, hts, hK, hN, hA, hrt, hlk⟩ := C
  have hF : ∀ q, va_A w0 H.size q → A q := by
    intro q h
    rcases h with ⟨k, e, h⟩ | h
    · have hlt := (List.getElem?_eq_some_iff.mp h).1
      exact hD.2 k (q, e) (by rw [List.getElem?_append_left hlt]; exact h)
    · exact hA q (Nat.le_trans hS.1 h)
  intro T hT X
  obtain ⟨v, st₀, t, T', L, h0, X', hL, e1, e2, ⟨⟨hv, w1, hΦ, hP1, hD1⟩, hz, hk⟩, stp⟩ := hr T hT X
  cases hv
  rw [h0] at hz hk
  rw [← e1] at hz hk hP1
  have apart : ∀ (k : Nat) (q : Nat × va_E), wr[k]? = some q → q.1 < H.size ∧ ¬ va_A w0 H.size q.1 := by
    intro k q hq
    have hq' : (w0 ++ wr)[w0.length + k]? = some q := by rw [List.getElem?_append_right (by omega)]; simpa using hq
    have hlt := (hP _ q hq').lt
    refine ⟨hlt, fun h => ?_⟩
    rcases h with ⟨k2, e9, h⟩ | h
    · have hlt2 := (List.getElem?_eq_some_iff.mp h).1
      have := hD.1 (w0.length + k) k2 q (q.1, e9) hq' (by rw [List.getElem?_append_left hlt2]; exact h) rfl
      omega
    · omega
  have hPr : va_P E.1 vwCl wr T'.heap := by
    intro k q hq
    have hq' : (w0 ++ wr)[w0.length + k]? = some q := by rw [List.getElem?_append_right (by omega)]; simpa using hq
    obtain ⟨g1, g2⟩ := apart k q hq
    exact (hP _ q hq').kept (hk q.1 g1 g2)
  have hDr : va_D A wr := by
    refine ⟨fun i j x y hi hj hxy => ?_, fun k q hq => ?_⟩
    · have := hD.1 (w0.length + i) (w0.length + j) x y (by rw [List.getElem?_append_right (by omega)]; simpa using hi) (by rw [List.getElem?_append_right (by omega)]; simpa using hj) hxy
      omega
    · exact hD.2 (w0.length + k) q (by rw [List.getElem?_append_right (by omega)]; simpa using hq)
  have hP2 : va_P E.1 vwCl (w1 ++ wr) T'.heap := va_P.app hP1 hPr
  have hD2 : va_D A (w1 ++ wr) := va_D.app (hD1.weaken (fun k q _ h => hF q.1 h)) hDr (fun i j x y hi hj hxy => (apart j y hj).2 (by rw [← hxy]; exact hD1.2 i x hi))
  have hS2 : va_S A s.heap T'.heap (locs ++ L) := ⟨Nat.le_trans hS.1 hz, fun q h1 h2 => by rw [hk q (Nat.lt_of_lt_of_le h1 hS.1) (fun z => h2 (hF q z))]; exact hS.2.1 q h1 h2, fun q hq => by
    rcases List.mem_append.mp hq with h | h
    · exact hS.2.2 q h
    · exact hF _ (hL q h)⟩
  obtain ⟨t2, a1, b1⟩ := kk w1 hΦ T'.heap (locs ++ L) ls hP2 hD2 hS2 hl T' rfl X'
  exact ⟨t2, stp t2 a1, b1⟩
theorem g_callIX (C : gC E p s m args meth c cc nL own ret A) {y : MethodName} {bytes : ByteArray} {maxL n index : Nat} {rm : Room} {b : Addr} {As rest : List Value} {w0 : va_W} {Φ : va_W → Prop} (wr : va_W) (hK9 : gKX l E y bytes maxL rm (.ref b :: As) w0 Φ) (hm : gM y bytes maxL none n) (hi : Cond.instanceMethod y ∈ lw_g) (hy : y.name = "<init>") (hlink : Cond.methodLink own index y ∈ lw_g)
    (hn : As.length = n) (hst : st = As.reverse ++ .ref b :: rest) (hW : (rest.map fun v => v.category).sum ≤ 8) (hR : rm.frames + 1 ≤ R.frames ∧ 8 + (maxL + 11) + rm.locals ≤ R.locals) (hf : kc + rm.cells ≤ R.cells ∧ ks + rm.slots ≤ R.slots) (hw : ws = w0 ++ wr) (hd : decode cc pc = .ok (.invokespecial index, 3)) (hp : pc + 3 = pc')
    (hk1 : kc + rm.cells = kc') (hk2 : ks + rm.slots = ks') (kk : ∀ w1 : va_W, Φ w1 → gG E p l e R s m args below meth c A nL kc' ks' Q (w1 ++ wr) pc' lv rest) : gG E p l e R s m args below meth c A nL kc ks Q ws pc lv st := by
  subst hp; subst hw; subst hst; subst hk1; subst hk2
  intro H locs ls hP hD hS hl
  obtain ⟨hx, hb, hml, hown, hts, hK, hN, hA, hrt, hlk⟩ := id C
  refine g_behindX C hP hD hS hl (va_runI (Ts := lw_g) (nL := nL) (cc := cc) ⟨hx, hb, hml, hown, hts⟩ (hK9 H.size) ⟨g_cb hm hlink hts hR, hy, hts _ hi⟩ ⟨gP_blind, g_preS (g_pl hP) (g_dl hD) hK hN⟩ rfl hn hl.1 rfl ?_ hd hf) kk
  show 2 * 0 + _ ≤ 8
  omega
theorem g_callINX (C : gC E p s m args meth c cc nL own ret A) {y : MethodName} {bytes : ByteArray} {maxL n index : Nat} {rm : Room} {b : Addr} {As rest : List Value} {w0 : va_W} {Φ : va_W → Prop} (host : String) (wr : va_W) (hK9 : gKX l E y bytes maxL rm (.ref b :: As) w0 Φ) (hm : gM y bytes maxL none n) (hi : Cond.instanceMethod y ∈ lw_g) (hy : y.name = "<init>") (hlink : (own, index, y.cls, host) ∈ gNM ∧ y = ⟨y.cls, "<init>", "()V"⟩)
    (hn : As.length = n) (hst : st = As.reverse ++ .ref b :: rest) (hW : (rest.map fun v => v.category).sum ≤ 8) (hR : rm.frames + 1 ≤ R.frames ∧ 8 + (maxL + 11) + rm.locals ≤ R.locals) (hf : kc + rm.cells ≤ R.cells ∧ ks + rm.slots ≤ R.slots) (hw : ws = w0 ++ wr) (hd : decode cc pc = .ok (.invokespecial index, 3)) (hp : pc + 3 = pc')
    (hk1 : kc + rm.cells = kc') (hk2 : ks + rm.slots = ks') (kk : ∀ w1 : va_W, Φ w1 → gG E p l e R s m args below meth c A nL kc' ks' Q (w1 ++ wr) pc' lv rest) : gG E p l e R s m args below meth c A nL kc ks Q ws pc lv st := by
  subst hp; subst hw; subst hst; subst hk1; subst hk2
  intro H locs ls hP hD hS hl
  obtain ⟨hx, hb, hml, hown, hts, hK, hN, hA, hrt, hlk⟩ := id C
  have hnl : (Cond.methodLinkNest own index y host).before args s = true := by
    have h9 := hN.2 _ hlink.1
    rw [hlink.2]
    exact va_Nw.use rfl h9
  obtain ⟨h1, h2, h3, h4, h5⟩ := hm
  refine g_behindX C hP hD hS hl (va_runIN (Ts := lw_g) (nL := nL) (cc := cc) (host := host) (n := n) ⟨hx, hb, hml, hown, hts⟩ (hK9 H.size) ⟨⟨⟨rfl, rfl, hR.1, hR.2, pay_in (big := Cond.code y bytes maxL none :: lw_g) (fun w hw => (List.mem_cons.mp hw).elim (fun z => by rw [z]; exact hts _ h1) (hts w)) (lg_good h1), List.mem_cons_self⟩, hts _ h1, hts _ h2, h3, fun sig h => ?_, hnl⟩, hy, hts _ hi⟩ ⟨gP_blind, g_preS (g_pl hP) (g_dl hD) hK hN⟩ rfl hn hl.1 rfl ?_ hd hf) kk
  · rw [h] at h4
    exact (Option.some.inj h4).symm
  · show 2 * 0 + _ ≤ 8
    omega
theorem z_vretX {Φ : va_W → Prop} (C : gC E p s m args meth c cc nL own none A) (Z : gZX E s args below A Q kc ks Φ) (hd : decode cc pc = .ok (.return_, 1)) (hΦ : Φ ws) : gG E p l e R s m args below meth c A nL kc ks Q ws pc lv [] := by
  obtain ⟨pre, rfl, rfl⟩ := Z
  obtain ⟨hx, hb, hml, hown, hts, hK, hN, hA, hrt, hlk⟩ := C
  intro H locs ls hP hD hS hl
  exact W.vret hx hb hrt (fun t ht hW => ⟨⟨rfl, ws, hΦ, by rw [ht]; exact hP, hD⟩, hS.F ht⟩) hS.2.2 hd hlk
end GX
/-- where something lies: a list of places -/
def atL (L : List Nat) (k : Nat) : Nat := L.getD k 0
def gS0 : gS := (fun _ _ => 0, fun _ => 0)
