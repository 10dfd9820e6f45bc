/-- something thrown lies at hand: it's looked for a handler from here -/
def gTh (E : gE) (p : Program) (l : Launch) (e : Env) (R : Room) (s : State) (m : MethodId) (args : Array Value) (below : List Frame) (meth : Method) (c : Code) (A : Nat → Prop) (nL kc ks : Nat) (Q : State → Prop) (X : String) (ws : va_W) (pc : Nat) (lv : List (Nat × Value)) (rest : List Value) : Prop :=
  ∀ (H : Heap) (locs : List Loc) (ls : Array Slot) (q : Addr) (ce : Cell), va_P E.1 vwCl ws H → va_D A ws → va_S A s.heap H locs → lv_has ls nL lv → H[q]? = some ce → ce.vm = .none → s.vm.findClass X = some ce.cls → vx_W p l e R s m args below meth c H locs kc ks Q (F0 m pc ls rest) q
section GT2
variable {E : gE} {p : Program} {l : Launch} {e : Env} {R : Room} {s : State} {m : MethodId} {args : Array Value} {below : List Frame} {meth : Method} {c : Code} {A : Nat → Prop} {nL kc ks kc' ks' : Nat} {Q : State → Prop} {ws ws' : va_W} {pc pc' : Nat} {lv lv' : List (Nat × Value)} {st : List Value}
variable {cc : ByteArray} {own : String} {ret : Option FieldType}
theorem g_behindT {mc ms : Nat} {rest : List Value} {w0 w1 wr : va_W} {X : String} (C : gC E p s m args meth c cc nL own ret A) {H : Heap} {locs : List Loc} {ls : Array Slot} (hP : va_P E.1 vwCl (w0 ++ wr) H) (hD : va_D A (w0 ++ wr)) (hS : va_S A s.heap H locs) (hl : lv_has ls nL lv) {st0 : List Value}
    (hr : vx_Run p l e R s m args below meth c H locs kc ks mc ms (F0 m pc ls st0) rest (fun _ _ _ => False) (gXC E w0 H.size X w1) (va_A w0 H.size))
    (kk : gTh E p l e R s m args below meth c A nL (kc + mc) (ks + ms) Q X (w1 ++ wr) pc lv rest) : W p l e R s m args below meth c H locs kc ks Q (F0 m pc ls st0) := by
  obtain ⟨hx, hb, hml, hown, hts, hK, hN, hA, hrt, hlk⟩ := C
  have hF : ∀ q, va_A w0 H.size q → A q := by
    intro q h
    rcases h with ⟨k, e, h⟩ | h
    · have hlt := (List.getElem?_eq_some_iff.mp h).1
      exact hD.2 k (q, e) (by rw [List.getElem?_append_left hlt]; exact h)
    · exact hA q (Nat.le_trans hS.1 h)
  intro T hT X9
  rcases hr T hT X9 with ⟨v, st₀, t, T', L, h0, X', hL, e1, e2, hv, -⟩ | ⟨q9, st₀, t, T', L, E9, ce, h0, X', hL, e1, e2, ⟨hv, hP1, hD1, hz, hk⟩, hce, hcv, hcl, stp⟩
  · exact hv.elim
  subst hv
  rw [h0] at hz hk
  rw [← e1] at hz hk hP1 hce
  have apart : ∀ (k : Nat) (q : Nat × va_E), wr[k]? = some q → q.1 < H.size ∧ ¬ va_A w0 H.size q.1 := by
    intro k q hq
    have hq' : (w0 ++ wr)[w0.length + k]? = some q := by rw [List.getElem?_append_right (by omega)]; simpa using hq
    have hlt := (hP _ q hq').lt
    refine ⟨hlt, fun h => ?_⟩
    rcases h with ⟨k2, e9, h⟩ | h
    · have hlt2 := (List.getElem?_eq_some_iff.mp h).1
      have := hD.1 (w0.length + k) k2 q (q.1, e9) hq' (by rw [List.getElem?_append_left hlt2]; exact h) rfl
      omega
    · omega
  have hPr : va_P E.1 vwCl wr T'.heap := by
    intro k q hq
    have hq' : (w0 ++ wr)[w0.length + k]? = some q := by rw [List.getElem?_append_right (by omega)]; simpa using hq
    obtain ⟨g1, g2⟩ := apart k q hq
    exact (hP _ q hq').kept (hk q.1 g1 g2)
  have hDr : va_D A wr := by
    refine ⟨fun i j x y hi hj hxy => ?_, fun k q hq => ?_⟩
    · have := hD.1 (w0.length + i) (w0.length + j) x y (by rw [List.getElem?_append_right (by omega)]; simpa using hi) (by rw [List.getElem?_append_right (by omega)]; simpa using hj) hxy
      omega
    · exact hD.2 (w0.length + k) q (by rw [List.getElem?_append_right (by omega)]; simpa using hq)
  have hP2 : va_P E.1 vwCl (w1 ++ wr) T'.heap := va_P.app hP1 hPr
  have hD2 : va_D A (w1 ++ wr) := va_D.app (hD1.weaken (fun k q _ h => hF q.1 h)) hDr (fun i j x y hi hj hxy => (apart j y hj).2 (by rw [← hxy]; exact hD1.2 i x hi))
  have hS2 : va_S A s.heap T'.heap (locs ++ L) := ⟨Nat.le_trans hS.1 hz, fun q h1 h2 => by rw [hk q (Nat.lt_of_lt_of_le h1 hS.1) (fun z => h2 (hF q z))]; exact hS.2.1 q h1 h2, fun q hq => by
    rcases List.mem_append.mp hq with h | h
    · exact hS.2.2 q h
    · exact hF _ (hL q h)⟩
  obtain ⟨t2, a1, b1⟩ := kk T'.heap (locs ++ L) ls q9 ce hP2 hD2 hS2 hl hce hcv hcl T' rfl X'
  exact ⟨t2, stp.trans a1, b1⟩
/-- nothing here catches -/
theorem g_tout {X : String} {w1 : va_W} {rest : List Value} (C : gC E p s m args meth c cc nL own ret A) (hx : ∀ x ∈ c.exceptionTable.toList, False) (Z : gZT E s args below A Q kc' ks' X w1) (hw : ws = w1) (hc : kc ≤ kc' ∧ ks ≤ ks') : gTh E p l e R s m args below meth c A nL kc ks Q X ws pc lv rest := by
  subst hw
  obtain ⟨pre, rfl, rfl⟩ := Z
  obtain ⟨hx0, hb, hml, hown, hts, hK, hN, hA, hrt, hlk⟩ := C
  intro H locs ls q ce hP hD hS hl hce hcv hcl
  exact vx_out (fun x h => (hx x h).elim) hlk hce hcv hcl (fun t ht _ => ⟨rfl, by rw [ht]; exact hP, hD, hS.F ht⟩) hS.2.2 hc.1 hc.2
theorem gX.pre {sa : gTx} {H : Heap} {locs : List Loc} {w0 wr : va_W} {av : List Value} (C : gC E p s m args meth c cc nL own ret A) (hX : gX sa A s s.heap) (hP : va_P E.1 vwCl (w0 ++ wr) H) (hD : va_D A (w0 ++ wr)) (hS : va_S A s.heap H locs) : ∀ U : State, U.heap = H → s.WarmedH U.vm → gPX E w0 H.size av sa av.toArray U := by
  obtain ⟨hx0, hb, hml, hown, hts, hK, hN, hA, hrt, hlk⟩ := C
  intro U hU hW
  refine ⟨rfl, by rw [hU], by rw [hU]; exact g_pl hP, (g_dl hD).weaken (fun _ _ _ _ => trivial), va_K.moved hW.alike hK, gN.warm hW hN, hX.pass hS (fun q h => ?_) hW hU⟩
  rcases h with ⟨k, e9, h⟩ | h
  · have hlt := (List.getElem?_eq_some_iff.mp h).1
    exact hD.2 k (q, e9) (by rw [List.getElem?_append_left hlt]; exact h)
  · exact hA q (Nat.le_trans hS.1 h)
/-- a static method that throws -/
theorem g_callST {sa : gTx} {X : String} {y : MethodName} {bytes : ByteArray} {maxL n index : Nat} {ry : Option FieldType} {rm : Room} {As rest : List Value} {w0 w1 : va_W} (wr : va_W) (C : gC E p s m args meth c cc nL own ret A) (hX : gX sa A s s.heap) (hK9 : gKT l E y bytes maxL ry rm As w0 sa X w1) (hbl : ∀ sz : Nat, FrameBlind (gPX E w0 sz As sa)) (hm : gM y bytes maxL ry n) (hi : Cond.static y ∈ lw_g) (hlink : Cond.methodLink own index y ∈ lw_g)
    (hn : As.length = n) (hst : st = As.reverse ++ rest) (hW : (rest.map fun v => v.category).sum ≤ 8) (hR : rm.frames + 1 ≤ R.frames ∧ 8 + (maxL + 11) + rm.locals ≤ R.locals) (hf : kc + rm.cells ≤ R.cells ∧ ks + rm.slots ≤ R.slots) (hw : ws = w0 ++ wr) (hd : decode cc pc = .ok (.invokestatic index, 3))
    (kk : gTh E p l e R s m args below meth c A nL (kc + rm.cells) (ks + rm.slots) Q X (w1 ++ wr) pc lv rest) : gG E p l e R s m args below meth c A nL kc ks Q ws pc lv st := by
  subst hw; subst hst
  intro H locs ls hP hD hS hl
  obtain ⟨hx, hb, hml, hown, hts, hK, hN, hA, hrt, hlk⟩ := id C
  refine g_behindT C hP hD hS hl (vx_runS (Ts := lw_g) (nL := nL) (cc := cc) ⟨hx, hb, hml, hown, hts⟩ (hK9 H.size) ⟨g_cb hm hlink hts hR, hts _ hi⟩ ⟨hbl H.size, gX.pre C hX hP hD hS⟩ rfl hn hl.1 rfl ?_ hd hf) kk
  show 2 * 0 + _ ≤ 8
  omega
end GT2
