/-! the law's helpers: the script as an argument, answers and worlds that are only partly told -/
theorem wc7 : Cond.constant RL 7 2147483647 ∈ lw_g := lg_t 462 (by decide +kernel)
theorem wc8 : Cond.constant RL 8 790386105 ∈ lw_g := lg_t 466 (by decide +kernel)
def gPS (E : gE) (pre : va_W) (sz : Nat) (av : List Value) (sa : gTx) (b L : Nat) (xs : Nat → Int32) : Array Value → State → Prop := fun a U => gPN E pre sz av sa a U ∧ va_X b L xs U U.heap ∧ b < sz ∧ ¬ va_A pre sz b
theorem gPS_blind {E : gE} {pre : va_W} {sz : Nat} {av : List Value} {sa : gTx} {b L : Nat} {xs : Nat → Int32} : FrameBlind (gPS E pre sz av sa b L xs) := by
  intro a U g mk q
  exact ⟨gPN_blind a U g mk q.1, va_X.moved (u := U) (U := U.calling g mk a) (Vm.Alike.refl U.vm) q.2.1, q.2.2⟩
def gQR (E : gE) (pre : va_W) (sz : Nat) (Ψ : Option Value → va_W → Prop) : Array Value → State → Outcome → State → Prop := fun _ st oc t =>
  (∃ rv : Option Value, oc = .returned rv ∧ ∃ w1 : va_W, Ψ rv w1 ∧ va_P E.1 vwCl w1 t.heap ∧ va_D (va_A pre sz) w1) ∧ va_F (va_A pre sz) st t
def gKS (l : Launch) (E : gE) (y : MethodName) (bytes : ByteArray) (maxL : Nat) (ret : Option FieldType) (rm : Room) (av : List Value) (pre : va_W) (sa : gTx) (b L : Nat) (xs : Nat → Int32) (Ψ : Option Value → va_W → Prop) : Prop :=
  ∀ sz : Nat, Met l y (gW y bytes maxL ret) rm (gPS E pre sz av sa b L xs) (gQR E pre sz Ψ) rm.cells rm.slots (va_A pre sz)
def gZS (E : gE) (s : State) (args : Array Value) (below : List Frame) (A : Nat → Prop) (Q : State → Prop) (kc ks : Nat) (Ψ : Option Value → va_W → Prop) : Prop :=
  ∃ pre : va_W, A = va_A pre s.heap.size ∧ Q = MQ below (gQR E pre s.heap.size Ψ) args s kc ks (va_A pre s.heap.size)
/-- the script, as a walk holds it, with what throws stand on -/
def gSX (sa : gTx) (b L : Nat) (xs : Nat → Int32) (A : Nat → Prop) (s : State) : Prop := gX sa A s s.heap ∧ gNc s ∧ va_X b L xs s s.heap ∧ b < s.heap.size ∧ ¬ A b
theorem gKS_by {l : Launch} {E : gE} {y : MethodName} {bytes : ByteArray} {maxL n : Nat} {ret : Option FieldType} {rm : Room} {av : List Value} {pre : va_W} {sa : gTx} {b L : Nat} {xs : Nat → Int32} {Ψ : Option Value → va_W → Prop} (own : String) (ho : y.cls = own) (hm : gM y bytes maxL ret n) (lv0 : List (Nat × Value)) (hlen : (lg_sl av).length ≤ maxL) (hl0 : lv_args 0 av = lv0)
    (body : ∀ (p : Program) (e : Env) (s : State) (m : MethodId) (args : Array Value) (below : List Frame) (meth : Method) (c : Code) (A : Nat → Prop) (Q : State → Prop), gC E p s m args meth c bytes maxL own ret A → gSX sa b L xs A s → gZS E s args below A Q rm.cells rm.slots Ψ → gG E p l e rm s m args below meth c A maxL 0 0 Q pre 0 lv0 []) : gKS l E y bytes maxL ret rm av pre sa b L xs Ψ := by
  subst ho
  intro sz
  refine gMetF (cc := bytes) (maxL := maxL) (ret := ret) hm.2.2.2.2 rfl ?_
  intro p e s m args below meth c s₁ B hml hv
  obtain ⟨⟨⟨rfl, hsz, hP, hD, hK, hN, hX⟩, hNc⟩, hXs, hbl, hbA⟩ := hv
  subst hsz
  have hl := lv_entry av (n := maxL) hlen
  rw [hl0] at hl
  rw [lg_entry_eq]
  have hts := atoms_spec (ws := gW y bytes maxL ret) B.pre
  exact body p e s m _ below meth c _ _ ⟨B.exec, B.bytes, hml, findClass_of_methodNamed B.named, fun w hw => hts w (List.mem_cons_of_mem _ hw), hK, hN, fun q h => Or.inr h, B.returns, B.notSynchronized⟩ ⟨hX, hNc, hXs, hbl, hbA⟩ ⟨pre, rfl, rfl⟩ s.heap [] _ hP hD.self va_S.rf hl
section GS
variable {E : gE} {p : Program} {l : Launch} {e : Env} {R : Room} {s : State} {m : MethodId} {args : Array Value} {below : List Frame} {meth : Method} {c : Code} {A : Nat → Prop} {nL kc ks kc' ks' : Nat} {Q : State → Prop} {ws ws' : va_W} {pc pc' : Nat} {lv lv' : List (Nat × Value)} {st : List Value}
variable {cc : ByteArray} {own : String} {ret : Option FieldType}
theorem g_ws {ws1 : va_W} (h : ws = ws1) (kk : gG E p l e R s m args below meth c A nL kc ks Q ws1 pc lv st) : gG E p l e R s m args below meth c A nL kc ks Q ws pc lv st := by
  rw [h]
  exact kk
theorem z_iretS {Ψ : Option Value → va_W → Prop} {v : Int32} {ty : FieldType} (C : gC E p s m args meth c cc nL own (some ty) A) (Z : gZS E s args below A Q kc ks Ψ) (hn : narrow ty (.int v) = .int v) (hΨ : Ψ (some (.int v)) ws) (hd : decode cc pc = .ok (.ireturn, 1)) : gG E p l e R s m args below meth c A nL kc ks Q ws pc lv [.int v] := by
  obtain ⟨pre, rfl, rfl⟩ := Z
  obtain ⟨hx, hb, hml, hown, hts, hK, hN, hA, hrt, hlk⟩ := C
  intro H locs ls hP hD hS hl
  exact W.zret hx hb hrt hn (fun t ht hW => ⟨⟨_, rfl, ws, hΨ, by rw [ht]; exact hP, hD⟩, hS.F ht⟩) hS.2.2 hd hlk
theorem z_aretS {Ψ : Option Value → va_W → Prop} {a : Nat} {nm : String} (C : gC E p s m args meth c cc nL own (some (.object nm)) A) (Z : gZS E s args below A Q kc ks Ψ) (hΨ : Ψ (some (.ref a)) ws) (hd : decode cc pc = .ok (.areturn, 1)) : gG E p l e R s m args below meth c A nL kc ks Q ws pc lv [.ref a] := by
  obtain ⟨pre, rfl, rfl⟩ := Z
  obtain ⟨hx, hb, hml, hown, hts, hK, hN, hA, hrt, hlk⟩ := C
  intro H locs ls hP hD hS hl
  exact W.aret hx hb hrt (Or.inl ⟨_, rfl⟩) (Or.inr ⟨_, rfl⟩) (fun t ht hW => ⟨⟨_, rfl, ws, hΨ, by rw [ht]; exact hP, hD⟩, hS.F ht⟩) hS.2.2 hd hlk
theorem g_behindR {mc ms : Nat} {rest : List Value} {w0 wr : va_W} {Ψ : Option Value → va_W → Prop} {a9 : Array Value} (C : gC E p s m args meth c cc nL own ret A) {H : Heap} {locs : List Loc} {ls : Array Slot} (hP : va_P E.1 vwCl (w0 ++ wr) H) (hD : va_D A (w0 ++ wr)) (hS : va_S A s.heap H locs) (hl : lv_has ls nL lv) {st0 : List Value}
    (hr : va_Run p l e R s m args below meth c H locs kc ks mc ms (F0 m pc ls st0) rest (gQR E w0 H.size Ψ a9) (va_A w0 H.size))
    (kk : ∀ (rv : Option Value) (w1 : va_W), Ψ rv w1 → gG E p l e R s m args below meth c A nL (kc + mc) (ks + ms) Q (w1 ++ wr) (pc + 3) lv (rv.toList ++ rest)) : W p l e R s m args below meth c H locs kc ks Q (F0 m pc ls st0) := by
  obtain ⟨hx, hb, hml, hown, hts, hK, hN, hA, hrt, hlk⟩ := C
  have hF : ∀ q, va_A w0 H.size q → A q := by
    intro q h
    rcases h with ⟨k, e, h⟩ | h
    · have hlt := (List.getElem?_eq_some_iff.mp h).1
      exact hD.2 k (q, e) (by rw [List.getElem?_append_left hlt]; exact h)
    · exact hA q (Nat.le_trans hS.1 h)
  intro T hT X
  obtain ⟨v, st₀, t, T', L, h0, X', hL, e1, e2, ⟨⟨rv, hv, w1, hΦ, hP1, hD1⟩, hz, hk⟩, stp⟩ := hr T hT X
  cases hv
  rw [h0] at hz hk
  rw [← e1] at hz hk hP1
  have apart : ∀ (k : Nat) (q : Nat × va_E), wr[k]? = some q → q.1 < H.size ∧ ¬ va_A w0 H.size q.1 := by
    intro k q hq
    have hq' : (w0 ++ wr)[w0.length + k]? = some q := by rw [List.getElem?_append_right (by omega)]; simpa using hq
    have hlt := (hP _ q hq').lt
    refine ⟨hlt, fun h => ?_⟩
    rcases h with ⟨k2, e9, h⟩ | h
    · have hlt2 := (List.getElem?_eq_some_iff.mp h).1
      have := hD.1 (w0.length + k) k2 q (q.1, e9) hq' (by rw [List.getElem?_append_left hlt2]; exact h) rfl
      omega
    · omega
  have hPr : va_P E.1 vwCl wr T'.heap := by
    intro k q hq
    have hq' : (w0 ++ wr)[w0.length + k]? = some q := by rw [List.getElem?_append_right (by omega)]; simpa using hq
    obtain ⟨g1, g2⟩ := apart k q hq
    exact (hP _ q hq').kept (hk q.1 g1 g2)
  have hDr : va_D A wr := by
    refine ⟨fun i j x y hi hj hxy => ?_, fun k q hq => ?_⟩
    · have := hD.1 (w0.length + i) (w0.length + j) x y (by rw [List.getElem?_append_right (by omega)]; simpa using hi) (by rw [List.getElem?_append_right (by omega)]; simpa using hj) hxy
      omega
    · exact hD.2 (w0.length + k) q (by rw [List.getElem?_append_right (by omega)]; simpa using hq)
  have hP2 : va_P E.1 vwCl (w1 ++ wr) T'.heap := va_P.app hP1 hPr
  have hD2 : va_D A (w1 ++ wr) := va_D.app (hD1.weaken (fun k q _ h => hF q.1 h)) hDr (fun i j x y hi hj hxy => (apart j y hj).2 (by rw [← hxy]; exact hD1.2 i x hi))
  have hS2 : va_S A s.heap T'.heap (locs ++ L) := ⟨Nat.le_trans hS.1 hz, fun q h1 h2 => by rw [hk q (Nat.lt_of_lt_of_le h1 hS.1) (fun z => h2 (hF q z))]; exact hS.2.1 q h1 h2, fun q hq => by
    rcases List.mem_append.mp hq with h | h
    · exact hS.2.2 q h
    · exact hF _ (hL q h)⟩
  obtain ⟨t2, a1, b1⟩ := kk _ w1 hΦ T'.heap (locs ++ L) ls hP2 hD2 hS2 hl T' rfl X'
  exact ⟨t2, stp t2 a1, b1⟩
/-- a static method that reads the script; nothing of the caller's world goes in -/
theorem g_callSS {sa : gTx} {b L : Nat} {xs : Nat → Int32} {Ψ : Option Value → va_W → Prop} {y : MethodName} {bytes : ByteArray} {maxL n index : Nat} {ry : Option FieldType} {rm : Room} {As rest : List Value} (C : gC E p s m args meth c cc nL own ret A) (hSX : gSX sa b L xs A s) (hK9 : gKS l E y bytes maxL ry rm As [] sa b L xs Ψ) (hm : gM y bytes maxL ry n) (hi : Cond.static y ∈ lw_g) (hlink : Cond.methodLink own index y ∈ lw_g)
    (hn : As.length = n) (hst : st = As.reverse ++ rest) (hW : (rest.map fun v => v.category).sum ≤ 8) (hR : rm.frames + 1 ≤ R.frames ∧ 8 + (maxL + 11) + rm.locals ≤ R.locals) (hf : kc + rm.cells ≤ R.cells ∧ ks + rm.slots ≤ R.slots) (hd : decode cc pc = .ok (.invokestatic index, 3)) (hp : pc + 3 = pc')
    (kk : ∀ (rv : Option Value) (w1 : va_W), Ψ rv w1 → gG E p l e R s m args below meth c A nL (kc + rm.cells) (ks + rm.slots) Q (w1 ++ ws) pc' lv (rv.toList ++ rest)) : gG E p l e R s m args below meth c A nL kc ks Q ws pc lv st := by
  subst hp; subst hst
  intro H locs ls hP hD hS hl
  obtain ⟨hx, hb, hml, hown, hts, hK, hN, hA, hrt, hlk⟩ := id C
  obtain ⟨hX, hNc, hXs, hbl, hbA⟩ := hSX
  have hP0 : va_P E.1 vwCl ([] ++ ws) H := hP
  have hD0 : va_D A ([] ++ ws) := hD
  refine g_behindR C hP0 hD0 hS hl (va_runS (Ts := lw_g) (nL := nL) (cc := cc) ⟨hx, hb, hml, hown, hts⟩ (hK9 H.size) ⟨g_cb hm hlink hts hR, hts _ hi⟩ ⟨gPS_blind, fun U hU hW => ⟨⟨gX.pre C hX hP0 hD0 hS U hU hW, gNc.warm hW hNc⟩, ?_, Nat.lt_of_lt_of_le hbl hS.1, ?_⟩⟩ rfl hn hl.1 rfl ?_ hd hf) kk
  · rw [hU]
    exact va_X.moved hW.alike (hXs.kept (hS.2.1 b hbl hbA))
  · intro h
    rcases h with ⟨k, e9, h⟩ | h
    · simp at h
    · have := Nat.lt_of_lt_of_le hbl hS.1
      omega
  · show 2 * 0 + _ ≤ 8
    omega
theorem g_pop (C : gC E p s m args meth c cc nL own ret A) {v : Value} (hd : decode cc pc = .ok (.pop, 1)) (hp : pc + 1 = pc') (hv : v.category = 1) (kk : gG E p l e R s m args below meth c A nL kc ks Q ws pc' lv st) : gG E p l e R s m args below meth c A nL kc ks Q ws pc lv (v :: st) := by
  subst hp
  exact fun H locs ls hP hD hS hl => lv_pop C.1 C.2.1 hd hv (kk H locs ls hP hD hS hl)
theorem g_ishr (C : gC E p s m args meth c cc nL own ret A) {x y : Int32} (hd : decode cc pc = .ok (.ishr, 1)) (hp : pc + 1 = pc') (kk : ∀ z : Int, -2147483648 ≤ z ∧ z ≤ 2147483647 → gG E p l e R s m args below meth c A nL kc ks Q ws pc' lv (.int (iI z) :: st)) : gG E p l e R s m args below meth c A nL kc ks Q ws pc lv (.int y :: .int x :: st) := by
  subst hp
  intro H locs ls hP hD hS hl
  refine lv_ishr C.1 C.2.1 hd ?_
  have h := iI_of (x >>> (y &&& 31))
  rw [h]
  exact kk _ (iI_rng _) H locs ls hP hD hS hl
theorem g_ldc (C : gC E p s m args meth c cc nL own ret A) {index : Nat} {v : Int32} (hc : Cond.constant own index v ∈ lw_g) (hd : decode cc pc = .ok (.ldc index, 2)) (hp : pc + 2 = pc') (kk : gG E p l e R s m args below meth c A nL kc ks Q ws pc' lv (.int v :: st)) : gG E p l e R s m args below meth c A nL kc ks Q ws pc lv st := by
  subst hp
  obtain ⟨hx, hb, -, hown, hts, -⟩ := C
  exact fun H locs ls hP hD hS hl => lv_ldc hx hb hown (hts _ hc) hd (kk H locs ls hP hD hS hl)
theorem g_sld (C : gC E p s m args meth c cc nL own ret A) {b L : Nat} {xs : Nat → Int32} (hXs : va_X b L xs s s.heap) (hbl : b < s.heap.size) (hbA : ¬ A b) {i : Int} (hin : 0 ≤ i ∧ i < (L : Int)) (hn : L ≤ 2147483647) (hd : decode cc pc = .ok (.iaload, 1)) (hp : pc + 1 = pc')
    (kk : ∀ z : Int, -2147483648 ≤ z ∧ z ≤ 2147483647 → gG E p l e R s m args below meth c A nL kc ks Q ws pc' lv (.int (iI z) :: st)) : gG E p l e R s m args below meth c A nL kc ks Q ws pc lv (.int (iI i) :: .ref b :: st) := by
  subst hp
  obtain ⟨hx, hb, -, hown, hts, hK, -⟩ := C
  intro H locs ls hP hD hS hl
  refine va_sld hx hb hXs hbl hbA hS (iI_in hin hn) hd ?_
  rw [iI_clamp (by omega)]
  have h := iI_of (xs i.toNat)
  rw [h]
  exact kk _ (iI_rng _) H locs ls hP hD hS hl
theorem g_slen (C : gC E p s m args meth c cc nL own ret A) {b L : Nat} {xs : Nat → Int32} (hXs : va_X b L xs s s.heap) (hbl : b < s.heap.size) (hbA : ¬ A b) (hd : decode cc pc = .ok (.arraylength, 1)) (hp : pc + 1 = pc')
    (kk : gG E p l e R s m args below meth c A nL kc ks Q ws pc' lv (.int (iI (L : Int)) :: st)) : gG E p l e R s m args below meth c A nL kc ks Q ws pc lv (.ref b :: st) := by
  subst hp
  obtain ⟨hx, hb, -, hown, hts, hK, -⟩ := C
  intro H locs ls hP hD hS hl
  refine va_slen hx hb hXs hbl hbA hS hd ?_
  have h : Int32.ofNat L = iI (L : Int) := by show Int32.ofNat L = Int32.ofInt L; rw [← Int32.ofInt_eq_ofNat]
  rw [h]
  exact kk H locs ls hP hD hS hl
theorem lg_cmp_self (x : Int64) : lg_cmp x x = 0 := by
  unfold lg_cmp
  rw [if_neg (by simp), if_pos rfl]
theorem g_lcmpE (C : gC E p s m args meth c cc nL own ret A) {x y : Int64} (hxy : x = y) (hd : decode cc pc = .ok (.lcmp, 1)) (hp : pc + 1 = pc') (kk : gG E p l e R s m args below meth c A nL kc ks Q ws pc' lv (.int (iI 0) :: st)) : gG E p l e R s m args below meth c A nL kc ks Q ws pc lv (.long y :: .long x :: st) := by
  subst hp; subst hxy
  intro H locs ls hP hD hS hl
  refine W.lcmp C.1 C.2.1 hd ?_
  rw [lg_cmp_self]
  exact kk H locs ls hP hD hS hl
end GS
/-- a number with its sign taken off -/
theorem and_nn (v : Int32) : 0 ≤ (v &&& 2147483647).toInt ∧ (v &&& 2147483647).toInt ≤ 2147483647 := by
  have h1 := iI_rng (v &&& 2147483647)
  refine ⟨?_, h1.2⟩
  have h2 : (v &&& 2147483647).toBitVec.msb = false := by
    show (v.toBitVec &&& (2147483647 : Int32).toBitVec).msb = false
    rw [BitVec.msb_and]
    have : ((2147483647 : Int32).toBitVec).msb = false := by decide
    rw [this, Bool.and_false]
  show 0 ≤ (v &&& 2147483647).toBitVec.toInt
  rw [BitVec.toInt_eq_toNat_of_msb h2]
  exact Int.natCast_nonneg _
def bel (v : Int32) (n : Int) : Int := (v &&& 2147483647).toInt % n
theorem bel_b (v : Int32) {n : Int} (h : 0 < n) : 0 ≤ bel v n ∧ bel v n < n := ⟨Int.emod_nonneg _ (by omega), Int.emod_lt_of_pos _ h⟩
abbrev r_L_below : Room := { frames := 0, cells := 0, slots := 0, locals := 0 }
theorem k_L_below (l : Launch) (E : gE) (v : Int32) (n : Int) (hn : 0 < n ∧ n ≤ 1000) : gK l E yL_below cL_below 2 (some .int) r_L_below [.int v, .int (iI n)] [] (some (.int (iI (bel v n)))) [] := by
  refine gK_by RL rfl mL_below [(0, .int v), (1, .int (iI n))] (Nat.le_of_ble_eq_true rfl) rfl ?_
  intro zp ze zs zm za zb zh zc zA zQ C Z
  refine g_iload_n C dL_below_0 rfl 0 rfl ?_
  refine g_ldc C wc7 dL_below_1 rfl ?_
  intro H locs ls hP hD hS hl
  refine lv_iand C.1 C.2.1 dL_below_3 ?_
  have h := iI_of (v &&& 2147483647)
  rw [h]
  have hb := and_nn v
  have k2 : gG E zp l ze r_L_below zs zm za zb zh zc zA 2 0 0 zQ [] 4 [(0, .int v), (1, .int (iI n))] [.int (iI (v &&& 2147483647).toInt)] := by
    refine g_iload_n C dL_below_4 rfl 1 rfl ?_
    refine g_irem C dL_below_5 rfl hb (by omega) ?_
    exact z_iret C Z rfl dL_below_6 rfl rfl
  exact k2 H locs ls hP hD hS hl
def cellΨ : Option Value → va_W → Prop := fun rv w => (∃ z : Int, (-2147483648 ≤ z ∧ z ≤ 2147483647) ∧ rv = some (.int (iI z))) ∧ w = []
abbrev r_L_cell : Room := { frames := 0, cells := 0, slots := 0, locals := 0 }
theorem k_L_cell (l : Launch) (E : gE) (sa : gTx) (b L : Nat) (xs : Nat → Int32) (k : Int) (hk : 0 ≤ k ∧ k ≤ 1000) (hL : L ≤ 260) : gKS l E yL_cell cL_cell 2 (some .int) r_L_cell [.ref b, .int (iI k)] [] sa b L xs cellΨ := by
  refine gKS_by RL rfl mL_cell [(0, .ref b), (1, .int (iI k))] (Nat.le_of_ble_eq_true rfl) rfl ?_
  intro zp ze zs zm za zb zh zc zA zQ C SX Z
  obtain ⟨hX, hNc, hXs, hbl, hbA⟩ := SX
  refine g_iload_n C dL_cell_0 rfl 1 rfl ?_
  refine g_aload_n C dL_cell_1 rfl 0 rfl ?_
  refine g_slen C hXs hbl hbA dL_cell_2 rfl ?_
  refine g_icmp_ge C dL_cell_3 12 (by decide) rfl (by omega) (by omega) (fun c3 => ?_) (fun c3 => ?_)
  · refine g_ldc C wc8 dL_cell_12 rfl ?_
    refine g_iload_n C dL_cell_14 rfl 1 rfl ?_
    refine g_iconst C dL_cell_15 rfl ?_
    refine g_iadd C dL_cell_16 rfl ?_
    refine g_imul (x := 790386105) C dL_cell_17 rfl ?_
    refine z_iretS C Z rfl ⟨⟨(iI (790386105 * (k + 3))).toInt, iI_rng _, ?_⟩, rfl⟩ dL_cell_18
    rw [← iI_of]
  · refine g_aload_n C dL_cell_6 rfl 0 rfl ?_
    refine g_iload_n C dL_cell_7 rfl 1 rfl ?_
    refine g_sld C hXs hbl hbA ⟨hk.1, by omega⟩ (by omega) dL_cell_8 rfl (fun z hz => ?_)
    refine g_goto C dL_cell_9 18 (by decide) ?_
    exact z_iretS C Z rfl ⟨⟨z, hz, rfl⟩, rfl⟩ dL_cell_18
section GL
variable {E : gE} {p : Program} {l : Launch} {e : Env} {R : Room} {s : State} {m : MethodId} {args : Array Value} {below : List Frame} {meth : Method} {c : Code} {A : Nat → Prop} {nL kc ks kc' ks' : Nat} {Q : State → Prop} {ws ws' : va_W} {pc pc' : Nat} {lv lv' : List (Nat × Value)} {st : List Value}
variable {cc : ByteArray} {ret : Option FieldType}
/-- below(v, n): some number under n -/
theorem g_below (C : gC E p s m args meth c cc nL RL ret A) {v : Int32} {n : Int} (hn : 0 < n ∧ n ≤ 1000) (hW : (st.map fun v => v.category).sum ≤ 8) (hR : 1 ≤ R.frames ∧ 21 ≤ R.locals) (hf : kc ≤ R.cells ∧ ks ≤ R.slots) (hd : decode cc pc = .ok (.invokestatic 18, 3)) (hp : pc + 3 = pc')
    (kk : ∀ z : Int, 0 ≤ z ∧ z < n → gG E p l e R s m args below meth c A nL kc ks Q ws pc' lv (.int (iI z) :: st)) : gG E p l e R s m args below meth c A nL kc ks Q ws pc lv (.int (iI n) :: .int v :: st) :=
  g_callS (As := [.int v, .int (iI n)]) (rest := st) (rv := some (.int (iI (bel v n)))) (w1 := []) C ws (k_L_below l E v n hn) mL_below wp460 wp459 rfl rfl hW hR hf rfl hd hp (kk _ (bel_b v hn.1))
/-- cell(s, k): some number -/
theorem g_cell (C : gC E p s m args meth c cc nL RL ret A) {sa : gTx} {b L : Nat} {xs : Nat → Int32} (SX : gSX sa b L xs A s) (hL : L ≤ 260) {k : Int} (hk : 0 ≤ k ∧ k ≤ 1000) (hW : (st.map fun v => v.category).sum ≤ 8) (hR : 1 ≤ R.frames ∧ 21 ≤ R.locals) (hf : kc ≤ R.cells ∧ ks ≤ R.slots) (hd : decode cc pc = .ok (.invokestatic 12, 3)) (hp : pc + 3 = pc')
    (kk : ∀ z : Int, -2147483648 ≤ z ∧ z ≤ 2147483647 → gG E p l e R s m args below meth c A nL kc ks Q ws pc' lv (.int (iI z) :: st)) : gG E p l e R s m args below meth c A nL kc ks Q ws pc lv (.int (iI k) :: .ref b :: st) := by
  refine g_callSS (As := [.ref b, .int (iI k)]) (rest := st) C SX (k_L_cell l E sa b L xs k hk hL) mL_cell wd651 wp463 rfl rfl hW hR hf hd hp ?_
  intro rv w1 h
  obtain ⟨⟨z, hz, rfl⟩, rfl⟩ := h
  exact kk z hz
end GL
