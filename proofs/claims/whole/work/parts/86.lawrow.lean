/-! THE CLAIM OUT OF ONE WALK OF THE LAW'S BODY. Your part is whole_start (and what it stands on); all else here is the same for every law, but numbers. -/
def R_law : String := "FloodWardensLaw"
def lw_P (b : Addr) (xs : List Int32) (args : Array Value) (s : State) : Prop := args = #[.ref b] ∧ s.IntsAt b xs ∧ xs.length ≤ 2560 ∧ (Jvm.Cond.and given_1 narrow_1).before args s = true
/-- what a walk over the start with the record d0 says of its end, said of the start itself -/
theorem lw_closed {s t : State} {o : Outcome} {d0 : Drawn} {L : List Loc} {k n : Nat} (hd0 : s.drawn.sameBut d0 lw_cs) (hv : ∃ v, o = .returned v) (hW : (s.setDrawn d0).WarmedH t.vm) (hs : (s.setDrawn d0).sameButNew ({ t with vm := s.vm } : State) L k n) : State.butDraws s t lw_cs (fun t1 => Framed s o t1 L k n) := by
  have h2 : t.drawn = d0 := congrArg State.drawn hs.1
  refine ⟨⟨hv, hW, State.sameButNew.setDrawn hs s.drawn⟩, ?_, by decide⟩
  rw [h2]
  exact hd0
def lw_Q (_ : Array Value) (s : State) (o : Outcome) (t : State) : Prop := o = .returned (some (.int 1)) ∧ State.butDraws s t lw_cs (fun t1 => Framed s o t1 [] 669734 7086902)
def lw_Z (below : List Frame) (a : Array Value) (s : State) : State → Prop := fun t => ∃ o, t.status = .running ∧ Ended t below o ∧ lw_Q a s o t
/-- the law's own end, with 1 on the stack, nothing written that was there before, its room as the claim has it; d0: the record of draws at this point (at the entry s.drawn: begin with 'refine W.base ?_' and 'have hd0 := Drawn.sameBut.refl s.drawn lw_cs') -/
theorem lw_ret {p : Program} {l : Launch} {e : Env} {s : State} {m : MethodId} {below : List Frame} {meth : Method} {c : Code} {b : Nat} {d0 : Drawn} (hd0 : s.drawn.sameBut d0 lw_cs) (hx : p.tables.exec = Jvm.exec) (hb : c.code = code) (hr : meth.sig.returnType = ret) (hlocks : meth.locks = false) {pc : Nat} {H : Heap} {ls : Array Slot} (hdg : decode code pc = .ok (.ireturn, 1)) : W p l e room_1 (s.setDrawn d0) m #[Value.ref b] below meth c H [] 669734 7086902 (lw_Z below #[Value.ref b] s) (F0 m pc ls [.int 1]) := by
  intro T hT X
  obtain ⟨fs, hret, hrun, hended, hW, hframe⟩ := X.leave (v := some (.int 1)) (hlocks := hlocks) (fun h => by rw [hr] at h; cases h)
  have hmeth' : T.vm.method? m = some meth := X.method'
  refine ⟨T.setFrames fs, ?_, .returned (some (.int 1)), hrun, hended, rfl, lw_closed hd0 ⟨_, rfl⟩ hW hframe⟩
  jvm_step X.here [X.here.top, hx, hb, hdg, hmeth', hr, ret, narrow_b1]
  (try refine ⟨rfl, ?_⟩); (try refine ⟨rfl, ?_⟩)
  first | (intro acts; rw [hret _ acts rfl rfl rfl]) | rw [hret _ _ rfl rfl rfl]
  exact Steps.refl _
/-- what holds at the law's entry: the machine, the code, the tables' words (any of lw_tbl by 'hts w (by decide +kernel)'), the script of L ints xs at the cell b, what the Statement gives of the start (any of its parts by flat_of_before) -/
def lw_At (p : Program) (s : State) (m : MethodId) (meth : Method) (c : Code) (b L : Nat) (xs : Nat → Int32) : Prop :=
  p.tables.exec = Jvm.exec ∧ c.code = code ∧ meth.sig.returnType = ret ∧ c.maxLocals = 9 ∧ s.vm.findClass R_law = some m.cls ∧ (∀ w ∈ lw_tbl, w.before #[Value.ref b] s = true) ∧ va_X b L xs s s.heap ∧ b < s.heap.size ∧ meth.locks = false ∧ (Jvm.Cond.and given_1 narrow_1).before #[Value.ref b] s = true
/-! rows of the law's own walk -/
def xv (xs : Nat → Int32) (z : Int) : Int := (xs z.toNat).toInt
theorem xv_b (xs : Nat → Int32) (z : Int) : -2147483648 ≤ xv xs z ∧ xv xs z ≤ 2147483647 := iI_rng _
theorem lg_cmp_self (x : Int64) : lg_cmp x x = 0 := by
  unfold lg_cmp
  rw [if_neg (by simp), if_pos rfl]
section GLAW
variable {E : gE} {p : Program} {l : Launch} {e : Env} {R : Room} {s : State} {m : MethodId} {args : Array Value} {below : List Frame} {meth : Method} {c : Code} {A : Nat → Prop} {nL kc ks kc' ks' : Nat} {Q : State → Prop} {ws ws' : va_W} {pc pc' : Nat} {lv lv' : List (Nat × Value)} {st : List Value}
variable {cc : ByteArray} {own : String} {ret : Option FieldType}
theorem g_ws {ws1 : va_W} (h : ws = ws1) (kk : gG E p l e R s m args below meth c A nL kc ks Q ws1 pc lv st) : gG E p l e R s m args below meth c A nL kc ks Q ws pc lv st := by
  rw [h]
  exact kk
theorem g_iand (C : gC E p s m args meth c cc nL own ret A) {x y : Int} (hd : decode cc pc = .ok (.iand, 1)) (hp : pc + 1 = pc') (kk : gG E p l e R s m args below meth c A nL kc ks Q ws pc' lv (.int (iI (iI x &&& iI y).toInt) :: st)) : gG E p l e R s m args below meth c A nL kc ks Q ws pc lv (.int (iI y) :: .int (iI x) :: st) := by
  subst hp
  intro H locs ls hP hD hS hl
  refine lv_iand C.1 C.2.1 hd ?_
  have h := iI_of (iI x &&& iI y)
  rw [h]
  exact kk H locs ls hP hD hS hl
theorem g_sld (C : gC E p s m args meth c cc nL own ret A) {b L : Nat} {xs : Nat → Int32} (hXs : va_X b L xs s s.heap) (hbl : b < s.heap.size) (hbA : ¬ A b) {i : Int} (hin : 0 ≤ i ∧ i < (L : Int)) (hn : L ≤ 2147483647) (hd : decode cc pc = .ok (.iaload, 1)) (hp : pc + 1 = pc')
    (kk : gG E p l e R s m args below meth c A nL kc ks Q ws pc' lv (.int (iI (xv xs i)) :: st)) : gG E p l e R s m args below meth c A nL kc ks Q ws pc lv (.int (iI i) :: .ref b :: st) := by
  subst hp
  obtain ⟨hx, hb, -, hown, hts, hK, -⟩ := C
  intro H locs ls hP hD hS hl
  refine va_sld hx hb hXs hbl hbA hS (iI_in hin hn) hd ?_
  rw [iI_clamp (by omega)]
  have h := iI_of (xs i.toNat)
  rw [h]
  exact kk H locs ls hP hD hS hl
theorem g_slen (C : gC E p s m args meth c cc nL own ret A) {b L : Nat} {xs : Nat → Int32} (hXs : va_X b L xs s s.heap) (hbl : b < s.heap.size) (hbA : ¬ A b) (hd : decode cc pc = .ok (.arraylength, 1)) (hp : pc + 1 = pc')
    (kk : gG E p l e R s m args below meth c A nL kc ks Q ws pc' lv (.int (iI (L : Int)) :: st)) : gG E p l e R s m args below meth c A nL kc ks Q ws pc lv (.ref b :: st) := by
  subst hp
  obtain ⟨hx, hb, -, hown, hts, hK, -⟩ := C
  intro H locs ls hP hD hS hl
  refine va_slen hx hb hXs hbl hbA hS hd ?_
  have h : Int32.ofNat L = iI (L : Int) := by show Int32.ofNat L = Int32.ofInt L; rw [← Int32.ofInt_eq_ofNat]
  rw [h]
  exact kk H locs ls hP hD hS hl
/-- an argument out of the script -/
theorem g_arg (C : gC E p s m args meth c cc nL own ret A) {b L : Nat} {xs : Nat → Int32} (hXs : va_X b L xs s s.heap) (hbl : b < s.heap.size) (hbA : ¬ A b) {i k : Int} (j0 j4 : Nat) (h0 : lv[j0]? = some (0, .ref b)) (h4 : lv[j4]? = some (4, .int (iI i))) (hin : 0 ≤ i + k ∧ i + k < (L : Int)) (hn : L ≤ 2147483647)
    (d0 : decode cc pc = .ok (.aload_n 0, 1)) (d1 : decode cc (pc + 1) = .ok (.iload 4, 2)) (d2 : decode cc (pc + 3) = .ok (.iconst k, 1)) (d3 : decode cc (pc + 4) = .ok (.iadd, 1)) (d4 : decode cc (pc + 5) = .ok (.iaload, 1)) (hp : pc + 6 = pc')
    (kk : gG E p l e R s m args below meth c A nL kc ks Q ws pc' lv (.int (iI (xv xs (i + k))) :: st)) : gG E p l e R s m args below meth c A nL kc ks Q ws pc lv st := by
  subst hp
  refine g_aload_n C d0 rfl j0 h0 ?_
  refine g_iload C d1 rfl j4 h4 ?_
  refine g_iconst C d2 rfl ?_
  refine g_iadd C d3 rfl ?_
  exact g_sld C hXs hbl hbA hin hn d4 rfl kk
theorem g_lcmpE (C : gC E p s m args meth c cc nL own ret A) {x y : Int64} (hxy : x = y) (hd : decode cc pc = .ok (.lcmp, 1)) (hp : pc + 1 = pc') (kk : gG E p l e R s m args below meth c A nL kc ks Q ws pc' lv (.int (iI 0) :: st)) : gG E p l e R s m args below meth c A nL kc ks Q ws pc lv (.long y :: .long x :: st) := by
  subst hp; subst hxy
  intro H locs ls hP hD hS hl
  refine W.lcmp C.1 C.2.1 hd ?_
  rw [lg_cmp_self]
  exact kk H locs ls hP hD hS hl
theorem g_dstore (C : gC E p s m args meth c cc nL own ret A) {i : Nat} {x : UInt64} (hd : decode cc pc = .ok (.dstore i, 2)) (hp : pc + 2 = pc') (hn : i + 1 < nL) (hl : (i, Value.double x) :: lv.filter (fun q => !(q.1 == i) && (!(q.1 == i + 1) && !(q.1 + 1 == i && q.2.category == 2))) = lv') (kk : gG E p l e R s m args below meth c A nL kc ks Q ws pc' lv' st) : gG E p l e R s m args below meth c A nL kc ks Q ws pc lv (.double x :: st) := by
  subst hp
  exact fun H locs ls hP hD hS h => lv_dstore C.1 C.2.1 hd h hn hl (fun ls h => kk H locs ls hP hD hS h)
theorem g_dload (C : gC E p s m args meth c cc nL own ret A) {i : Nat} {x : UInt64} (hd : decode cc pc = .ok (.dload i, 2)) (hp : pc + 2 = pc') (j : Nat) (hj : lv[j]? = some (i, .double x)) (kk : gG E p l e R s m args below meth c A nL kc ks Q ws pc' lv (.double x :: st)) : gG E p l e R s m args below meth c A nL kc ks Q ws pc lv st := by
  subst hp
  exact fun H locs ls hP hD hS hl => lv_dload C.1 C.2.1 hd (lv_at hl j hj) (kk H locs ls hP hD hS hl)
theorem g_dcmp (C : gC E p s m args meth c cc nL own ret A) {x y : UInt64} {op : CmpOp} (hd : decode cc pc = .ok (.dcmp op, 1)) (hp : pc + 1 = pc') (kk : gG E p l e R s m args below meth c A nL kc ks Q ws pc' lv (.int (iI (Op.cmpValue (FP.dcmp x y) op).toInt) :: st)) : gG E p l e R s m args below meth c A nL kc ks Q ws pc lv (.double y :: .double x :: st) := by
  subst hp
  intro H locs ls hP hD hS hl
  refine lv_dcmp C.1 C.2.1 hd ?_
  have h := iI_of (Op.cmpValue (FP.dcmp x y) op)
  rw [h]
  exact kk H locs ls hP hD hS hl
theorem g_newl (C : gC E p s m args meth c cc nL own ret A) {N : Nat} {n : Int} (harr : Cond.arrayClass .long ∈ lw_g) (hn : n = (N : Int)) (hN9 : N ≤ 50000000) (hf : kc + 1 ≤ R.cells ∧ ks + N ≤ R.slots) (hd : decode cc pc = .ok (.newarray .long, 2)) (hp : pc + 2 = pc')
    (kk : ∀ q : Nat, gG E p l e R s m args below meth c A nL (kc + 1) (ks + N) Q (ws ++ [(q, cj E N (fun _ => 0))]) pc' lv (.ref q :: st)) : gG E p l e R s m args below meth c A nL kc ks Q ws pc lv (.int (iI n) :: st) := by
  subst hp; subst hn
  obtain ⟨hx1, hb, hml, hown, hts, hK, hN, hA, hrt, hlk⟩ := C
  intro H locs ls hP hD hS hl
  refine va_newa (atype := .long) (ty := .long) (N' := N) (a0 := (N, .inr (.inl (fun _ => 0)))) hx1 hb (hts _ harr) rfl hK hP hD hS hA (fun cA => rfl) (by rw [iI_lt0 (by omega)]; omega) (by rw [iI_clamp (by omega)]; omega) ?_ hf.1 hf.2 hd (fun q cA H1 hK2 hP hD hS => ?_)
  · show N * 8 ≤ 536870912
    omega
  · have e1 := (hK.2 2 _ rfl).2
    have e2 := (hK2.2 3 _ rfl).2
    have e3 : cA = E.2.2.2 := Option.some.inj ((show s.vm.findClass _ = some cA from e2).symm.trans (show s.vm.findClass _ = some E.2.2.2 from e1))
    subst e3
    exact kk q H1 locs ls hP hD hS hl
end GLAW
/-! behind both calls -/
section GTAIL
variable {E : gE} {p : Program} {l : Launch} {e : Env} {s : State} {m : MethodId} {args : Array Value} {below : List Frame} {meth : Method} {c : Code} {A : Nat → Prop} {kc ks : Nat} {Q : State → Prop}
variable {o oc b : Nat} {ad bd am sd ed : Nat → Nat} {T H M S K : gS} {f : Nat → Int64} {i t b9 : Int}
abbrev lvL (i : Int) (oc am0 o b : Nat) : List (Nat × Value) := [(4, .int (iI i)), (3, .ref oc), (2, .ref am0), (1, .ref o), (0, .ref b)]
theorem g_thr {pc : Nat} {lv : List (Nat × Value)} {st : List Value} (C : gC E p s m args meth c cL_law 9 RL (some .boolean) A) (hr : kc ≤ 669734 ∧ ks ≤ 7086902) (hst : (st.map fun v => v.category).sum ≤ 8) (hd : decode cL_law pc = .ok (.invokevirtual 90, 3))
    (kk : gG E p l e room_1 s m args below meth c A 9 kc ks Q (wB E am sd ed M S K ++ wC E o ad bd oc T H f) (pc + 3) lv (.int (iI (M.2 0)) :: st)) : gG E p l e room_1 s m args below meth c A 9 kc ks Q (wB E am sd ed M S K ++ wC E o ad bd oc T H f) pc lv (.ref (am 0) :: st) := by
  refine g_callV (As := []) (rv := some (.int (iI (M.2 0)))) (w0 := wM E am (sd 0) (ed 0) M) (w1 := wM E am (sd 0) (ed 0) M) C ((wS E sd S ++ wS E ed K) ++ wC E o ad bd oc T H f) (k_X11_thrown l E am (sd 0) (ed 0) M) mX11_thrown iX11_thrown wd974 0 10 rfl rfl rfl rfl rfl hst ⟨Nat.le_of_ble_eq_true rfl, Nat.le_of_ble_eq_true rfl⟩ ⟨by show kc + 0 ≤ 669734; omega, by show ks + 0 ≤ 7086902; omega⟩ (List.append_assoc _ _ _) hd rfl ?_
  exact g_ws (List.append_assoc _ _ _).symm kk
theorem g_tail {pc : Nat} {off : Int} (C : gC E p s m args meth c cL_law 9 RL (some .boolean) A) (hr : kc ≤ 669734 ∧ ks ≤ 7086902) (h0 : M.2 0 = t) (ht : 0 ≤ t ∧ t ≤ 3) (hf : t = 0 → f 0 = lI b9)
    (d0 : decode cL_law pc = .ok (.aload_n 2, 1)) (d1 : decode cL_law (pc + 1) = .ok (.invokevirtual 90, 3)) (d4 : decode cL_law (pc + 4) = .ok (.iload 5, 2)) (d6 : decode cL_law (pc + 6) = .ok (.if_icmp .eq 5, 3)) (d11 : decode cL_law (pc + 11) = .ok (.iload 5, 2)) (d13 : decode cL_law (pc + 13) = .ok (.ifCond .ne 15, 3))
    (d16 : decode cL_law (pc + 16) = .ok (.aload_n 3, 1)) (d17 : decode cL_law (pc + 17) = .ok (.iconst 0, 1)) (d18 : decode cL_law (pc + 18) = .ok (.laload, 1)) (d19 : decode cL_law (pc + 19) = .ok (.iload 6, 2)) (d21 : decode cL_law (pc + 21) = .ok (.i2l, 1)) (d22 : decode cL_law (pc + 22) = .ok (.lcmp, 1)) (d23 : decode cL_law (pc + 23) = .ok (.ifCond .eq 5, 3)) (d28 : decode cL_law (pc + 28) = .ok (.goto off, 3)) (hoff : ((pc + 28 : Nat) : Int) + off = 1598)
    (kk : gG E p l e room_1 s m args below meth c A 9 kc ks Q (wC E o ad bd oc T H f ++ wB E am sd ed M S K) 1598 (lvL i oc (am 0) o b) []) :
    gG E p l e room_1 s m args below meth c A 9 kc ks Q (wB E am sd ed M S K ++ wC E o ad bd oc T H f) pc ((6, .int (iI b9)) :: (5, .int (iI t)) :: lvL i oc (am 0) o b) [] := by
  have kend : gG E p l e room_1 s m args below meth c A 9 kc ks Q (wB E am sd ed M S K ++ wC E o ad bd oc T H f) (pc + 28) ((6, .int (iI b9)) :: (5, .int (iI t)) :: lvL i oc (am 0) o b) [] := by
    refine g_goto C d28 1598 hoff ?_
    refine g_perm List.perm_append_comm ?_
    exact g_to [2, 3, 4, 5, 6] kk rfl rfl rfl
  refine g_aload_n C d0 rfl 4 rfl ?_
  refine g_thr C hr (Nat.le_of_ble_eq_true rfl) d1 ?_
  rw [h0]
  refine g_iload C d4 rfl 1 rfl ?_
  refine g_icmp_eq C d6 (pc + 11) (by omega) rfl (by omega) (by omega) (fun _ => ?_) (fun z => absurd rfl z)
  refine g_iload C d11 rfl 1 rfl ?_
  refine g_if_ne C d13 (pc + 28) (by omega) rfl (by omega) (fun _ => kend) (fun z => ?_)
  refine g_aload_n C d16 rfl 3 rfl ?_
  refine g_iconst C d17 rfl ?_
  refine g_lald C d18 rfl 89 rfl ⟨Int.le_refl 0, by omega⟩ (by omega) ?_
  refine g_iload C d19 rfl 0 rfl ?_
  refine g_i2l C d21 rfl ?_
  refine g_lcmpE C (hf z) d22 rfl ?_
  exact g_if_eq C d23 (pc + 28) (by omega) rfl (by omega) (fun _ => kend) (fun z => absurd rfl z)
theorem g_tailZ (C : gC E p s m args meth c cL_law 9 RL (some .boolean) A) (hr : kc ≤ 669734 ∧ ks ≤ 7086902) (h0 : M.2 0 = t) (ht : 0 ≤ t ∧ t ≤ 3) (hf : t = 0 → f 0 = lI b9) (hb9 : b9 = 0 ∨ b9 = 1)
    (kk : gG E p l e room_1 s m args below meth c A 9 kc ks Q (wC E o ad bd oc T H f ++ wB E am sd ed M S K) 1598 (lvL i oc (am 0) o b) []) :
    gG E p l e room_1 s m args below meth c A 9 kc ks Q (wB E am sd ed M S K ++ wC E o ad bd oc T H f) 485 ((6, .int (iI b9)) :: (5, .int (iI t)) :: lvL i oc (am 0) o b) [] := by
  have kend : gG E p l e room_1 s m args below meth c A 9 kc ks Q (wB E am sd ed M S K ++ wC E o ad bd oc T H f) 520 ((6, .int (iI b9)) :: (5, .int (iI t)) :: lvL i oc (am 0) o b) [] := by
    refine g_goto C dL_law_520 1598 (by decide) ?_
    refine g_perm List.perm_append_comm ?_
    exact g_to [2, 3, 4, 5, 6] kk rfl rfl rfl
  refine g_aload_n C dL_law_485 rfl 4 rfl ?_
  refine g_thr C hr (Nat.le_of_ble_eq_true rfl) dL_law_486 ?_
  rw [h0]
  refine g_iload C dL_law_489 rfl 1 rfl ?_
  refine g_icmp_eq C dL_law_491 496 (by decide) rfl (by omega) (by omega) (fun _ => ?_) (fun z => absurd rfl z)
  refine g_iload C dL_law_496 rfl 1 rfl ?_
  refine g_if_ne C dL_law_498 520 (by decide) rfl (by omega) (fun _ => kend) (fun z => ?_)
  refine g_aload_n C dL_law_501 rfl 3 rfl ?_
  refine g_iconst C dL_law_502 rfl ?_
  refine g_lald C dL_law_503 rfl 89 rfl ⟨Int.le_refl 0, by omega⟩ (by omega) ?_
  refine g_iload C dL_law_504 rfl 0 rfl ?_
  refine g_if_eq C dL_law_506 513 (by decide) rfl (by omega) (fun y => ?_) (fun y => ?_)
  · refine g_lconst (v := lI 0) C dL_law_513 rfl (by decide +kernel) ?_
    refine g_lcmpE C ((hf z).trans (by rw [y])) dL_law_514 rfl ?_
    exact g_if_eq C dL_law_515 520 (by decide) rfl (by omega) (fun _ => kend) (fun z => absurd rfl z)
  · have y1 : b9 = 1 := by omega
    refine g_lconst (v := lI 1) C dL_law_509 rfl (by decide +kernel) ?_
    refine g_goto C dL_law_510 514 (by decide) ?_
    refine g_lcmpE C ((hf z).trans (by rw [y1])) dL_law_514 rfl ?_
    exact g_if_eq C dL_law_515 520 (by decide) rfl (by omega) (fun _ => kend) (fun z => absurd rfl z)
end GTAIL
