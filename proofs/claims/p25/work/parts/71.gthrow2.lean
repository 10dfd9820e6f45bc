theorem tx_hat {L : List Cond} (hL : L.all (fun w => decide (w ∈ lw_tbl)) = true) (hB : ∀ w ∈ L, goodWord w = false → w ∈ txB) (hot : L.all vx_ot = true) {args : Array Value} {s : State} (hts : ∀ w ∈ lw_g, w.before args s = true) (hb : ∀ w ∈ txB, va_Nw w s) : ∀ w ∈ L, w.before args s = true := by
  intro w hw
  have h1 := List.all_eq_true.mp hot w hw
  cases hg : goodWord w with
  | true => exact hts w (List.mem_filter.mpr ⟨of_decide_eq_true (List.all_eq_true.mp hL w hw), hg⟩)
  | false =>
    refine va_Nw.use ?_ (hb w (hB w hw hg))
    unfold vx_ot at h1
    rw [hg] at h1
    simpa using h1
theorem txI_B : ∀ w ∈ txI, goodWord w = false → w ∈ txB := fun w hw hg => List.mem_filter.mpr ⟨List.mem_append_left _ (List.mem_append_left _ hw), by rw [hg]; rfl⟩
theorem txA_B : ∀ w ∈ txA, goodWord w = false → w ∈ txB := fun w hw hg => List.mem_filter.mpr ⟨List.mem_append_left _ (List.mem_append_right _ hw), by rw [hg]; rfl⟩
theorem txS_B : ∀ w ∈ txS, goodWord w = false → w ∈ txB := fun w hw hg => List.mem_filter.mpr ⟨List.mem_append_right _ hw, by rw [hg]; rfl⟩
section GT
variable {E : gE} {p : Program} {l : Launch} {e : Env} {R : Room} {s : State} {m : MethodId} {args : Array Value} {below : List Frame} {meth : Method} {c : Code} {A : Nat → Prop} {nL kc ks kc' ks' : Nat} {Q : State → Prop} {ws w1 : va_W} {pc pc' : Nat} {lv lv' : List (Nat × Value)} {st : List Value}
variable {cc : ByteArray} {own : String} {ret : Option FieldType}
/-- throw new X("text") -/
theorem g_throwS {sa : gTx} {X text : String} {ik is ic a : Nat} (C : gC E p s m args meth c cc nL "FloodWardens" ret A) (hX : gX sa A s s.heap) (hx : ∀ x ∈ c.exceptionTable.toList, False) (hfl : l.stackTraces = false) (Z : gZT E s args below A Q kc' ks' X w1)
    (hcls : Bundle.fit X = true) (hk : Cond.classLink "FloodWardens" ik X ∈ lw_g ∧ Cond.initialized X ∈ lw_g) (hstr : vk_R "FloodWardens" is text a s)
    (hL : (vx_atS "FloodWardens" ic X txN).all (fun w => decide (w ∈ lw_tbl)) = true) (hB : ∀ w ∈ vx_atS "FloodWardens" ic X txN, goodWord w = false → w ∈ txB) (hot : (vx_atS "FloodWardens" ic X txN).all vx_ot = true)
    (hw : ws = w1) (hst : st = []) (hR : 5 < R.frames ∧ 82 ≤ R.locals) (hf : kc + 1 ≤ R.cells ∧ ks + 6 ≤ R.slots) (hc : kc + 1 ≤ kc' ∧ ks + 6 ≤ ks')
    (d0 : decode cc pc = .ok (.new ik, 3)) (d3 : decode cc (pc + 3) = .ok (.dup, 1)) (d4 : decode cc (pc + 4) = .ok (.ldc is, 2)) (d6 : decode cc (pc + 6) = .ok (.invokespecial ic, 3)) (d9 : decode cc (pc + 9) = .ok (.athrow, 1)) : gG E p l e R s m args below meth c A nL kc ks Q ws pc lv st := by
  subst hw; subst hst
  obtain ⟨pre, rfl, rfl⟩ := Z
  obtain ⟨hx0, hb, hml, hown, hts, hK, hN, hA, hrt, hlk⟩ := C
  intro H locs ls hP hD hS hl
  refine vx_throwS (A := va_A pre s.heap.size) (sa := a) hx0 hb hfl hown hcls (names := txN) (by decide +kernel) (hts _ hk.1) (hts _ hk.2) hstr (tx_hat hL hB hot hts hX.1) ?_ hX.2.2.1 hX.2.2.2 hS (by rw [hl.1, hml]) d0 d3 d4 d6 d9 (fun x h => (hx x h).elim) hR.1 (by simpa [txN] using hR.2) hf.1 hf.2 hlk ?_ hS.2.2 hc.1 hc.2
  · intro w hw
    rcases List.mem_cons.mp hw with rfl | hw
    · rfl
    · rcases List.mem_cons.mp hw with rfl | hw
      · rfl
      · exact List.all_eq_true.mp hot w hw
  · intro t ht h1 h2
    refine ⟨rfl, ?_, hD, Nat.le_trans hS.1 h1, fun q hq hn => ?_⟩
    · intro k q hq
      exact (hP k q hq).kept (h2 q.1 (hP k q hq).lt)
    · rw [h2 q (Nat.lt_of_lt_of_le hq hS.1)]
      exact hS.2.1 q hq hn
end GT
