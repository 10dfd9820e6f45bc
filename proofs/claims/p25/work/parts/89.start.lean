/-! the start -/
theorem gnd_v (q : Int) : gnd q = if 0 ≤ q ∧ q < (80 : Nat) then 2 else 0 := riseB_v 2 _ 80 q
theorem gnd_b : bnd gnd 0 9 := fun q => by
  rw [gnd_v]
  split <;> omega
theorem z_b {lo hi : Int} (h : lo ≤ 0 ∧ 0 ≤ hi) : bnd (fun _ => 0) lo hi := fun _ => h
theorem okT_0 : okT gT0 := ⟨⟨gnd_b, z_b (by omega), z_b (by omega), z_b (by omega), z_b (by omega), z_b (by omega), z_b (by omega), z_b (by omega), z_b (by omega), z_b (by omega), z_b (by omega), z_b (by omega), z_b (by omega), z_b (by omega), z_b (by omega), z_b (by omega), z_b (by omega), z_b (by omega), z_b (by omega), z_b (by omega), z_b (by omega)⟩, (by decide : (0 : Int) ≤ 0 ∧ (0 : Int) ≤ 5), (by decide : (0 : Int) ≤ 0 ∧ (0 : Int) ≤ 4), (by decide : (0 : Int) ≤ 0 ∧ (0 : Int) ≤ 4), (by decide : (0 : Int) ≤ 0 ∧ (0 : Int) ≤ 10), (by decide : (0 : Int) ≤ 0 ∧ (0 : Int) ≤ 3), (by decide : (0 : Int) ≤ 0 ∧ (0 : Int) ≤ 80)⟩
theorem okM_0 : okM gS0 := ⟨⟨z_b (by omega), z_b (by omega), z_b (by omega), z_b (by omega), z_b (by omega)⟩, (by decide : (0 : Int) ≤ 0 ∧ (0 : Int) ≤ 5), (by decide : (0 : Int) ≤ 0 ∧ (0 : Int) ≤ 4), (by decide : (0 : Int) ≤ 0 ∧ (0 : Int) ≤ 4), (by decide : (0 : Int) ≤ 0 ∧ (0 : Int) ≤ 10), (by decide : (0 : Int) ≤ 0 ∧ (0 : Int) ≤ 3)⟩
theorem z_k {lo hi : Int} (h : lo ≤ 0 ∧ 0 ≤ hi) : ∀ _ : Int, lo ≤ (0 : Int) ∧ (0 : Int) ≤ hi := fun _ => h
theorem okS_0 : okS gS0 := ⟨z_b (by omega), z_b (by omega), z_b (by omega), z_k (by omega), z_k (by omega), z_k (by omega), z_k (by omega), z_k (by omega), z_k (by omega), z_k (by omega), z_k (by omega), z_k (by omega), z_k (by omega), z_k (by omega), z_k (by omega), z_k (by omega)⟩
theorem okS_1a : okS gS1 := okS_s1 okS_0 gnd_b
theorem inv_st : inv gT0 gS0 gS1 := by
  have e0 : ∀ k : Int, 0 ≤ k → k < gS0.2 1 → False := fun k a b => by
    have b : k < 0 := b
    omega
  refine ⟨⟨⟨⟨⟨fun _ _ _ => rfl, fun _ _ _ => rfl, fun _ _ _ => rfl, fun _ _ _ => rfl⟩, ⟨rfl, (by decide : (0 : Int) ≤ 5), fun k a b => (e0 k a b).elim, fun _ _ _ => rfl⟩, rfl, fun k a b => (e0 k a b).elim⟩, ⟨rfl, (by decide : (0 : Int) ≤ 4), fun k a b => (e0 k a b).elim, fun _ _ _ => ⟨rfl, rfl⟩⟩, ⟨rfl, rfl, fun k a b => (e0 k a b).elim⟩, rfl, fun k a b => (e0 k a b).elim⟩, rfl⟩, okT_0, okM_0, okS_1a, fun k a b => (e0 k a b).elim, z_b (by omega), fun _ _ _ => rfl⟩
theorem arr_of {s : State} {a9 : Array Value} {ty : FieldType} (h : (Cond.arrayClass ty).before a9 s = true) : ∃ cA : ClassId, ArrOfT s cA ty ∧ s.vm.findClass ("[" ++ ty.toString) = some cA := by
  obtain ⟨cA, kA, comp, h1, h2, h3⟩ := Cond.arrayClass_spec h
  exact ⟨cA, fun n z => ⟨fun k h => (by cases h), kA, h2, comp, h3⟩, h1⟩
theorem kn_at {s : State} {a9 : Array Value} (hg : ∀ w ∈ lw_g, w.before a9 s = true) : ∃ E : gE, va_K E.1 vwCl (gT E) s := by
  have h : ∀ k : Nat, ∃ z : ClassId × (Nat → Nat), ∀ q : vw_C, vwCl[k]? = some q → u_Kn s q.1 q.2.1 q.2.2 z.1 z.2 := by
    intro k
    have hk : k = 0 ∨ k = 1 ∨ k = 2 ∨ k = 3 ∨ k = 4 ∨ k = 5 ∨ k = 6 ∨ k = 7 ∨ k = 8 ∨ 9 ≤ k := by omega
    rcases hk with hk | hk | hk | hk | hk | hk | hk | hk | hk | hk
    · subst hk
      obtain ⟨cC, iS, h⟩ := u_known (C := RX0) (T := TX0) (N := 3) (n := 3) hg in_X0 (hg _ wd180)
      exact ⟨(cC, iS), fun q hq => by cases hq; exact h⟩
    · subst hk
      obtain ⟨cC, iS, h⟩ := u_known (C := RX1) (T := TX1) (N := 3) (n := 3) hg in_X1 (hg _ wd128)
      exact ⟨(cC, iS), fun q hq => by cases hq; exact h⟩
    · subst hk
      obtain ⟨cC, iS, h⟩ := u_known (C := RX2) (T := TX2) (N := 5) (n := 5) hg in_X2 (hg _ wd158)
      exact ⟨(cC, iS), fun q hq => by cases hq; exact h⟩
    · subst hk
      obtain ⟨cC, iS, h⟩ := u_known (C := RX3) (T := TX3) (N := 5) (n := 5) hg in_X3 (hg _ wd36)
      exact ⟨(cC, iS), fun q hq => by cases hq; exact h⟩
    · subst hk
      obtain ⟨cC, iS, h⟩ := u_known (C := RX5) (T := TX5) (N := 6) (n := 6) hg in_X5 (hg _ wd68)
      exact ⟨(cC, iS), fun q hq => by cases hq; exact h⟩
    · subst hk
      obtain ⟨cC, iS, h⟩ := u_known (C := RX6) (T := TX6) (N := 5) (n := 5) hg in_X6 (hg _ wd140)
      exact ⟨(cC, iS), fun q hq => by cases hq; exact h⟩
    · subst hk
      obtain ⟨cC, iS, h⟩ := u_known (C := RX7) (T := TX7) (N := 8) (n := 8) hg in_X7 (hg _ wd30)
      exact ⟨(cC, iS), fun q hq => by cases hq; exact h⟩
    · subst hk
      obtain ⟨cC, iS, h⟩ := u_known (C := RX8) (T := TX8) (N := 4) (n := 4) hg in_X8 (hg _ wd192)
      exact ⟨(cC, iS), fun q hq => by cases hq; exact h⟩
    · subst hk
      obtain ⟨cC, iS, h⟩ := u_known (C := RX9) (T := TX9) (N := 2) (n := 2) hg in_X9 (hg _ wd22)
      exact ⟨(cC, iS), fun q hq => by cases hq; exact h⟩
    · obtain ⟨cC, iS, h⟩ := u_known (C := RX9) (T := TX9) (N := 2) (n := 2) hg in_X9 (hg _ wd22)
      refine ⟨(cC, iS), fun q hq => ?_⟩
      rw [List.getElem?_eq_none (by show 9 ≤ k; exact hk)] at hq
      cases hq
  obtain ⟨g, hgk⟩ := Classical.axiomOfChoice h
  obtain ⟨cI, aI, fI⟩ := arr_of (hg _ wd66)
  obtain ⟨cZ, aZ, fZ⟩ := arr_of (hg _ wd126)
  refine ⟨((fun k => (g k).1, fun k => (g k).2), cI, cZ, cZ), fun k q hq => hgk k q hq, fun k q hq => ?_⟩
  match k, hq with
  | 0, hq => cases hq; exact ⟨aI, fI⟩
  | 1, hq => cases hq; exact ⟨aZ, fZ⟩
  | k + 2, hq => simp [gT] at hq
theorem gNF_in : gNF.all (fun q => decide (Cond.fieldLinkNest "FloodWardensModel" q.1 "FloodWardensModel$State" q.2.1 q.2.2 "FloodWardensModel" ∈ lw_tbl)) = true := by decide +kernel
theorem gNM_in : gNM.all (fun q => decide (Cond.methodLinkNest q.1 q.2.1 ⟨q.2.2.1, "<init>", "()V"⟩ q.2.2.2 ∈ lw_tbl)) = true := by decide +kernel
theorem gN_at {s : State} {a9 : Array Value} (hts : ∀ w ∈ lw_tbl, w.before a9 s = true) : gN s :=
  ⟨fun q hq => va_Nw.of rfl (hts _ (of_decide_eq_true (List.all_eq_true.mp gNF_in q hq))), fun q hq => va_Nw.of rfl (hts _ (of_decide_eq_true (List.all_eq_true.mp gNM_in q hq)))⟩
theorem txB_in : txB.all (fun w => decide (w ∈ lw_tbl)) = true := by decide +kernel
theorem str_at {s : State} {a9 : Array Value} {own tx : String} {k : Nat} (h1 : (Cond.stringRef own k tx).before a9 s = true) (h2 : (Cond.exactly (Term.string own k) "java/lang/String").before a9 s = true) : ∃ a : Nat, vk_R own k tx a s := by
  obtain ⟨a, c, cA, kA, q1, q2, q3, q4, q5, q6, -⟩ := Cond.exactly_spec (args := a9) (first := s) (o := none) (s := s) (idx := []) (t := .string own k) (cls := "java/lang/String") h2
  exact ⟨a, vk_R.of h1 q1⟩
theorem gX_at {s : State} {a9 : Array Value} {A : Nat → Prop} (hts : ∀ w ∈ lw_tbl, w.before a9 s = true) (hgv : (Jvm.Cond.and given_1 narrow_1).before a9 s = true) (hA : ∀ a : Nat, a < s.heap.size → ¬ A a) : ∃ sa : gTx, gX sa A s s.heap := by
  have hs := flat_of_before _ hgv
  obtain ⟨a1, h1⟩ := str_at (own := "FloodWardens") (k := 201) (tx := "there is no such thing to name") (hts _ (by decide +kernel)) (hs _ (by decide +kernel))
  obtain ⟨a2, h2⟩ := str_at (own := "FloodWardens") (k := 208) (tx := "a number is out of its bounds") (hts _ (by decide +kernel)) (hs _ (by decide +kernel))
  obtain ⟨a3, h3⟩ := str_at (own := "FloodWardens") (k := 213) (tx := "there is no place for it") (hts _ (by decide +kernel)) (hs _ (by decide +kernel))
  exact ⟨(a1, a2, a3), fun w hw => va_Nw.of (tKeep_on (List.all_eq_true.mp txB_k w hw)) (hts _ (of_decide_eq_true (List.all_eq_true.mp txB_in w hw))), ⟨h1, h2, h3⟩,
    vx_Zqof (hts _ (by decide +kernel)) (hts _ (by decide +kernel)) (hs _ (by decide +kernel)) hA, vx_Zqof (hts _ (by decide +kernel)) (hts _ (by decide +kernel)) (hs _ (by decide +kernel)) hA⟩
theorem gNc_at {s : State} {a9 : Array Value} (hts : ∀ w ∈ lw_tbl, w.before a9 s = true) : gNc s := va_Nw.of rfl (hts _ (by decide +kernel))
