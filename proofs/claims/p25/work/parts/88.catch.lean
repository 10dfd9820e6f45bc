/-! the law's two helpers that catch -/
/-- the object and its two towns -/
abbrev wO (E : gE) (o : Nat) (ad bd : Nat → Nat) (T H : gS) : va_W := [(o, .inr (8, [.ref (ad 0), .ref (bd 0)]))] ++ (wT E ad T ++ wT E bd H)
abbrev r_L_pump : Room := { frames := 10, cells := 1, slots := 6, locals := 210 }
set_option maxHeartbeats 4000000 in
set_option maxRecDepth 100000 in
theorem k_L_pump (l : Launch) (E : gE) (sa : gTx) (hfl : l.stackTraces = false) (o tr : Nat) (ad : Nat → Nat) (T : gS) (x y p f : Int) (hT : okT T) (hc : tC x y) (h : (1 ≤ p ∧ p ≤ 5) ∧ 0 ≤ f ∧ f ≤ 30) : gKW l E yL_pump cL_pump 6 none [(0, 10, 13, 52)] r_L_pump [.ref o, .int (iI x), .int (iI y), .int (iI p), .int (iI f)] ([(o, .inr (8, [.ref (ad 0), .ref tr]))] ++ wT E ad T) sa none ([(o, .inr (8, [.ref (ad 0), .ref tr]))] ++ wT E ad (pumpT T (10 * y + x) p f)) := by
  have hd := hc
  unfold tC at hd
  by_cases h2 : T.2 1 < 5 ∧ fstI (T.1 8) (10 * y + x) (T.2 1).toNat = -1
  · refine gKW_by RL rfl (by decide) [(0, .ref o), (1, .int (iI x)), (2, .int (iI y)), (3, .int (iI p)), (4, .int (iI f))] (Nat.le_of_ble_eq_true rfl) rfl ?_
    intro zp ze zs zm za zb zh zc zA zQ ht C hX hNc Z
    refine g_aload_n C dL_pump_0 rfl 0 rfl ?_
    refine g_iload_n C dL_pump_1 rfl 1 rfl ?_
    refine g_iload_n C dL_pump_2 rfl 2 rfl ?_
    refine g_iload_n C dL_pump_3 rfl 3 rfl ?_
    refine g_iload C dL_pump_4 rfl 4 rfl ?_
    refine g_callV0 (As := [.int (iI x), .int (iI y), .int (iI p), .int (iI f)]) (rv := some (.int (iI (T.2 1)))) (w1 := [(o, .inr (8, [.ref (ad 0), .ref tr]))] ++ wT E ad (setUpS T (10 * y + x) p f)) (kc' := 0) (ks' := 0) C (k_X9_addPump l E o tr ad T x y p f hT (by omega) (by omega) (by omega) (by omega) hc h h2) mX9_addPump iX9_addPump wp724 0 8 rfl rfl rfl rfl rfl (Nat.le_of_ble_eq_true rfl) ⟨Nat.le_of_ble_eq_true rfl, Nat.le_of_ble_eq_true rfl⟩ ⟨Nat.le_of_ble_eq_true rfl, Nat.le_of_ble_eq_true rfl⟩ rfl rfl dL_pump_6 rfl ?_
    refine g_pop C dL_pump_9 rfl rfl ?_
    refine g_goto C dL_pump_10 16 (by decide) ?_
    refine g_widen (kc' := 1) (ks' := 6) (by decide) (by decide) ?_
    exact z_vret C Z dL_pump_16 rfl (by unfold pumpT; rw [if_pos h2])
  · refine gKW_by RL rfl (by decide) [(0, .ref o), (1, .int (iI x)), (2, .int (iI y)), (3, .int (iI p)), (4, .int (iI f))] (Nat.le_of_ble_eq_true rfl) rfl ?_
    intro zp ze zs zm za zb zh zc zA zQ ht C hX hNc Z
    refine g_aload_n C dL_pump_0 rfl 0 rfl ?_
    refine g_iload_n C dL_pump_1 rfl 1 rfl ?_
    refine g_iload_n C dL_pump_2 rfl 2 rfl ?_
    refine g_iload_n C dL_pump_3 rfl 3 rfl ?_
    refine g_iload C dL_pump_4 rfl 4 rfl ?_
    refine g_callVT (As := [.int (iI x), .int (iI y), .int (iI p), .int (iI f)]) [] C hX (t_X9_addPump_s l E sa hfl o tr ad T x y p f hT (by omega) (by omega) (by omega) (by omega) hc h h2) mX9_addPump iX9_addPump wp724 0 8 rfl rfl rfl rfl rfl (Nat.le_of_ble_eq_true rfl) ⟨Nat.le_of_ble_eq_true rfl, Nat.le_of_ble_eq_true rfl⟩ ⟨Nat.le_of_ble_eq_true rfl, Nat.le_of_ble_eq_true rfl⟩ (List.append_nil _).symm dL_pump_6 ?_
    refine g_tcatch C [(0, 10, 13, 52)] ht [] ⟨0, 10, 13, 52⟩ [] rfl (fun z hz => by simp at hz) rfl (by decide) wp723 hNc 13 rfl (fun zq => ?_)
    refine g_astore C dL_pump_13 rfl (by decide) rfl ?_
    refine g_widen (kc' := 1) (ks' := 6) (by decide) (by decide) ?_
    exact z_vret C Z dL_pump_15 rfl (by unfold pumpT; rw [if_neg h2, List.append_nil])
abbrev r_L_isRefuge : Room := { frames := 10, cells := 0, slots := 0, locals := 210 }
set_option maxHeartbeats 4000000 in
set_option maxRecDepth 100000 in
theorem k_L_isRefuge (l : Launch) (E : gE) (sa : gTx) (o tr : Nat) (ad : Nat → Nat) (T : gS) (k : Int) (hT : okT T) (hk : 0 ≤ k ∧ k < T.2 3) (hr : 1 ≤ T.1 18 k) : gKW l E yL_isRefuge cL_isRefuge 3 (some .boolean) [(0, 14, 15, 90)] r_L_isRefuge [.ref o, .int (iI k)] ([(o, .inr (8, [.ref (ad 0), .ref tr]))] ++ wT E ad T) sa (some (.int (iI 1))) ([(o, .inr (8, [.ref (ad 0), .ref tr]))] ++ wT E ad T) := by
  have n3 := okT_i3 hT
  have b18 := okT_18 hT k
  refine gKW_by RL rfl (by decide) [(0, .ref o), (1, .int (iI k))] (Nat.le_of_ble_eq_true rfl) rfl ?_
  intro zp ze zs zm za zb zh zc zA zQ ht C hX hNc Z
  refine g_aload_n C dL_isRefuge_0 rfl 0 rfl ?_
  refine g_iload_n C dL_isRefuge_1 rfl 1 rfl ?_
  refine g_iconst C dL_isRefuge_2 rfl ?_
  refine g_callV0 (As := [.int (iI k), .int (iI 2)]) (rv := some (.int (iI (T.1 18 k)))) (w1 := [(o, .inr (8, [.ref (ad 0), .ref tr]))] ++ wT E ad T) (kc' := 0) (ks' := 0) C (k_X9_refuge l E o tr ad T k 2 hT (by omega) (by omega) hk (by omega)) mX9_refuge iX9_refuge wp182 0 8 rfl rfl rfl rfl rfl (Nat.le_of_ble_eq_true rfl) ⟨Nat.le_of_ble_eq_true rfl, Nat.le_of_ble_eq_true rfl⟩ ⟨Nat.le_of_ble_eq_true rfl, Nat.le_of_ble_eq_true rfl⟩ rfl rfl dL_isRefuge_3 rfl ?_
  refine g_if_le C dL_isRefuge_6 13 (by decide) rfl (by omega) (fun z => absurd z (by omega)) (fun _ => ?_)
  refine g_iconst C dL_isRefuge_9 rfl ?_
  refine g_goto C dL_isRefuge_10 14 (by decide) ?_
  exact z_iret C Z (z_nar (Or.inr rfl)) dL_isRefuge_14 rfl rfl
section GL2
variable {E : gE} {p : Program} {l : Launch} {e : Env} {R : Room} {s : State} {m : MethodId} {args : Array Value} {below : List Frame} {meth : Method} {c : Code} {A : Nat → Prop} {nL kc ks kc' ks' : Nat} {Q : State → Prop} {ws ws' wr : va_W} {pc pc' : Nat} {lv lv' : List (Nat × Value)} {st : List Value}
variable {cc : ByteArray} {ret : Option FieldType} {sa : gTx} {b L : Nat} {xs : Nat → Int32} {o : Nat} {ad bd : Nat → Nat} {T H : gS}
theorem g_pump (hfl : l.stackTraces = false) (C : gC E p s m args meth c cc nL RL ret A) (SX : gSX sa b L xs A s) {x y pw fu : Int} (hT : okT T) (hc : tC x y) (h : (1 ≤ pw ∧ pw ≤ 5) ∧ 0 ≤ fu ∧ fu ≤ 30) (hW : (st.map fun v => v.category).sum ≤ 8) (hR : 11 ≤ R.frames ∧ 235 ≤ R.locals) (hf : kc + 1 ≤ R.cells ∧ ks + 6 ≤ R.slots) (hd : decode cc pc = .ok (.invokestatic 32, 3)) (hp : pc + 3 = pc')
    (kk : gG E p l e R s m args below meth c A nL (kc + 1) (ks + 6) Q (wO E o ad bd (pumpT T (10 * y + x) pw fu) H) pc' lv st) : gG E p l e R s m args below meth c A nL kc ks Q (wO E o ad bd T H) pc lv (.int (iI fu) :: .int (iI pw) :: .int (iI y) :: .int (iI x) :: .ref o :: st) :=
  g_callSW (As := [.ref o, .int (iI x), .int (iI y), .int (iI pw), .int (iI fu)]) (rest := st) (n := 5) (wT E bd H) C SX.1 SX.2.1 (k_L_pump l E sa hfl o (bd 0) ad T x y pw fu hT hc h) wp722 wd0 (by decide +kernel) (by decide +kernel) wd658 wp720 rfl rfl hW hR hf rfl hd hp kk
theorem g_isRef (C : gC E p s m args meth c cc nL RL ret A) (SX : gSX sa b L xs A s) {k : Int} (hT : okT T) (hk : 0 ≤ k ∧ k < T.2 3) (hr : 1 ≤ T.1 18 k) (hW : (st.map fun v => v.category).sum ≤ 8) (hR : 11 ≤ R.frames ∧ 232 ≤ R.locals) (hf : kc ≤ R.cells ∧ ks ≤ R.slots) (hd : decode cc pc = .ok (.invokestatic 81, 3)) (hp : pc + 3 = pc') (hw : ws = [(o, .inr (8, [.ref (ad 0), .ref (bd 0)]))] ++ wT E ad T ++ wr)
    (kk : gG E p l e R s m args below meth c A nL kc ks Q ws pc' lv (.int (iI 1) :: st)) : gG E p l e R s m args below meth c A nL kc ks Q ws pc lv (.int (iI k) :: .ref o :: st) := by
  refine g_callSW (As := [.ref o, .int (iI k)]) (rest := st) (n := 2) wr C SX.1 SX.2.1 (k_L_isRefuge l E sa o (bd 0) ad T k hT hk hr) wp795 wd0 (by decide +kernel) (by decide +kernel) wp794 wp793 rfl rfl hW hR hf hw hd hp ?_
  rw [← hw]
  exact kk
end GL2
