abbrev q_X9_addPump : Room := { frames := 9, cells := 1, slots := 6, locals := 180 }
set_option maxHeartbeats 4000000 in
set_option maxRecDepth 100000 in
theorem t_X9_addPump_s (l : Launch) (E : gE) (sa : gTx) (hfl : l.stackTraces = false) (o tr : Nat) (ad : Nat → Nat) (S : gS) (x y p f : Int) (hS : okT S) (hx : (-2147483648 ≤ x ∧ x ≤ 2147483647)) (hy : (-2147483648 ≤ y ∧ y ≤ 2147483647)) (hp : (-2147483648 ≤ p ∧ p ≤ 2147483647)) (hf : (-2147483648 ≤ f ∧ f ≤ 2147483647)) (hc : tC x y) (h : (1 ≤ p ∧ p ≤ 5) ∧ 0 ≤ f ∧ f ≤ 30) (h2 : ¬ (S.2 1 < 5 ∧ fstI (S.1 8) (10 * y + x) (S.2 1).toNat = -1)) : gKT l E yX9_addPump cX9_addPump 5 (some .int) q_X9_addPump [.ref o, .int (iI x), .int (iI y), .int (iI p), .int (iI f)] ([(o, .inr (8, [.ref (ad 0), .ref tr]))] ++ (wT E ad S)) sa "java/lang/IllegalStateException" ([(o, .inr (8, [.ref (ad 0), .ref tr]))] ++ (wT E ad S)) := by
  refine gKT_by RX9 rfl (by decide) mX9_addPump [(0, .ref o), (1, .int (iI x)), (2, .int (iI y)), (3, .int (iI p)), (4, .int (iI f))] (Nat.le_of_ble_eq_true rfl) rfl ?_
  intro zp ze zs zm za zb zh zc zA zQ hx9 C hX9 Z
  have hd := hc
  unfold tC at hd
  refine g_iload_n C dX9_addPump_0 rfl 1 rfl ?_
  refine g_iload_n C dX9_addPump_1 rfl 2 rfl ?_
  refine g_callS1 (As := [.int (iI x), .int (iI y)]) (rv := none) (kc' := 0) (ks' := 0) C (k_X9_checkCell_1 l E x y hc) mX9_checkCell wd412 wd411 rfl rfl (Nat.le_of_ble_eq_true rfl) ⟨Nat.le_of_ble_eq_true rfl, Nat.le_of_ble_eq_true rfl⟩ ⟨Nat.le_of_ble_eq_true rfl, Nat.le_of_ble_eq_true rfl⟩ rfl rfl dX9_addPump_2 rfl ?_
  refine g_iload_n C dX9_addPump_5 rfl 3 rfl ?_
  refine g_iconst C dX9_addPump_6 rfl ?_
  refine g_iconst C dX9_addPump_7 rfl ?_
  refine g_callS1 (As := [.int (iI p), .int (iI (1)), .int (iI (5))]) (rv := some (.int (iI (bI ((1) ≤ p ∧ p ≤ (5)))))) (kc' := 0) (ks' := 0) C (k_X9_isWithin l E p (1) (5) (by omega) (by omega) (by omega)) mX9_isWithin wd415 wd414 rfl rfl (Nat.le_of_ble_eq_true rfl) ⟨Nat.le_of_ble_eq_true rfl, Nat.le_of_ble_eq_true rfl⟩ ⟨Nat.le_of_ble_eq_true rfl, Nat.le_of_ble_eq_true rfl⟩ rfl rfl dX9_addPump_8 rfl ?_
  have n8 := bI_w ((1) ≤ p ∧ p ≤ (5))
  refine g_if_eq C dX9_addPump_11 29 (by decide) rfl (by omega) (fun c11 => ?_) (fun c11 => ?_)
  · skip
    refine g_iconst C dX9_addPump_29 rfl ?_
    exfalso; omega
  · skip
    refine g_iload C dX9_addPump_14 rfl 4 rfl ?_
    refine g_iconst C dX9_addPump_16 rfl ?_
    refine g_bipush C dX9_addPump_17 rfl rfl ?_
    refine g_callS1 (As := [.int (iI f), .int (iI (0)), .int (iI (30))]) (rv := some (.int (iI (bI ((0) ≤ f ∧ f ≤ (30)))))) (kc' := 0) (ks' := 0) C (k_X9_isWithin l E f (0) (30) (by omega) (by omega) (by omega)) mX9_isWithin wd415 wd414 rfl rfl (Nat.le_of_ble_eq_true rfl) ⟨Nat.le_of_ble_eq_true rfl, Nat.le_of_ble_eq_true rfl⟩ ⟨Nat.le_of_ble_eq_true rfl, Nat.le_of_ble_eq_true rfl⟩ rfl rfl dX9_addPump_19 rfl ?_
    have n19 := bI_w ((0) ≤ f ∧ f ≤ (30))
    refine g_if_eq C dX9_addPump_22 29 (by decide) rfl (by omega) (fun c22 => ?_) (fun c22 => ?_)
    · skip
      refine g_iconst C dX9_addPump_29 rfl ?_
      exfalso; omega
    · skip
      refine g_iconst C dX9_addPump_25 rfl ?_
      refine g_goto C dX9_addPump_26 30 (by decide) ?_
      refine g_callS1 (As := [.int (iI (1))]) (rv := none) (kc' := 0) (ks' := 0) C (k_X9_checkArgument_1 l E) mX9_checkArgument wd489 wd488 rfl rfl (Nat.le_of_ble_eq_true rfl) ⟨Nat.le_of_ble_eq_true rfl, Nat.le_of_ble_eq_true rfl⟩ ⟨Nat.le_of_ble_eq_true rfl, Nat.le_of_ble_eq_true rfl⟩ rfl rfl dX9_addPump_30 rfl ?_
      refine g_aload_n C dX9_addPump_33 rfl 0 rfl ?_
      refine g_get (v := .ref (ad 0)) (T := TX9) (N := 2) (ci := 8) C in_X9 0 rfl rfl 0 (by decide) wd244 (Or.inl rfl) rfl dX9_addPump_34 rfl ?_
      refine g_get (v := .ref (ad 7)) (T := TX7) (N := 8) (ci := 6) C in_X7 1 rfl rfl 2 (by decide) wd217 (Or.inl rfl) rfl dX9_addPump_37 rfl ?_
      refine g_iload_n C dX9_addPump_40 rfl 1 rfl ?_
      refine g_iload_n C dX9_addPump_41 rfl 2 rfl ?_
      refine g_callS1 (As := [.int (iI x), .int (iI y)]) (rv := some (.int (iI (10 * y + x)))) (kc' := 0) (ks' := 0) C (k_X9_placeOf l E x y) mX9_placeOf wd508 wd507 rfl rfl (Nat.le_of_ble_eq_true rfl) ⟨Nat.le_of_ble_eq_true rfl, Nat.le_of_ble_eq_true rfl⟩ ⟨Nat.le_of_ble_eq_true rfl, Nat.le_of_ble_eq_true rfl⟩ rfl rfl dX9_addPump_42 rfl ?_
      refine g_perm (ws1 := wT E ad S ++ ([(o, .inr (8, [.ref (ad 0), .ref tr]))])) pm_10 ?_
      refine g_callUf (As := [.int (iI (10 * y + x))]) (rv := some (.int (iI (bI ((S.2 1) < 5 ∧ fstI (S.1 8) (10 * y + x) ((S.2 1)).toNat = -1))))) (w1 := wT E ad S) (kc' := 0) (ks' := 0) C "FloodWardens$Numbered" RX5 ([(o, .inr (8, [.ref (ad 0), .ref tr]))]) (k_X4_canComeTo_X5 l E ad S (10 * y + x) hS (by omega)) mX4_canComeTo ⟨wd556, wd555, wd553⟩ rfl (by decide +kernel) wd552 7 4 rfl rfl rfl rfl rfl (Nat.le_of_ble_eq_true rfl) ⟨Nat.le_of_ble_eq_true rfl, Nat.le_of_ble_eq_true rfl⟩ ⟨Nat.le_of_ble_eq_true rfl, Nat.le_of_ble_eq_true rfl⟩ rfl rfl rfl dX9_addPump_45 rfl ?_
      refine g_perm (ws1 := [(o, .inr (8, [.ref (ad 0), .ref tr]))] ++ (wT E ad S)) pm_10 ?_
      have n45 := bI_w ((S.2 1) < 5 ∧ fstI (S.1 8) (10 * y + x) ((S.2 1)).toNat = -1)
      rw [show (bI ((S.2 1) < 5 ∧ fstI (S.1 8) (10 * y + x) ((S.2 1)).toNat = -1)) = 0 from by omega]
      exact g_callST (As := [.int (iI (0))]) ([(o, .inr (8, [.ref (ad 0), .ref tr]))] ++ (wT E ad S)) C hX9 (t_X9_checkState l E sa hfl) (fun _ => gPX_blind) mX9_checkState wd520 wd519 rfl rfl (Nat.le_of_ble_eq_true rfl) ⟨Nat.le_of_ble_eq_true rfl, Nat.le_of_ble_eq_true rfl⟩ ⟨Nat.le_of_ble_eq_true rfl, Nat.le_of_ble_eq_true rfl⟩ rfl dX9_addPump_48 (g_tout C hx9 Z rfl ⟨Nat.le_of_ble_eq_true rfl, Nat.le_of_ble_eq_true rfl⟩)
