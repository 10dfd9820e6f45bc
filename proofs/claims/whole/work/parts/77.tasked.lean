set_option maxHeartbeats 4000000 in
set_option maxRecDepth 100000 in
theorem t_X9_cell_w (l : Launch) (E : gE) (sa : gTx) (hfl : l.stackTraces = false) (o tr : Nat) (ad : Nat → Nat) (S : gS) (x y what : Int) (hS : okT S) (hx : (-2147483648 ≤ x ∧ x ≤ 2147483647)) (hy : (-2147483648 ≤ y ∧ y ≤ 2147483647)) (hwhat : (-2147483648 ≤ what ∧ what ≤ 2147483647)) (hc : tC x y) (h : ¬ (0 ≤ what ∧ what ≤ 5)) : gKT l E yX9_cell cX9_cell 4 (some .int) q_X9_cell [.ref o, .int (iI x), .int (iI y), .int (iI what)] ([(o, .inr (8, [.ref (ad 0), .ref tr]))] ++ (wT E ad S)) sa "java/lang/IndexOutOfBoundsException" ([(o, .inr (8, [.ref (ad 0), .ref tr]))] ++ (wT E ad S)) := by
  refine gKT_by RX9 rfl (by decide) mX9_cell [(0, .ref o), (1, .int (iI x)), (2, .int (iI y)), (3, .int (iI what))] (Nat.le_of_ble_eq_true rfl) rfl ?_
  intro zp ze zs zm za zb zh zc zA zQ hx9 C hX9 Z
  have hd := hc
  unfold tC at hd
  refine g_iload_n C dX9_cell_0 rfl 1 rfl ?_
  refine g_iload_n C dX9_cell_1 rfl 2 rfl ?_
  refine g_callS1 (As := [.int (iI x), .int (iI y)]) (rv := none) (kc' := 0) (ks' := 0) C (k_X9_checkCell_1 l E x y hc) mX9_checkCell wd412 wd411 rfl rfl (Nat.le_of_ble_eq_true rfl) ⟨Nat.le_of_ble_eq_true rfl, Nat.le_of_ble_eq_true rfl⟩ ⟨Nat.le_of_ble_eq_true rfl, Nat.le_of_ble_eq_true rfl⟩ rfl rfl dX9_cell_2 rfl ?_
  refine g_iload_n C dX9_cell_5 rfl 3 rfl ?_
  refine g_iconst C dX9_cell_6 rfl ?_
  refine g_iconst C dX9_cell_7 rfl ?_
  refine g_callS1 (As := [.int (iI what), .int (iI (0)), .int (iI (5))]) (rv := some (.int (iI (bI ((0) ≤ what ∧ what ≤ (5)))))) (kc' := 0) (ks' := 0) C (k_X9_isWithin l E what (0) (5) (by omega) (by omega) (by omega)) mX9_isWithin wd415 wd414 rfl rfl (Nat.le_of_ble_eq_true rfl) ⟨Nat.le_of_ble_eq_true rfl, Nat.le_of_ble_eq_true rfl⟩ ⟨Nat.le_of_ble_eq_true rfl, Nat.le_of_ble_eq_true rfl⟩ rfl rfl dX9_cell_8 rfl ?_
  have n8 := bI_w ((0) ≤ what ∧ what ≤ (5))
  rw [show (bI ((0) ≤ what ∧ what ≤ (5))) = 0 from by omega]
  exact g_callST (As := [.int (iI (0))]) ([(o, .inr (8, [.ref (ad 0), .ref tr]))] ++ (wT E ad S)) C hX9 (t_X9_checkIndex l E sa hfl) (fun _ => gPX_blind) mX9_checkIndex wd418 wd417 rfl rfl (Nat.le_of_ble_eq_true rfl) ⟨Nat.le_of_ble_eq_true rfl, Nat.le_of_ble_eq_true rfl⟩ ⟨Nat.le_of_ble_eq_true rfl, Nat.le_of_ble_eq_true rfl⟩ rfl dX9_cell_11 (g_tout C hx9 Z rfl ⟨Nat.le_of_ble_eq_true rfl, Nat.le_of_ble_eq_true rfl⟩)
abbrev q_X9_pump : Room := { frames := 9, cells := 1, slots := 6, locals := 180 }
set_option maxHeartbeats 4000000 in
set_option maxRecDepth 100000 in
theorem t_X9_pump_i (l : Launch) (E : gE) (sa : gTx) (hfl : l.stackTraces = false) (o tr : Nat) (ad : Nat → Nat) (S : gS) (a what : Int) (hS : okT S) (ha : (-2147483648 ≤ a ∧ a ≤ 2147483647)) (hwhat : (-2147483648 ≤ what ∧ what ≤ 2147483647)) (h : ¬ ((0 ≤ a ∧ a < S.2 1) ∧ 0 ≤ what ∧ what ≤ 5)) : gKT l E yX9_pump cX9_pump 3 (some .int) q_X9_pump [.ref o, .int (iI a), .int (iI what)] ([(o, .inr (8, [.ref (ad 0), .ref tr]))] ++ (wT E ad S)) sa "java/lang/IndexOutOfBoundsException" ([(o, .inr (8, [.ref (ad 0), .ref tr]))] ++ (wT E ad S)) := by
  refine gKT_by RX9 rfl (by decide) mX9_pump [(0, .ref o), (1, .int (iI a)), (2, .int (iI what))] (Nat.le_of_ble_eq_true rfl) rfl ?_
  intro zp ze zs zm za zb zh zc zA zQ hx9 C hX9 Z
  refine g_aload_n C dX9_pump_0 rfl 0 rfl ?_
  refine g_get (v := .ref (ad 0)) (T := TX9) (N := 2) (ci := 8) C in_X9 0 rfl rfl 0 (by decide) wd244 (Or.inl rfl) rfl dX9_pump_1 rfl ?_
  refine g_get (v := .ref (ad 7)) (T := TX7) (N := 8) (ci := 6) C in_X7 1 rfl rfl 2 (by decide) wd217 (Or.inl rfl) rfl dX9_pump_4 rfl ?_
  refine g_iload_n C dX9_pump_7 rfl 1 rfl ?_
  refine g_perm (ws1 := wT E ad S ++ ([(o, .inr (8, [.ref (ad 0), .ref tr]))])) pm_10 ?_
  refine g_callUf (As := [.int (iI a)]) (rv := some (.int (iI (bI (0 ≤ a ∧ a < (S.2 1)))))) (w1 := wT E ad S) (kc' := 0) (ks' := 0) C "FloodWardens$Numbered" RX5 ([(o, .inr (8, [.ref (ad 0), .ref tr]))]) (k_X4_has_X5 l E ad S a hS (by omega)) mX4_has ⟨wd591, wd590, wd588⟩ rfl (by decide +kernel) wd587 7 4 rfl rfl rfl rfl rfl (Nat.le_of_ble_eq_true rfl) ⟨Nat.le_of_ble_eq_true rfl, Nat.le_of_ble_eq_true rfl⟩ ⟨Nat.le_of_ble_eq_true rfl, Nat.le_of_ble_eq_true rfl⟩ rfl rfl rfl dX9_pump_8 rfl ?_
  refine g_perm (ws1 := [(o, .inr (8, [.ref (ad 0), .ref tr]))] ++ (wT E ad S)) pm_10 ?_
  have n8 := bI_w (0 ≤ a ∧ a < (S.2 1))
  refine g_if_eq C dX9_pump_11 27 (by decide) rfl (by omega) (fun c11 => ?_) (fun c11 => ?_)
  · skip
    refine g_iconst C dX9_pump_27 rfl ?_
    exact g_callST (As := [.int (iI (0))]) ([(o, .inr (8, [.ref (ad 0), .ref tr]))] ++ (wT E ad S)) C hX9 (t_X9_checkIndex l E sa hfl) (fun _ => gPX_blind) mX9_checkIndex wd418 wd417 rfl rfl (Nat.le_of_ble_eq_true rfl) ⟨Nat.le_of_ble_eq_true rfl, Nat.le_of_ble_eq_true rfl⟩ ⟨Nat.le_of_ble_eq_true rfl, Nat.le_of_ble_eq_true rfl⟩ rfl dX9_pump_28 (g_tout C hx9 Z rfl ⟨Nat.le_of_ble_eq_true rfl, Nat.le_of_ble_eq_true rfl⟩)
  · skip
    refine g_iload_n C dX9_pump_14 rfl 2 rfl ?_
    refine g_iconst C dX9_pump_15 rfl ?_
    refine g_iconst C dX9_pump_16 rfl ?_
    refine g_callS1 (As := [.int (iI what), .int (iI (0)), .int (iI (5))]) (rv := some (.int (iI (bI ((0) ≤ what ∧ what ≤ (5)))))) (kc' := 0) (ks' := 0) C (k_X9_isWithin l E what (0) (5) (by omega) (by omega) (by omega)) mX9_isWithin wd415 wd414 rfl rfl (Nat.le_of_ble_eq_true rfl) ⟨Nat.le_of_ble_eq_true rfl, Nat.le_of_ble_eq_true rfl⟩ ⟨Nat.le_of_ble_eq_true rfl, Nat.le_of_ble_eq_true rfl⟩ rfl rfl dX9_pump_17 rfl ?_
    have n17 := bI_w ((0) ≤ what ∧ what ≤ (5))
    refine g_if_eq C dX9_pump_20 27 (by decide) rfl (by omega) (fun c20 => ?_) (fun c20 => ?_)
    · skip
      refine g_iconst C dX9_pump_27 rfl ?_
      exact g_callST (As := [.int (iI (0))]) ([(o, .inr (8, [.ref (ad 0), .ref tr]))] ++ (wT E ad S)) C hX9 (t_X9_checkIndex l E sa hfl) (fun _ => gPX_blind) mX9_checkIndex wd418 wd417 rfl rfl (Nat.le_of_ble_eq_true rfl) ⟨Nat.le_of_ble_eq_true rfl, Nat.le_of_ble_eq_true rfl⟩ ⟨Nat.le_of_ble_eq_true rfl, Nat.le_of_ble_eq_true rfl⟩ rfl dX9_pump_28 (g_tout C hx9 Z rfl ⟨Nat.le_of_ble_eq_true rfl, Nat.le_of_ble_eq_true rfl⟩)
    · skip
      refine g_iconst C dX9_pump_23 rfl ?_
      refine g_goto C dX9_pump_24 28 (by decide) ?_
      exfalso; omega
abbrev q_X9_gauge : Room := { frames := 9, cells := 1, slots := 6, locals := 180 }
set_option maxHeartbeats 4000000 in
set_option maxRecDepth 100000 in
theorem t_X9_gauge_i (l : Launch) (E : gE) (sa : gTx) (hfl : l.stackTraces = false) (o tr : Nat) (ad : Nat → Nat) (S : gS) (a what : Int) (hS : okT S) (ha : (-2147483648 ≤ a ∧ a ≤ 2147483647)) (hwhat : (-2147483648 ≤ what ∧ what ≤ 2147483647)) (h : ¬ ((0 ≤ a ∧ a < S.2 2) ∧ 0 ≤ what ∧ what ≤ 4)) : gKT l E yX9_gauge cX9_gauge 3 (some .int) q_X9_gauge [.ref o, .int (iI a), .int (iI what)] ([(o, .inr (8, [.ref (ad 0), .ref tr]))] ++ (wT E ad S)) sa "java/lang/IndexOutOfBoundsException" ([(o, .inr (8, [.ref (ad 0), .ref tr]))] ++ (wT E ad S)) := by
  refine gKT_by RX9 rfl (by decide) mX9_gauge [(0, .ref o), (1, .int (iI a)), (2, .int (iI what))] (Nat.le_of_ble_eq_true rfl) rfl ?_
  intro zp ze zs zm za zb zh zc zA zQ hx9 C hX9 Z
  refine g_aload_n C dX9_gauge_0 rfl 0 rfl ?_
  refine g_get (v := .ref (ad 0)) (T := TX9) (N := 2) (ci := 8) C in_X9 0 rfl rfl 0 (by decide) wd244 (Or.inl rfl) rfl dX9_gauge_1 rfl ?_
  refine g_get (v := .ref (ad 13)) (T := TX7) (N := 8) (ci := 6) C in_X7 1 rfl rfl 3 (by decide) wd219 (Or.inl rfl) rfl dX9_gauge_4 rfl ?_
  refine g_iload_n C dX9_gauge_7 rfl 1 rfl ?_
  refine g_perm (ws1 := wT E ad S ++ ([(o, .inr (8, [.ref (ad 0), .ref tr]))])) pm_10 ?_
  refine g_callUf (As := [.int (iI a)]) (rv := some (.int (iI (bI (0 ≤ a ∧ a < (S.2 2)))))) (w1 := wT E ad S) (kc' := 0) (ks' := 0) C "FloodWardens$Numbered" RX1 ([(o, .inr (8, [.ref (ad 0), .ref tr]))]) (k_X4_has_X1 l E ad S a hS (by omega)) mX4_has ⟨wd591, wd673, wd672⟩ rfl (by decide +kernel) wd671 13 1 rfl rfl rfl rfl rfl (Nat.le_of_ble_eq_true rfl) ⟨Nat.le_of_ble_eq_true rfl, Nat.le_of_ble_eq_true rfl⟩ ⟨Nat.le_of_ble_eq_true rfl, Nat.le_of_ble_eq_true rfl⟩ rfl rfl rfl dX9_gauge_8 rfl ?_
  refine g_perm (ws1 := [(o, .inr (8, [.ref (ad 0), .ref tr]))] ++ (wT E ad S)) pm_10 ?_
  have n8 := bI_w (0 ≤ a ∧ a < (S.2 2))
  refine g_if_eq C dX9_gauge_11 27 (by decide) rfl (by omega) (fun c11 => ?_) (fun c11 => ?_)
  · skip
    refine g_iconst C dX9_gauge_27 rfl ?_
    exact g_callST (As := [.int (iI (0))]) ([(o, .inr (8, [.ref (ad 0), .ref tr]))] ++ (wT E ad S)) C hX9 (t_X9_checkIndex l E sa hfl) (fun _ => gPX_blind) mX9_checkIndex wd418 wd417 rfl rfl (Nat.le_of_ble_eq_true rfl) ⟨Nat.le_of_ble_eq_true rfl, Nat.le_of_ble_eq_true rfl⟩ ⟨Nat.le_of_ble_eq_true rfl, Nat.le_of_ble_eq_true rfl⟩ rfl dX9_gauge_28 (g_tout C hx9 Z rfl ⟨Nat.le_of_ble_eq_true rfl, Nat.le_of_ble_eq_true rfl⟩)
  · skip
    refine g_iload_n C dX9_gauge_14 rfl 2 rfl ?_
    refine g_iconst C dX9_gauge_15 rfl ?_
    refine g_iconst C dX9_gauge_16 rfl ?_
    refine g_callS1 (As := [.int (iI what), .int (iI (0)), .int (iI (4))]) (rv := some (.int (iI (bI ((0) ≤ what ∧ what ≤ (4)))))) (kc' := 0) (ks' := 0) C (k_X9_isWithin l E what (0) (4) (by omega) (by omega) (by omega)) mX9_isWithin wd415 wd414 rfl rfl (Nat.le_of_ble_eq_true rfl) ⟨Nat.le_of_ble_eq_true rfl, Nat.le_of_ble_eq_true rfl⟩ ⟨Nat.le_of_ble_eq_true rfl, Nat.le_of_ble_eq_true rfl⟩ rfl rfl dX9_gauge_17 rfl ?_
    have n17 := bI_w ((0) ≤ what ∧ what ≤ (4))
    refine g_if_eq C dX9_gauge_20 27 (by decide) rfl (by omega) (fun c20 => ?_) (fun c20 => ?_)
    · skip
      refine g_iconst C dX9_gauge_27 rfl ?_
      exact g_callST (As := [.int (iI (0))]) ([(o, .inr (8, [.ref (ad 0), .ref tr]))] ++ (wT E ad S)) C hX9 (t_X9_checkIndex l E sa hfl) (fun _ => gPX_blind) mX9_checkIndex wd418 wd417 rfl rfl (Nat.le_of_ble_eq_true rfl) ⟨Nat.le_of_ble_eq_true rfl, Nat.le_of_ble_eq_true rfl⟩ ⟨Nat.le_of_ble_eq_true rfl, Nat.le_of_ble_eq_true rfl⟩ rfl dX9_gauge_28 (g_tout C hx9 Z rfl ⟨Nat.le_of_ble_eq_true rfl, Nat.le_of_ble_eq_true rfl⟩)
    · skip
      refine g_iconst C dX9_gauge_23 rfl ?_
      refine g_goto C dX9_gauge_24 28 (by decide) ?_
      exfalso; omega
abbrev q_X9_refuge : Room := { frames := 9, cells := 1, slots := 6, locals := 180 }
set_option maxHeartbeats 4000000 in
set_option maxRecDepth 100000 in
theorem t_X9_refuge_i (l : Launch) (E : gE) (sa : gTx) (hfl : l.stackTraces = false) (o tr : Nat) (ad : Nat → Nat) (S : gS) (a what : Int) (hS : okT S) (ha : (-2147483648 ≤ a ∧ a ≤ 2147483647)) (hwhat : (-2147483648 ≤ what ∧ what ≤ 2147483647)) (h : ¬ ((0 ≤ a ∧ a < S.2 3) ∧ 0 ≤ what ∧ what ≤ 4)) : gKT l E yX9_refuge cX9_refuge 3 (some .int) q_X9_refuge [.ref o, .int (iI a), .int (iI what)] ([(o, .inr (8, [.ref (ad 0), .ref tr]))] ++ (wT E ad S)) sa "java/lang/IndexOutOfBoundsException" ([(o, .inr (8, [.ref (ad 0), .ref tr]))] ++ (wT E ad S)) := by
  refine gKT_by RX9 rfl (by decide) mX9_refuge [(0, .ref o), (1, .int (iI a)), (2, .int (iI what))] (Nat.le_of_ble_eq_true rfl) rfl ?_
  intro zp ze zs zm za zb zh zc zA zQ hx9 C hX9 Z
  refine g_aload_n C dX9_refuge_0 rfl 0 rfl ?_
  refine g_get (v := .ref (ad 0)) (T := TX9) (N := 2) (ci := 8) C in_X9 0 rfl rfl 0 (by decide) wd244 (Or.inl rfl) rfl dX9_refuge_1 rfl ?_
  refine g_get (v := .ref (ad 16)) (T := TX7) (N := 8) (ci := 6) C in_X7 1 rfl rfl 4 (by decide) wd221 (Or.inl rfl) rfl dX9_refuge_4 rfl ?_
  refine g_iload_n C dX9_refuge_7 rfl 1 rfl ?_
  refine g_perm (ws1 := wT E ad S ++ ([(o, .inr (8, [.ref (ad 0), .ref tr]))])) pm_10 ?_
  refine g_callUf (As := [.int (iI a)]) (rv := some (.int (iI (bI (0 ≤ a ∧ a < (S.2 3)))))) (w1 := wT E ad S) (kc' := 0) (ks' := 0) C "FloodWardens$Numbered" RX6 ([(o, .inr (8, [.ref (ad 0), .ref tr]))]) (k_X4_has_X6 l E ad S a hS (by omega)) mX4_has ⟨wd591, wd683, wd682⟩ rfl (by decide +kernel) wd681 16 5 rfl rfl rfl rfl rfl (Nat.le_of_ble_eq_true rfl) ⟨Nat.le_of_ble_eq_true rfl, Nat.le_of_ble_eq_true rfl⟩ ⟨Nat.le_of_ble_eq_true rfl, Nat.le_of_ble_eq_true rfl⟩ rfl rfl rfl dX9_refuge_8 rfl ?_
  refine g_perm (ws1 := [(o, .inr (8, [.ref (ad 0), .ref tr]))] ++ (wT E ad S)) pm_10 ?_
  have n8 := bI_w (0 ≤ a ∧ a < (S.2 3))
  refine g_if_eq C dX9_refuge_11 27 (by decide) rfl (by omega) (fun c11 => ?_) (fun c11 => ?_)
  · skip
    refine g_iconst C dX9_refuge_27 rfl ?_
    exact g_callST (As := [.int (iI (0))]) ([(o, .inr (8, [.ref (ad 0), .ref tr]))] ++ (wT E ad S)) C hX9 (t_X9_checkIndex l E sa hfl) (fun _ => gPX_blind) mX9_checkIndex wd418 wd417 rfl rfl (Nat.le_of_ble_eq_true rfl) ⟨Nat.le_of_ble_eq_true rfl, Nat.le_of_ble_eq_true rfl⟩ ⟨Nat.le_of_ble_eq_true rfl, Nat.le_of_ble_eq_true rfl⟩ rfl dX9_refuge_28 (g_tout C hx9 Z rfl ⟨Nat.le_of_ble_eq_true rfl, Nat.le_of_ble_eq_true rfl⟩)
  · skip
    refine g_iload_n C dX9_refuge_14 rfl 2 rfl ?_
    refine g_iconst C dX9_refuge_15 rfl ?_
    refine g_iconst C dX9_refuge_16 rfl ?_
    refine g_callS1 (As := [.int (iI what), .int (iI (0)), .int (iI (4))]) (rv := some (.int (iI (bI ((0) ≤ what ∧ what ≤ (4)))))) (kc' := 0) (ks' := 0) C (k_X9_isWithin l E what (0) (4) (by omega) (by omega) (by omega)) mX9_isWithin wd415 wd414 rfl rfl (Nat.le_of_ble_eq_true rfl) ⟨Nat.le_of_ble_eq_true rfl, Nat.le_of_ble_eq_true rfl⟩ ⟨Nat.le_of_ble_eq_true rfl, Nat.le_of_ble_eq_true rfl⟩ rfl rfl dX9_refuge_17 rfl ?_
    have n17 := bI_w ((0) ≤ what ∧ what ≤ (4))
    refine g_if_eq C dX9_refuge_20 27 (by decide) rfl (by omega) (fun c20 => ?_) (fun c20 => ?_)
    · skip
      refine g_iconst C dX9_refuge_27 rfl ?_
      exact g_callST (As := [.int (iI (0))]) ([(o, .inr (8, [.ref (ad 0), .ref tr]))] ++ (wT E ad S)) C hX9 (t_X9_checkIndex l E sa hfl) (fun _ => gPX_blind) mX9_checkIndex wd418 wd417 rfl rfl (Nat.le_of_ble_eq_true rfl) ⟨Nat.le_of_ble_eq_true rfl, Nat.le_of_ble_eq_true rfl⟩ ⟨Nat.le_of_ble_eq_true rfl, Nat.le_of_ble_eq_true rfl⟩ rfl dX9_refuge_28 (g_tout C hx9 Z rfl ⟨Nat.le_of_ble_eq_true rfl, Nat.le_of_ble_eq_true rfl⟩)
    · skip
      refine g_iconst C dX9_refuge_23 rfl ?_
      refine g_goto C dX9_refuge_24 28 (by decide) ?_
      exfalso; omega
abbrev q_X9_household : Room := { frames := 9, cells := 1, slots := 6, locals := 180 }
set_option maxHeartbeats 4000000 in
set_option maxRecDepth 100000 in
theorem t_X9_household_i (l : Launch) (E : gE) (sa : gTx) (hfl : l.stackTraces = false) (o tr : Nat) (ad : Nat → Nat) (S : gS) (a what : Int) (hS : okT S) (ha : (-2147483648 ≤ a ∧ a ≤ 2147483647)) (hwhat : (-2147483648 ≤ what ∧ what ≤ 2147483647)) (h : ¬ ((0 ≤ a ∧ a < S.2 4) ∧ 0 ≤ what ∧ what ≤ 4)) : gKT l E yX9_household cX9_household 3 (some .int) q_X9_household [.ref o, .int (iI a), .int (iI what)] ([(o, .inr (8, [.ref (ad 0), .ref tr]))] ++ (wT E ad S)) sa "java/lang/IndexOutOfBoundsException" ([(o, .inr (8, [.ref (ad 0), .ref tr]))] ++ (wT E ad S)) := by
  refine gKT_by RX9 rfl (by decide) mX9_household [(0, .ref o), (1, .int (iI a)), (2, .int (iI what))] (Nat.le_of_ble_eq_true rfl) rfl ?_
  intro zp ze zs zm za zb zh zc zA zQ hx9 C hX9 Z
  refine g_aload_n C dX9_household_0 rfl 0 rfl ?_
  refine g_get (v := .ref (ad 0)) (T := TX9) (N := 2) (ci := 8) C in_X9 0 rfl rfl 0 (by decide) wd244 (Or.inl rfl) rfl dX9_household_1 rfl ?_
  refine g_get (v := .ref (ad 21)) (T := TX7) (N := 8) (ci := 6) C in_X7 1 rfl rfl 5 (by decide) wd223 (Or.inl rfl) rfl dX9_household_4 rfl ?_
  refine g_iload_n C dX9_household_7 rfl 1 rfl ?_
  refine g_perm (ws1 := wT E ad S ++ ([(o, .inr (8, [.ref (ad 0), .ref tr]))])) pm_10 ?_
  refine g_callUf (As := [.int (iI a)]) (rv := some (.int (iI (bI (0 ≤ a ∧ a < (S.2 4)))))) (w1 := wT E ad S) (kc' := 0) (ks' := 0) C "FloodWardens$Numbered" RX2 ([(o, .inr (8, [.ref (ad 0), .ref tr]))]) (k_X4_has_X2 l E ad S a hS (by omega)) mX4_has ⟨wd591, wd693, wd692⟩ rfl (by decide +kernel) wd691 21 2 rfl rfl rfl rfl rfl (Nat.le_of_ble_eq_true rfl) ⟨Nat.le_of_ble_eq_true rfl, Nat.le_of_ble_eq_true rfl⟩ ⟨Nat.le_of_ble_eq_true rfl, Nat.le_of_ble_eq_true rfl⟩ rfl rfl rfl dX9_household_8 rfl ?_
  refine g_perm (ws1 := [(o, .inr (8, [.ref (ad 0), .ref tr]))] ++ (wT E ad S)) pm_10 ?_
  have n8 := bI_w (0 ≤ a ∧ a < (S.2 4))
  refine g_if_eq C dX9_household_11 27 (by decide) rfl (by omega) (fun c11 => ?_) (fun c11 => ?_)
  · skip
    refine g_iconst C dX9_household_27 rfl ?_
    exact g_callST (As := [.int (iI (0))]) ([(o, .inr (8, [.ref (ad 0), .ref tr]))] ++ (wT E ad S)) C hX9 (t_X9_checkIndex l E sa hfl) (fun _ => gPX_blind) mX9_checkIndex wd418 wd417 rfl rfl (Nat.le_of_ble_eq_true rfl) ⟨Nat.le_of_ble_eq_true rfl, Nat.le_of_ble_eq_true rfl⟩ ⟨Nat.le_of_ble_eq_true rfl, Nat.le_of_ble_eq_true rfl⟩ rfl dX9_household_28 (g_tout C hx9 Z rfl ⟨Nat.le_of_ble_eq_true rfl, Nat.le_of_ble_eq_true rfl⟩)
  · skip
    refine g_iload_n C dX9_household_14 rfl 2 rfl ?_
    refine g_iconst C dX9_household_15 rfl ?_
    refine g_iconst C dX9_household_16 rfl ?_
    refine g_callS1 (As := [.int (iI what), .int (iI (0)), .int (iI (4))]) (rv := some (.int (iI (bI ((0) ≤ what ∧ what ≤ (4)))))) (kc' := 0) (ks' := 0) C (k_X9_isWithin l E what (0) (4) (by omega) (by omega) (by omega)) mX9_isWithin wd415 wd414 rfl rfl (Nat.le_of_ble_eq_true rfl) ⟨Nat.le_of_ble_eq_true rfl, Nat.le_of_ble_eq_true rfl⟩ ⟨Nat.le_of_ble_eq_true rfl, Nat.le_of_ble_eq_true rfl⟩ rfl rfl dX9_household_17 rfl ?_
    have n17 := bI_w ((0) ≤ what ∧ what ≤ (4))
    refine g_if_eq C dX9_household_20 27 (by decide) rfl (by omega) (fun c20 => ?_) (fun c20 => ?_)
    · skip
      refine g_iconst C dX9_household_27 rfl ?_
      exact g_callST (As := [.int (iI (0))]) ([(o, .inr (8, [.ref (ad 0), .ref tr]))] ++ (wT E ad S)) C hX9 (t_X9_checkIndex l E sa hfl) (fun _ => gPX_blind) mX9_checkIndex wd418 wd417 rfl rfl (Nat.le_of_ble_eq_true rfl) ⟨Nat.le_of_ble_eq_true rfl, Nat.le_of_ble_eq_true rfl⟩ ⟨Nat.le_of_ble_eq_true rfl, Nat.le_of_ble_eq_true rfl⟩ rfl dX9_household_28 (g_tout C hx9 Z rfl ⟨Nat.le_of_ble_eq_true rfl, Nat.le_of_ble_eq_true rfl⟩)
    · skip
      refine g_iconst C dX9_household_23 rfl ?_
      refine g_goto C dX9_household_24 28 (by decide) ?_
      exfalso; omega
abbrev q_X9_caller : Room := { frames := 9, cells := 1, slots := 6, locals := 180 }
set_option maxHeartbeats 4000000 in
set_option maxRecDepth 100000 in
theorem t_X9_caller_i (l : Launch) (E : gE) (sa : gTx) (hfl : l.stackTraces = false) (o tr : Nat) (ad : Nat → Nat) (S : gS) (a what : Int) (hS : okT S) (ha : (-2147483648 ≤ a ∧ a ≤ 2147483647)) (hwhat : (-2147483648 ≤ what ∧ what ≤ 2147483647)) (h : ¬ ((0 ≤ a ∧ a < S.2 6) ∧ 0 ≤ what ∧ what ≤ 2)) : gKT l E yX9_caller cX9_caller 3 (some .int) q_X9_caller [.ref o, .int (iI a), .int (iI what)] ([(o, .inr (8, [.ref (ad 0), .ref tr]))] ++ (wT E ad S)) sa "java/lang/IndexOutOfBoundsException" ([(o, .inr (8, [.ref (ad 0), .ref tr]))] ++ (wT E ad S)) := by
  refine gKT_by RX9 rfl (by decide) mX9_caller [(0, .ref o), (1, .int (iI a)), (2, .int (iI what))] (Nat.le_of_ble_eq_true rfl) rfl ?_
  intro zp ze zs zm za zb zh zc zA zQ hx9 C hX9 Z
  refine g_aload_n C dX9_caller_0 rfl 0 rfl ?_
  refine g_get (v := .ref (ad 0)) (T := TX9) (N := 2) (ci := 8) C in_X9 0 rfl rfl 0 (by decide) wd244 (Or.inl rfl) rfl dX9_caller_1 rfl ?_
  refine g_get (v := .ref (ad 25)) (T := TX7) (N := 8) (ci := 6) C in_X7 1 rfl rfl 6 (by decide) wd225 (Or.inl rfl) rfl dX9_caller_4 rfl ?_
  refine g_iload_n C dX9_caller_7 rfl 1 rfl ?_
  refine g_perm (ws1 := wT E ad S ++ ([(o, .inr (8, [.ref (ad 0), .ref tr]))])) pm_10 ?_
  refine g_callUf (As := [.int (iI a)]) (rv := some (.int (iI (bI (0 ≤ a ∧ a < (S.2 6)))))) (w1 := wT E ad S) (kc' := 0) (ks' := 0) C "FloodWardens$Numbered" RX0 ([(o, .inr (8, [.ref (ad 0), .ref tr]))]) (k_X4_has_X0 l E ad S a hS (by omega)) mX4_has ⟨wd591, wd703, wd702⟩ rfl (by decide +kernel) wd701 25 0 rfl rfl rfl rfl rfl (Nat.le_of_ble_eq_true rfl) ⟨Nat.le_of_ble_eq_true rfl, Nat.le_of_ble_eq_true rfl⟩ ⟨Nat.le_of_ble_eq_true rfl, Nat.le_of_ble_eq_true rfl⟩ rfl rfl rfl dX9_caller_8 rfl ?_
  refine g_perm (ws1 := [(o, .inr (8, [.ref (ad 0), .ref tr]))] ++ (wT E ad S)) pm_10 ?_
  have n8 := bI_w (0 ≤ a ∧ a < (S.2 6))
  refine g_if_eq C dX9_caller_11 27 (by decide) rfl (by omega) (fun c11 => ?_) (fun c11 => ?_)
  · skip
    refine g_iconst C dX9_caller_27 rfl ?_
    exact g_callST (As := [.int (iI (0))]) ([(o, .inr (8, [.ref (ad 0), .ref tr]))] ++ (wT E ad S)) C hX9 (t_X9_checkIndex l E sa hfl) (fun _ => gPX_blind) mX9_checkIndex wd418 wd417 rfl rfl (Nat.le_of_ble_eq_true rfl) ⟨Nat.le_of_ble_eq_true rfl, Nat.le_of_ble_eq_true rfl⟩ ⟨Nat.le_of_ble_eq_true rfl, Nat.le_of_ble_eq_true rfl⟩ rfl dX9_caller_28 (g_tout C hx9 Z rfl ⟨Nat.le_of_ble_eq_true rfl, Nat.le_of_ble_eq_true rfl⟩)
  · skip
    refine g_iload_n C dX9_caller_14 rfl 2 rfl ?_
    refine g_iconst C dX9_caller_15 rfl ?_
    refine g_iconst C dX9_caller_16 rfl ?_
    refine g_callS1 (As := [.int (iI what), .int (iI (0)), .int (iI (2))]) (rv := some (.int (iI (bI ((0) ≤ what ∧ what ≤ (2)))))) (kc' := 0) (ks' := 0) C (k_X9_isWithin l E what (0) (2) (by omega) (by omega) (by omega)) mX9_isWithin wd415 wd414 rfl rfl (Nat.le_of_ble_eq_true rfl) ⟨Nat.le_of_ble_eq_true rfl, Nat.le_of_ble_eq_true rfl⟩ ⟨Nat.le_of_ble_eq_true rfl, Nat.le_of_ble_eq_true rfl⟩ rfl rfl dX9_caller_17 rfl ?_
    have n17 := bI_w ((0) ≤ what ∧ what ≤ (2))
    refine g_if_eq C dX9_caller_20 27 (by decide) rfl (by omega) (fun c20 => ?_) (fun c20 => ?_)
    · skip
      refine g_iconst C dX9_caller_27 rfl ?_
      exact g_callST (As := [.int (iI (0))]) ([(o, .inr (8, [.ref (ad 0), .ref tr]))] ++ (wT E ad S)) C hX9 (t_X9_checkIndex l E sa hfl) (fun _ => gPX_blind) mX9_checkIndex wd418 wd417 rfl rfl (Nat.le_of_ble_eq_true rfl) ⟨Nat.le_of_ble_eq_true rfl, Nat.le_of_ble_eq_true rfl⟩ ⟨Nat.le_of_ble_eq_true rfl, Nat.le_of_ble_eq_true rfl⟩ rfl dX9_caller_28 (g_tout C hx9 Z rfl ⟨Nat.le_of_ble_eq_true rfl, Nat.le_of_ble_eq_true rfl⟩)
    · skip
      refine g_iconst C dX9_caller_23 rfl ?_
      refine g_goto C dX9_caller_24 28 (by decide) ?_
      exfalso; omega
abbrev q_X9_count : Room := { frames := 9, cells := 1, slots := 6, locals := 180 }
set_option maxHeartbeats 4000000 in
set_option maxRecDepth 100000 in
theorem t_X9_count_i (l : Launch) (E : gE) (sa : gTx) (hfl : l.stackTraces = false) (o tr : Nat) (ad : Nat → Nat) (S : gS) (what : Int) (hS : okT S) (hwhat : (-2147483648 ≤ what ∧ what ≤ 2147483647)) (h : ¬ (0 ≤ what ∧ what ≤ 9)) : gKT l E yX9_count cX9_count 2 (some .int) q_X9_count [.ref o, .int (iI what)] ([(o, .inr (8, [.ref (ad 0), .ref tr]))] ++ (wT E ad S)) sa "java/lang/IndexOutOfBoundsException" ([(o, .inr (8, [.ref (ad 0), .ref tr]))] ++ (wT E ad S)) := by
  refine gKT_by RX9 rfl (by decide) mX9_count [(0, .ref o), (1, .int (iI what))] (Nat.le_of_ble_eq_true rfl) rfl ?_
  intro zp ze zs zm za zb zh zc zA zQ hx9 C hX9 Z
  refine g_iload_n C dX9_count_0 rfl 1 rfl ?_
  refine g_iconst C dX9_count_1 rfl ?_
  refine g_bipush C dX9_count_2 rfl rfl ?_
  refine g_callS1 (As := [.int (iI what), .int (iI (0)), .int (iI (9))]) (rv := some (.int (iI (bI ((0) ≤ what ∧ what ≤ (9)))))) (kc' := 0) (ks' := 0) C (k_X9_isWithin l E what (0) (9) (by omega) (by omega) (by omega)) mX9_isWithin wd415 wd414 rfl rfl (Nat.le_of_ble_eq_true rfl) ⟨Nat.le_of_ble_eq_true rfl, Nat.le_of_ble_eq_true rfl⟩ ⟨Nat.le_of_ble_eq_true rfl, Nat.le_of_ble_eq_true rfl⟩ rfl rfl dX9_count_4 rfl ?_
  have n4 := bI_w ((0) ≤ what ∧ what ≤ (9))
  rw [show (bI ((0) ≤ what ∧ what ≤ (9))) = 0 from by omega]
  exact g_callST (As := [.int (iI (0))]) ([(o, .inr (8, [.ref (ad 0), .ref tr]))] ++ (wT E ad S)) C hX9 (t_X9_checkIndex l E sa hfl) (fun _ => gPX_blind) mX9_checkIndex wd418 wd417 rfl rfl (Nat.le_of_ble_eq_true rfl) ⟨Nat.le_of_ble_eq_true rfl, Nat.le_of_ble_eq_true rfl⟩ ⟨Nat.le_of_ble_eq_true rfl, Nat.le_of_ble_eq_true rfl⟩ rfl dX9_count_7 (g_tout C hx9 Z rfl ⟨Nat.le_of_ble_eq_true rfl, Nat.le_of_ble_eq_true rfl⟩)
abbrev q_X9_pass : Room := { frames := 9, cells := 1, slots := 6, locals := 180 }
set_option maxHeartbeats 4000000 in
set_option maxRecDepth 100000 in
theorem t_X9_pass_a (l : Launch) (E : gE) (sa : gTx) (hfl : l.stackTraces = false) (o tr : Nat) (ad : Nat → Nat) (S : gS) (n : Int) (hS : okT S) (hn : (-2147483648 ≤ n ∧ n ≤ 2147483647)) (h : ¬ (1 ≤ n ∧ n ≤ 36)) : gKT l E yX9_pass cX9_pass 3 (some .int) q_X9_pass [.ref o, .int (iI n)] ([(o, .inr (8, [.ref (ad 0), .ref tr]))] ++ (wT E ad S)) sa "java/lang/IllegalArgumentException" ([(o, .inr (8, [.ref (ad 0), .ref tr]))] ++ (wT E ad S)) := by
  refine gKT_by RX9 rfl (by decide) mX9_pass [(0, .ref o), (1, .int (iI n))] (Nat.le_of_ble_eq_true rfl) rfl ?_
  intro zp ze zs zm za zb zh zc zA zQ hx9 C hX9 Z
  refine g_iload_n C dX9_pass_0 rfl 1 rfl ?_
  refine g_iconst C dX9_pass_1 rfl ?_
  refine g_bipush C dX9_pass_2 rfl rfl ?_
  refine g_callS1 (As := [.int (iI n), .int (iI (1)), .int (iI (36))]) (rv := some (.int (iI (bI ((1) ≤ n ∧ n ≤ (36)))))) (kc' := 0) (ks' := 0) C (k_X9_isWithin l E n (1) (36) (by omega) (by omega) (by omega)) mX9_isWithin wd415 wd414 rfl rfl (Nat.le_of_ble_eq_true rfl) ⟨Nat.le_of_ble_eq_true rfl, Nat.le_of_ble_eq_true rfl⟩ ⟨Nat.le_of_ble_eq_true rfl, Nat.le_of_ble_eq_true rfl⟩ rfl rfl dX9_pass_4 rfl ?_
  have n4 := bI_w ((1) ≤ n ∧ n ≤ (36))
  rw [show (bI ((1) ≤ n ∧ n ≤ (36))) = 0 from by omega]
  exact g_callST (As := [.int (iI (0))]) ([(o, .inr (8, [.ref (ad 0), .ref tr]))] ++ (wT E ad S)) C hX9 (t_X9_checkArgument l E sa hfl) (fun _ => gPX_blind) mX9_checkArgument wd489 wd488 rfl rfl (Nat.le_of_ble_eq_true rfl) ⟨Nat.le_of_ble_eq_true rfl, Nat.le_of_ble_eq_true rfl⟩ ⟨Nat.le_of_ble_eq_true rfl, Nat.le_of_ble_eq_true rfl⟩ rfl dX9_pass_7 (g_tout C hx9 Z rfl ⟨Nat.le_of_ble_eq_true rfl, Nat.le_of_ble_eq_true rfl⟩)
abbrev q_X9_foresee : Room := { frames := 9, cells := 1, slots := 6, locals := 180 }
set_option maxHeartbeats 4000000 in
set_option maxRecDepth 100000 in
theorem t_X9_foresee_a (l : Launch) (E : gE) (sa : gTx) (hfl : l.stackTraces = false) (o tr : Nat) (ad : Nat → Nat) (S : gS) (n what : Int) (hS : okT S) (hn : (-2147483648 ≤ n ∧ n ≤ 2147483647)) (hwhat : (-2147483648 ≤ what ∧ what ≤ 2147483647)) (h : ¬ (1 ≤ n ∧ n ≤ 36)) : gKT l E yX9_foresee cX9_foresee 3 (some .int) q_X9_foresee [.ref o, .int (iI n), .int (iI what)] ([(o, .inr (8, [.ref (ad 0), .ref tr]))] ++ (wT E ad S)) sa "java/lang/IllegalArgumentException" ([(o, .inr (8, [.ref (ad 0), .ref tr]))] ++ (wT E ad S)) := by
  refine gKT_by RX9 rfl (by decide) mX9_foresee [(0, .ref o), (1, .int (iI n)), (2, .int (iI what))] (Nat.le_of_ble_eq_true rfl) rfl ?_
  intro zp ze zs zm za zb zh zc zA zQ hx9 C hX9 Z
  refine g_iload_n C dX9_foresee_0 rfl 1 rfl ?_
  refine g_iconst C dX9_foresee_1 rfl ?_
  refine g_bipush C dX9_foresee_2 rfl rfl ?_
  refine g_callS1 (As := [.int (iI n), .int (iI (1)), .int (iI (36))]) (rv := some (.int (iI (bI ((1) ≤ n ∧ n ≤ (36)))))) (kc' := 0) (ks' := 0) C (k_X9_isWithin l E n (1) (36) (by omega) (by omega) (by omega)) mX9_isWithin wd415 wd414 rfl rfl (Nat.le_of_ble_eq_true rfl) ⟨Nat.le_of_ble_eq_true rfl, Nat.le_of_ble_eq_true rfl⟩ ⟨Nat.le_of_ble_eq_true rfl, Nat.le_of_ble_eq_true rfl⟩ rfl rfl dX9_foresee_4 rfl ?_
  have n4 := bI_w ((1) ≤ n ∧ n ≤ (36))
  rw [show (bI ((1) ≤ n ∧ n ≤ (36))) = 0 from by omega]
  exact g_callST (As := [.int (iI (0))]) ([(o, .inr (8, [.ref (ad 0), .ref tr]))] ++ (wT E ad S)) C hX9 (t_X9_checkArgument l E sa hfl) (fun _ => gPX_blind) mX9_checkArgument wd489 wd488 rfl rfl (Nat.le_of_ble_eq_true rfl) ⟨Nat.le_of_ble_eq_true rfl, Nat.le_of_ble_eq_true rfl⟩ ⟨Nat.le_of_ble_eq_true rfl, Nat.le_of_ble_eq_true rfl⟩ rfl dX9_foresee_7 (g_tout C hx9 Z rfl ⟨Nat.le_of_ble_eq_true rfl, Nat.le_of_ble_eq_true rfl⟩)
set_option maxHeartbeats 4000000 in
set_option maxRecDepth 100000 in
theorem t_X9_foresee_i (l : Launch) (E : gE) (sa : gTx) (hfl : l.stackTraces = false) (o tr : Nat) (ad : Nat → Nat) (S : gS) (n what : Int) (hS : okT S) (hn : (-2147483648 ≤ n ∧ n ≤ 2147483647)) (hwhat : (-2147483648 ≤ what ∧ what ≤ 2147483647)) (h : 1 ≤ n ∧ n ≤ 36) (h2 : ¬ (0 ≤ what ∧ what ≤ 3)) : gKT l E yX9_foresee cX9_foresee 3 (some .int) q_X9_foresee [.ref o, .int (iI n), .int (iI what)] ([(o, .inr (8, [.ref (ad 0), .ref tr]))] ++ (wT E ad S)) sa "java/lang/IndexOutOfBoundsException" ([(o, .inr (8, [.ref (ad 0), .ref tr]))] ++ (wT E ad S)) := by
  refine gKT_by RX9 rfl (by decide) mX9_foresee [(0, .ref o), (1, .int (iI n)), (2, .int (iI what))] (Nat.le_of_ble_eq_true rfl) rfl ?_
  intro zp ze zs zm za zb zh zc zA zQ hx9 C hX9 Z
  refine g_iload_n C dX9_foresee_0 rfl 1 rfl ?_
  refine g_iconst C dX9_foresee_1 rfl ?_
  refine g_bipush C dX9_foresee_2 rfl rfl ?_
  refine g_callS1 (As := [.int (iI n), .int (iI (1)), .int (iI (36))]) (rv := some (.int (iI (bI ((1) ≤ n ∧ n ≤ (36)))))) (kc' := 0) (ks' := 0) C (k_X9_isWithin l E n (1) (36) (by omega) (by omega) (by omega)) mX9_isWithin wd415 wd414 rfl rfl (Nat.le_of_ble_eq_true rfl) ⟨Nat.le_of_ble_eq_true rfl, Nat.le_of_ble_eq_true rfl⟩ ⟨Nat.le_of_ble_eq_true rfl, Nat.le_of_ble_eq_true rfl⟩ rfl rfl dX9_foresee_4 rfl ?_
  have n4 := bI_w ((1) ≤ n ∧ n ≤ (36))
  rw [show (bI ((1) ≤ n ∧ n ≤ (36))) = 1 from by omega]
  refine g_callS1 (As := [.int (iI (1))]) (rv := none) (kc' := 0) (ks' := 0) C (k_X9_checkArgument_1 l E) mX9_checkArgument wd489 wd488 rfl rfl (Nat.le_of_ble_eq_true rfl) ⟨Nat.le_of_ble_eq_true rfl, Nat.le_of_ble_eq_true rfl⟩ ⟨Nat.le_of_ble_eq_true rfl, Nat.le_of_ble_eq_true rfl⟩ rfl rfl dX9_foresee_7 rfl ?_
  refine g_iload_n C dX9_foresee_10 rfl 2 rfl ?_
  refine g_iconst C dX9_foresee_11 rfl ?_
  refine g_iconst C dX9_foresee_12 rfl ?_
  refine g_callS1 (As := [.int (iI what), .int (iI (0)), .int (iI (3))]) (rv := some (.int (iI (bI ((0) ≤ what ∧ what ≤ (3)))))) (kc' := 0) (ks' := 0) C (k_X9_isWithin l E what (0) (3) (by omega) (by omega) (by omega)) mX9_isWithin wd415 wd414 rfl rfl (Nat.le_of_ble_eq_true rfl) ⟨Nat.le_of_ble_eq_true rfl, Nat.le_of_ble_eq_true rfl⟩ ⟨Nat.le_of_ble_eq_true rfl, Nat.le_of_ble_eq_true rfl⟩ rfl rfl dX9_foresee_13 rfl ?_
  have n13 := bI_w ((0) ≤ what ∧ what ≤ (3))
  rw [show (bI ((0) ≤ what ∧ what ≤ (3))) = 0 from by omega]
  exact g_callST (As := [.int (iI (0))]) ([(o, .inr (8, [.ref (ad 0), .ref tr]))] ++ (wT E ad S)) C hX9 (t_X9_checkIndex l E sa hfl) (fun _ => gPX_blind) mX9_checkIndex wd418 wd417 rfl rfl (Nat.le_of_ble_eq_true rfl) ⟨Nat.le_of_ble_eq_true rfl, Nat.le_of_ble_eq_true rfl⟩ ⟨Nat.le_of_ble_eq_true rfl, Nat.le_of_ble_eq_true rfl⟩ rfl dX9_foresee_16 (g_tout C hx9 Z rfl ⟨Nat.le_of_ble_eq_true rfl, Nat.le_of_ble_eq_true rfl⟩)
abbrev q_X9_rings : Room := { frames := 9, cells := 1, slots := 6, locals := 180 }
set_option maxHeartbeats 4000000 in
set_option maxRecDepth 100000 in
theorem t_X9_rings_i (l : Launch) (E : gE) (sa : gTx) (hfl : l.stackTraces = false) (o tr : Nat) (ad : Nat → Nat) (S : gS) (g : Int) (hS : okT S) (hg : (-2147483648 ≤ g ∧ g ≤ 2147483647)) (h : ¬ (0 ≤ g ∧ g < S.2 2)) : gKT l E yX9_rings cX9_rings 3 (some .int) q_X9_rings [.ref o, .int (iI g)] ([(o, .inr (8, [.ref (ad 0), .ref tr]))] ++ (wT E ad S)) sa "java/lang/IndexOutOfBoundsException" ([(o, .inr (8, [.ref (ad 0), .ref tr]))] ++ (wT E ad S)) := by
  refine gKT_by RX9 rfl (by decide) mX9_rings [(0, .ref o), (1, .int (iI g))] (Nat.le_of_ble_eq_true rfl) rfl ?_
  intro zp ze zs zm za zb zh zc zA zQ hx9 C hX9 Z
  refine g_aload_n C dX9_rings_0 rfl 0 rfl ?_
  refine g_get (v := .ref (ad 0)) (T := TX9) (N := 2) (ci := 8) C in_X9 0 rfl rfl 0 (by decide) wd244 (Or.inl rfl) rfl dX9_rings_1 rfl ?_
  refine g_get (v := .ref (ad 13)) (T := TX7) (N := 8) (ci := 6) C in_X7 1 rfl rfl 3 (by decide) wd219 (Or.inl rfl) rfl dX9_rings_4 rfl ?_
  refine g_iload_n C dX9_rings_7 rfl 1 rfl ?_
  refine g_perm (ws1 := wT E ad S ++ ([(o, .inr (8, [.ref (ad 0), .ref tr]))])) pm_10 ?_
  refine g_callUf (As := [.int (iI g)]) (rv := some (.int (iI (bI (0 ≤ g ∧ g < (S.2 2)))))) (w1 := wT E ad S) (kc' := 0) (ks' := 0) C "FloodWardens$Numbered" RX1 ([(o, .inr (8, [.ref (ad 0), .ref tr]))]) (k_X4_has_X1 l E ad S g hS (by omega)) mX4_has ⟨wd591, wd673, wd672⟩ rfl (by decide +kernel) wd671 13 1 rfl rfl rfl rfl rfl (Nat.le_of_ble_eq_true rfl) ⟨Nat.le_of_ble_eq_true rfl, Nat.le_of_ble_eq_true rfl⟩ ⟨Nat.le_of_ble_eq_true rfl, Nat.le_of_ble_eq_true rfl⟩ rfl rfl rfl dX9_rings_8 rfl ?_
  refine g_perm (ws1 := [(o, .inr (8, [.ref (ad 0), .ref tr]))] ++ (wT E ad S)) pm_10 ?_
  have n8 := bI_w (0 ≤ g ∧ g < (S.2 2))
  rw [show (bI (0 ≤ g ∧ g < (S.2 2))) = 0 from by omega]
  exact g_callST (As := [.int (iI (0))]) ([(o, .inr (8, [.ref (ad 0), .ref tr]))] ++ (wT E ad S)) C hX9 (t_X9_checkIndex l E sa hfl) (fun _ => gPX_blind) mX9_checkIndex wd418 wd417 rfl rfl (Nat.le_of_ble_eq_true rfl) ⟨Nat.le_of_ble_eq_true rfl, Nat.le_of_ble_eq_true rfl⟩ ⟨Nat.le_of_ble_eq_true rfl, Nat.le_of_ble_eq_true rfl⟩ rfl dX9_rings_11 (g_tout C hx9 Z rfl ⟨Nat.le_of_ble_eq_true rfl, Nat.le_of_ble_eq_true rfl⟩)
abbrev q_X9_advise : Room := { frames := 9, cells := 1, slots := 6, locals := 180 }
set_option maxHeartbeats 4000000 in
set_option maxRecDepth 100000 in
theorem t_X9_advise_a (l : Launch) (E : gE) (sa : gTx) (hfl : l.stackTraces = false) (o tr : Nat) (ad : Nat → Nat) (S : gS) (n : Int) (hS : okT S) (hn : (-2147483648 ≤ n ∧ n ≤ 2147483647)) (h : ¬ (1 ≤ n ∧ n ≤ 6)) : gKT l E yX9_advise cX9_advise 7 (some .int) q_X9_advise [.ref o, .int (iI n)] ([(o, .inr (8, [.ref (ad 0), .ref tr]))] ++ (wT E ad S)) sa "java/lang/IllegalArgumentException" ([(o, .inr (8, [.ref (ad 0), .ref tr]))] ++ (wT E ad S)) := by
  refine gKT_by RX9 rfl (by decide) mX9_advise [(0, .ref o), (1, .int (iI n))] (Nat.le_of_ble_eq_true rfl) rfl ?_
  intro zp ze zs zm za zb zh zc zA zQ hx9 C hX9 Z
  refine g_iload_n C dX9_advise_0 rfl 1 rfl ?_
  refine g_iconst C dX9_advise_1 rfl ?_
  refine g_bipush C dX9_advise_2 rfl rfl ?_
  refine g_callS1 (As := [.int (iI n), .int (iI (1)), .int (iI (6))]) (rv := some (.int (iI (bI ((1) ≤ n ∧ n ≤ (6)))))) (kc' := 0) (ks' := 0) C (k_X9_isWithin l E n (1) (6) (by omega) (by omega) (by omega)) mX9_isWithin wd415 wd414 rfl rfl (Nat.le_of_ble_eq_true rfl) ⟨Nat.le_of_ble_eq_true rfl, Nat.le_of_ble_eq_true rfl⟩ ⟨Nat.le_of_ble_eq_true rfl, Nat.le_of_ble_eq_true rfl⟩ rfl rfl dX9_advise_4 rfl ?_
  have n4 := bI_w ((1) ≤ n ∧ n ≤ (6))
  rw [show (bI ((1) ≤ n ∧ n ≤ (6))) = 0 from by omega]
  exact g_callST (As := [.int (iI (0))]) ([(o, .inr (8, [.ref (ad 0), .ref tr]))] ++ (wT E ad S)) C hX9 (t_X9_checkArgument l E sa hfl) (fun _ => gPX_blind) mX9_checkArgument wd489 wd488 rfl rfl (Nat.le_of_ble_eq_true rfl) ⟨Nat.le_of_ble_eq_true rfl, Nat.le_of_ble_eq_true rfl⟩ ⟨Nat.le_of_ble_eq_true rfl, Nat.le_of_ble_eq_true rfl⟩ rfl dX9_advise_7 (g_tout C hx9 Z rfl ⟨Nat.le_of_ble_eq_true rfl, Nat.le_of_ble_eq_true rfl⟩)
