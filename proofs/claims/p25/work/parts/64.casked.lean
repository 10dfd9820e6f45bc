abbrev r_X9_cell : Room := { frames := 3, cells := 0, slots := 0, locals := 66 }
set_option maxHeartbeats 4000000 in
set_option maxRecDepth 100000 in
theorem k_X9_cell (l : Launch) (E : gE) (o tr : Nat) (ad : Nat → Nat) (S : gS) (x y what : Int) (hS : okT S) (hx : (-2147483648 ≤ x ∧ x ≤ 2147483647)) (hy : (-2147483648 ≤ y ∧ y ≤ 2147483647)) (hwhat : (-2147483648 ≤ what ∧ what ≤ 2147483647)) (hc : tC x y) (hw : 0 ≤ what ∧ what ≤ 5) : gK l E yX9_cell cX9_cell 4 (some .int) r_X9_cell [.ref o, .int (iI x), .int (iI y), .int (iI what)] ([(o, .inr (8, [.ref (ad 0), .ref tr]))] ++ (wT E ad S)) (some (.int (iI (cellTell S (10 * y + x) what)))) ([(o, .inr (8, [.ref (ad 0), .ref tr]))] ++ (wT E ad S)) := by
  refine gK_by RX9 rfl mX9_cell [(0, .ref o), (1, .int (iI x)), (2, .int (iI y)), (3, .int (iI what))] (Nat.le_of_ble_eq_true rfl) rfl ?_
  intro zp ze zs zm za zb zh zc zA zQ C Z
  have hd := hc
  unfold tC at hd
  refine g_iload_n C dX9_cell_0 rfl 1 rfl ?_
  refine g_iload_n C dX9_cell_1 rfl 2 rfl ?_
  refine g_callS1 (As := [.int (iI x), .int (iI y)]) (rv := none) (kc' := 0) (ks' := 0) C (k_X9_checkCell_1 l E x y hc) mX9_checkCell wd412 wd411 rfl rfl (Nat.le_of_ble_eq_true rfl) ⟨Nat.le_of_ble_eq_true rfl, Nat.le_of_ble_eq_true rfl⟩ ⟨Nat.le_of_ble_eq_true rfl, Nat.le_of_ble_eq_true rfl⟩ rfl rfl dX9_cell_2 rfl ?_
  refine g_iload_n C dX9_cell_5 rfl 3 rfl ?_
  refine g_iconst C dX9_cell_6 rfl ?_
  refine g_iconst C dX9_cell_7 rfl ?_
  refine g_callS1 (As := [.int (iI what), .int (iI (0)), .int (iI (5))]) (rv := some (.int (iI (bI ((0) ≤ what ∧ what ≤ (5)))))) (kc' := 0) (ks' := 0) C (k_X9_isWithin l E what (0) (5) (by omega) (by omega) (by omega)) mX9_isWithin wd415 wd414 rfl rfl (Nat.le_of_ble_eq_true rfl) ⟨Nat.le_of_ble_eq_true rfl, Nat.le_of_ble_eq_true rfl⟩ ⟨Nat.le_of_ble_eq_true rfl, Nat.le_of_ble_eq_true rfl⟩ rfl rfl dX9_cell_8 rfl ?_
  have n8 := bI_w ((0) ≤ what ∧ what ≤ (5))
  rw [show (bI ((0) ≤ what ∧ what ≤ (5))) = 1 from by omega]
  refine g_callS1 (As := [.int (iI (1))]) (rv := none) (kc' := 0) (ks' := 0) C (k_X9_checkIndex_1 l E) mX9_checkIndex wd418 wd417 rfl rfl (Nat.le_of_ble_eq_true rfl) ⟨Nat.le_of_ble_eq_true rfl, Nat.le_of_ble_eq_true rfl⟩ ⟨Nat.le_of_ble_eq_true rfl, Nat.le_of_ble_eq_true rfl⟩ rfl rfl dX9_cell_11 rfl ?_
  refine g_aload_n C dX9_cell_14 rfl 0 rfl ?_
  refine g_get (v := .ref (ad 0)) (T := TX9) (N := 2) (ci := 8) C in_X9 0 rfl rfl 0 (by decide) wd244 (Or.inl rfl) rfl dX9_cell_15 rfl ?_
  refine g_iload_n C dX9_cell_18 rfl 1 rfl ?_
  refine g_iload_n C dX9_cell_19 rfl 2 rfl ?_
  refine g_callS1 (As := [.int (iI x), .int (iI y)]) (rv := some (.int (iI (10 * y + x)))) (kc' := 0) (ks' := 0) C (k_X9_placeOf l E x y) mX9_placeOf wd508 wd507 rfl rfl (Nat.le_of_ble_eq_true rfl) ⟨Nat.le_of_ble_eq_true rfl, Nat.le_of_ble_eq_true rfl⟩ ⟨Nat.le_of_ble_eq_true rfl, Nat.le_of_ble_eq_true rfl⟩ rfl rfl dX9_cell_20 rfl ?_
  refine g_iload_n C dX9_cell_23 rfl 3 rfl ?_
  refine g_perm (ws1 := wT E ad S ++ ([(o, .inr (8, [.ref (ad 0), .ref tr]))])) pm_10 ?_
  refine g_callVf (As := [.int (iI (10 * y + x)), .int (iI what)]) (rv := some (.int (iI (cellTell S (10 * y + x) what)))) (w1 := wT E ad S) (kc' := 0) (ks' := 0) C ([(o, .inr (8, [.ref (ad 0), .ref tr]))]) (k_X7_tellCell l E ad S (10 * y + x) what hS (by omega) (by omega)) mX7_tellCell iX7_tellCell wd290 0 6 rfl rfl rfl rfl rfl (Nat.le_of_ble_eq_true rfl) ⟨Nat.le_of_ble_eq_true rfl, Nat.le_of_ble_eq_true rfl⟩ ⟨Nat.le_of_ble_eq_true rfl, Nat.le_of_ble_eq_true rfl⟩ rfl rfl rfl dX9_cell_24 rfl ?_
  refine g_perm (ws1 := [(o, .inr (8, [.ref (ad 0), .ref tr]))] ++ (wT E ad S)) pm_10 ?_
  exact z_iret C Z rfl dX9_cell_27 rfl rfl
abbrev r_X9_gauge : Room := { frames := 2, cells := 0, slots := 0, locals := 45 }
set_option maxHeartbeats 4000000 in
set_option maxRecDepth 100000 in
theorem k_X9_gauge (l : Launch) (E : gE) (o tr : Nat) (ad : Nat → Nat) (S : gS) (a what : Int) (hS : okT S) (ha : (-2147483648 ≤ a ∧ a ≤ 2147483647)) (hwhat : (-2147483648 ≤ what ∧ what ≤ 2147483647)) (h : 0 ≤ a ∧ a < S.2 2) (hw : 0 ≤ what ∧ what ≤ 4) : gK l E yX9_gauge cX9_gauge 3 (some .int) r_X9_gauge [.ref o, .int (iI a), .int (iI what)] ([(o, .inr (8, [.ref (ad 0), .ref tr]))] ++ (wT E ad S)) (some (.int (iI (gTell S a what)))) ([(o, .inr (8, [.ref (ad 0), .ref tr]))] ++ (wT E ad S)) := by
  refine gK_by RX9 rfl mX9_gauge [(0, .ref o), (1, .int (iI a)), (2, .int (iI what))] (Nat.le_of_ble_eq_true rfl) rfl ?_
  intro zp ze zs zm za zb zh zc zA zQ C Z
  have hi1 := okT_i2 hS
  refine g_aload_n C dX9_gauge_0 rfl 0 rfl ?_
  refine g_get (v := .ref (ad 0)) (T := TX9) (N := 2) (ci := 8) C in_X9 0 rfl rfl 0 (by decide) wd244 (Or.inl rfl) rfl dX9_gauge_1 rfl ?_
  refine g_get (v := .ref (ad 13)) (T := TX7) (N := 8) (ci := 6) C in_X7 1 rfl rfl 3 (by decide) wd219 (Or.inl rfl) rfl dX9_gauge_4 rfl ?_
  refine g_iload_n C dX9_gauge_7 rfl 1 rfl ?_
  refine g_perm (ws1 := wT E ad S ++ ([(o, .inr (8, [.ref (ad 0), .ref tr]))])) pm_10 ?_
  refine g_callUf (As := [.int (iI a)]) (rv := some (.int (iI (bI (0 ≤ a ∧ a < (S.2 2)))))) (w1 := wT E ad S) (kc' := 0) (ks' := 0) C "FloodWardens$Numbered" RX1 ([(o, .inr (8, [.ref (ad 0), .ref tr]))]) (k_X4_has_X1 l E ad S a hS (by omega)) mX4_has ⟨wd591, wd673, wd672⟩ rfl (by decide +kernel) wd671 13 1 rfl rfl rfl rfl rfl (Nat.le_of_ble_eq_true rfl) ⟨Nat.le_of_ble_eq_true rfl, Nat.le_of_ble_eq_true rfl⟩ ⟨Nat.le_of_ble_eq_true rfl, Nat.le_of_ble_eq_true rfl⟩ rfl rfl rfl dX9_gauge_8 rfl ?_
  refine g_perm (ws1 := [(o, .inr (8, [.ref (ad 0), .ref tr]))] ++ (wT E ad S)) pm_10 ?_
  have n8 := bI_w (0 ≤ a ∧ a < (S.2 2))
  refine g_if_eq C dX9_gauge_11 27 (by decide) rfl (by omega) (fun c11 => ?_) (fun c11 => ?_)
  · skip
    refine g_iconst C dX9_gauge_27 rfl ?_
    exfalso; omega
  · skip
    refine g_iload_n C dX9_gauge_14 rfl 2 rfl ?_
    refine g_iconst C dX9_gauge_15 rfl ?_
    refine g_iconst C dX9_gauge_16 rfl ?_
    refine g_callS1 (As := [.int (iI what), .int (iI (0)), .int (iI (4))]) (rv := some (.int (iI (bI ((0) ≤ what ∧ what ≤ (4)))))) (kc' := 0) (ks' := 0) C (k_X9_isWithin l E what (0) (4) (by omega) (by omega) (by omega)) mX9_isWithin wd415 wd414 rfl rfl (Nat.le_of_ble_eq_true rfl) ⟨Nat.le_of_ble_eq_true rfl, Nat.le_of_ble_eq_true rfl⟩ ⟨Nat.le_of_ble_eq_true rfl, Nat.le_of_ble_eq_true rfl⟩ rfl rfl dX9_gauge_17 rfl ?_
    have n17 := bI_w ((0) ≤ what ∧ what ≤ (4))
    refine g_if_eq C dX9_gauge_20 27 (by decide) rfl (by omega) (fun c20 => ?_) (fun c20 => ?_)
    · skip
      refine g_iconst C dX9_gauge_27 rfl ?_
      exfalso; omega
    · skip
      refine g_iconst C dX9_gauge_23 rfl ?_
      refine g_goto C dX9_gauge_24 28 (by decide) ?_
      refine g_callS1 (As := [.int (iI (1))]) (rv := none) (kc' := 0) (ks' := 0) C (k_X9_checkIndex_1 l E) mX9_checkIndex wd418 wd417 rfl rfl (Nat.le_of_ble_eq_true rfl) ⟨Nat.le_of_ble_eq_true rfl, Nat.le_of_ble_eq_true rfl⟩ ⟨Nat.le_of_ble_eq_true rfl, Nat.le_of_ble_eq_true rfl⟩ rfl rfl dX9_gauge_28 rfl ?_
      refine g_aload_n C dX9_gauge_31 rfl 0 rfl ?_
      refine g_get (v := .ref (ad 0)) (T := TX9) (N := 2) (ci := 8) C in_X9 0 rfl rfl 0 (by decide) wd244 (Or.inl rfl) rfl dX9_gauge_32 rfl ?_
      refine g_get (v := .ref (ad 13)) (T := TX7) (N := 8) (ci := 6) C in_X7 1 rfl rfl 3 (by decide) wd219 (Or.inl rfl) rfl dX9_gauge_35 rfl ?_
      refine g_iload_n C dX9_gauge_38 rfl 1 rfl ?_
      refine g_iload_n C dX9_gauge_39 rfl 2 rfl ?_
      refine g_aload_n C dX9_gauge_40 rfl 0 rfl ?_
      refine g_get (v := .ref (ad 0)) (T := TX9) (N := 2) (ci := 8) C in_X9 0 rfl rfl 0 (by decide) wd244 (Or.inl rfl) rfl dX9_gauge_41 rfl ?_
      refine g_get (v := .ref (ad 1)) (T := TX7) (N := 8) (ci := 6) C in_X7 1 rfl rfl 1 (by decide) wd215 (Or.inl rfl) rfl dX9_gauge_44 rfl ?_
      refine g_perm (ws1 := wT E ad S ++ ([(o, .inr (8, [.ref (ad 0), .ref tr]))])) pm_10 ?_
      refine g_callVf (As := [.int (iI a), .int (iI what), .ref (ad 1)]) (rv := some (.int (iI (gTell S a what)))) (w1 := wT E ad S) (kc' := 0) (ks' := 0) C ([(o, .inr (8, [.ref (ad 0), .ref tr]))]) (k_X1_tell l E ad S a what hS (by omega) (by omega)) mX1_tell iX1_tell wd330 13 1 rfl rfl rfl rfl rfl (Nat.le_of_ble_eq_true rfl) ⟨Nat.le_of_ble_eq_true rfl, Nat.le_of_ble_eq_true rfl⟩ ⟨Nat.le_of_ble_eq_true rfl, Nat.le_of_ble_eq_true rfl⟩ rfl rfl rfl dX9_gauge_47 rfl ?_
      refine g_perm (ws1 := [(o, .inr (8, [.ref (ad 0), .ref tr]))] ++ (wT E ad S)) pm_10 ?_
      exact z_iret C Z rfl dX9_gauge_50 rfl rfl
abbrev r_X9_refuge : Room := { frames := 2, cells := 0, slots := 0, locals := 43 }
set_option maxHeartbeats 4000000 in
set_option maxRecDepth 100000 in
theorem k_X9_refuge (l : Launch) (E : gE) (o tr : Nat) (ad : Nat → Nat) (S : gS) (a what : Int) (hS : okT S) (ha : (-2147483648 ≤ a ∧ a ≤ 2147483647)) (hwhat : (-2147483648 ≤ what ∧ what ≤ 2147483647)) (h : 0 ≤ a ∧ a < S.2 3) (hw : 0 ≤ what ∧ what ≤ 4) : gK l E yX9_refuge cX9_refuge 3 (some .int) r_X9_refuge [.ref o, .int (iI a), .int (iI what)] ([(o, .inr (8, [.ref (ad 0), .ref tr]))] ++ (wT E ad S)) (some (.int (iI (rTell S a what)))) ([(o, .inr (8, [.ref (ad 0), .ref tr]))] ++ (wT E ad S)) := by
  refine gK_by RX9 rfl mX9_refuge [(0, .ref o), (1, .int (iI a)), (2, .int (iI what))] (Nat.le_of_ble_eq_true rfl) rfl ?_
  intro zp ze zs zm za zb zh zc zA zQ C Z
  have hi1 := okT_i3 hS
  refine g_aload_n C dX9_refuge_0 rfl 0 rfl ?_
  refine g_get (v := .ref (ad 0)) (T := TX9) (N := 2) (ci := 8) C in_X9 0 rfl rfl 0 (by decide) wd244 (Or.inl rfl) rfl dX9_refuge_1 rfl ?_
  refine g_get (v := .ref (ad 16)) (T := TX7) (N := 8) (ci := 6) C in_X7 1 rfl rfl 4 (by decide) wd221 (Or.inl rfl) rfl dX9_refuge_4 rfl ?_
  refine g_iload_n C dX9_refuge_7 rfl 1 rfl ?_
  refine g_perm (ws1 := wT E ad S ++ ([(o, .inr (8, [.ref (ad 0), .ref tr]))])) pm_10 ?_
  refine g_callUf (As := [.int (iI a)]) (rv := some (.int (iI (bI (0 ≤ a ∧ a < (S.2 3)))))) (w1 := wT E ad S) (kc' := 0) (ks' := 0) C "FloodWardens$Numbered" RX6 ([(o, .inr (8, [.ref (ad 0), .ref tr]))]) (k_X4_has_X6 l E ad S a hS (by omega)) mX4_has ⟨wd591, wd683, wd682⟩ rfl (by decide +kernel) wd681 16 5 rfl rfl rfl rfl rfl (Nat.le_of_ble_eq_true rfl) ⟨Nat.le_of_ble_eq_true rfl, Nat.le_of_ble_eq_true rfl⟩ ⟨Nat.le_of_ble_eq_true rfl, Nat.le_of_ble_eq_true rfl⟩ rfl rfl rfl dX9_refuge_8 rfl ?_
  refine g_perm (ws1 := [(o, .inr (8, [.ref (ad 0), .ref tr]))] ++ (wT E ad S)) pm_10 ?_
  have n8 := bI_w (0 ≤ a ∧ a < (S.2 3))
  refine g_if_eq C dX9_refuge_11 27 (by decide) rfl (by omega) (fun c11 => ?_) (fun c11 => ?_)
  · skip
    refine g_iconst C dX9_refuge_27 rfl ?_
    exfalso; omega
  · skip
    refine g_iload_n C dX9_refuge_14 rfl 2 rfl ?_
    refine g_iconst C dX9_refuge_15 rfl ?_
    refine g_iconst C dX9_refuge_16 rfl ?_
    refine g_callS1 (As := [.int (iI what), .int (iI (0)), .int (iI (4))]) (rv := some (.int (iI (bI ((0) ≤ what ∧ what ≤ (4)))))) (kc' := 0) (ks' := 0) C (k_X9_isWithin l E what (0) (4) (by omega) (by omega) (by omega)) mX9_isWithin wd415 wd414 rfl rfl (Nat.le_of_ble_eq_true rfl) ⟨Nat.le_of_ble_eq_true rfl, Nat.le_of_ble_eq_true rfl⟩ ⟨Nat.le_of_ble_eq_true rfl, Nat.le_of_ble_eq_true rfl⟩ rfl rfl dX9_refuge_17 rfl ?_
    have n17 := bI_w ((0) ≤ what ∧ what ≤ (4))
    refine g_if_eq C dX9_refuge_20 27 (by decide) rfl (by omega) (fun c20 => ?_) (fun c20 => ?_)
    · skip
      refine g_iconst C dX9_refuge_27 rfl ?_
      exfalso; omega
    · skip
      refine g_iconst C dX9_refuge_23 rfl ?_
      refine g_goto C dX9_refuge_24 28 (by decide) ?_
      refine g_callS1 (As := [.int (iI (1))]) (rv := none) (kc' := 0) (ks' := 0) C (k_X9_checkIndex_1 l E) mX9_checkIndex wd418 wd417 rfl rfl (Nat.le_of_ble_eq_true rfl) ⟨Nat.le_of_ble_eq_true rfl, Nat.le_of_ble_eq_true rfl⟩ ⟨Nat.le_of_ble_eq_true rfl, Nat.le_of_ble_eq_true rfl⟩ rfl rfl dX9_refuge_28 rfl ?_
      refine g_aload_n C dX9_refuge_31 rfl 0 rfl ?_
      refine g_get (v := .ref (ad 0)) (T := TX9) (N := 2) (ci := 8) C in_X9 0 rfl rfl 0 (by decide) wd244 (Or.inl rfl) rfl dX9_refuge_32 rfl ?_
      refine g_get (v := .ref (ad 16)) (T := TX7) (N := 8) (ci := 6) C in_X7 1 rfl rfl 4 (by decide) wd221 (Or.inl rfl) rfl dX9_refuge_35 rfl ?_
      refine g_iload_n C dX9_refuge_38 rfl 1 rfl ?_
      refine g_iload_n C dX9_refuge_39 rfl 2 rfl ?_
      refine g_perm (ws1 := wT E ad S ++ ([(o, .inr (8, [.ref (ad 0), .ref tr]))])) pm_10 ?_
      refine g_callVf (As := [.int (iI a), .int (iI what)]) (rv := some (.int (iI (rTell S a what)))) (w1 := wT E ad S) (kc' := 0) (ks' := 0) C ([(o, .inr (8, [.ref (ad 0), .ref tr]))]) (k_X6_tell l E ad S a what hS (by omega) (by omega)) mX6_tell iX6_tell wd340 16 5 rfl rfl rfl rfl rfl (Nat.le_of_ble_eq_true rfl) ⟨Nat.le_of_ble_eq_true rfl, Nat.le_of_ble_eq_true rfl⟩ ⟨Nat.le_of_ble_eq_true rfl, Nat.le_of_ble_eq_true rfl⟩ rfl rfl rfl dX9_refuge_40 rfl ?_
      refine g_perm (ws1 := [(o, .inr (8, [.ref (ad 0), .ref tr]))] ++ (wT E ad S)) pm_10 ?_
      exact z_iret C Z rfl dX9_refuge_43 rfl rfl
abbrev r_X9_household : Room := { frames := 5, cells := 0, slots := 0, locals := 112 }
set_option maxHeartbeats 4000000 in
set_option maxRecDepth 100000 in
theorem k_X9_household (l : Launch) (E : gE) (o tr : Nat) (ad : Nat → Nat) (S : gS) (a what : Int) (hS : okT S) (ha : (-2147483648 ≤ a ∧ a ≤ 2147483647)) (hwhat : (-2147483648 ≤ what ∧ what ≤ 2147483647)) (h : 0 ≤ a ∧ a < S.2 4) (hw : 0 ≤ what ∧ what ≤ 4) : gK l E yX9_household cX9_household 3 (some .int) r_X9_household [.ref o, .int (iI a), .int (iI what)] ([(o, .inr (8, [.ref (ad 0), .ref tr]))] ++ (wT E ad S)) (some (.int (iI (hTell S a what)))) ([(o, .inr (8, [.ref (ad 0), .ref tr]))] ++ (wT E ad (hTellS S a what))) := by
  refine gK_by RX9 rfl mX9_household [(0, .ref o), (1, .int (iI a)), (2, .int (iI what))] (Nat.le_of_ble_eq_true rfl) rfl ?_
  intro zp ze zs zm za zb zh zc zA zQ C Z
  have hi1 := okT_i4 hS
  refine g_aload_n C dX9_household_0 rfl 0 rfl ?_
  refine g_get (v := .ref (ad 0)) (T := TX9) (N := 2) (ci := 8) C in_X9 0 rfl rfl 0 (by decide) wd244 (Or.inl rfl) rfl dX9_household_1 rfl ?_
  refine g_get (v := .ref (ad 21)) (T := TX7) (N := 8) (ci := 6) C in_X7 1 rfl rfl 5 (by decide) wd223 (Or.inl rfl) rfl dX9_household_4 rfl ?_
  refine g_iload_n C dX9_household_7 rfl 1 rfl ?_
  refine g_perm (ws1 := wT E ad S ++ ([(o, .inr (8, [.ref (ad 0), .ref tr]))])) pm_10 ?_
  refine g_callUf (As := [.int (iI a)]) (rv := some (.int (iI (bI (0 ≤ a ∧ a < (S.2 4)))))) (w1 := wT E ad S) (kc' := 0) (ks' := 0) C "FloodWardens$Numbered" RX2 ([(o, .inr (8, [.ref (ad 0), .ref tr]))]) (k_X4_has_X2 l E ad S a hS (by omega)) mX4_has ⟨wd591, wd693, wd692⟩ rfl (by decide +kernel) wd691 21 2 rfl rfl rfl rfl rfl (Nat.le_of_ble_eq_true rfl) ⟨Nat.le_of_ble_eq_true rfl, Nat.le_of_ble_eq_true rfl⟩ ⟨Nat.le_of_ble_eq_true rfl, Nat.le_of_ble_eq_true rfl⟩ rfl rfl rfl dX9_household_8 rfl ?_
  refine g_perm (ws1 := [(o, .inr (8, [.ref (ad 0), .ref tr]))] ++ (wT E ad S)) pm_10 ?_
  have n8 := bI_w (0 ≤ a ∧ a < (S.2 4))
  refine g_if_eq C dX9_household_11 27 (by decide) rfl (by omega) (fun c11 => ?_) (fun c11 => ?_)
  · skip
    refine g_iconst C dX9_household_27 rfl ?_
    exfalso; omega
  · skip
    refine g_iload_n C dX9_household_14 rfl 2 rfl ?_
    refine g_iconst C dX9_household_15 rfl ?_
    refine g_iconst C dX9_household_16 rfl ?_
    refine g_callS1 (As := [.int (iI what), .int (iI (0)), .int (iI (4))]) (rv := some (.int (iI (bI ((0) ≤ what ∧ what ≤ (4)))))) (kc' := 0) (ks' := 0) C (k_X9_isWithin l E what (0) (4) (by omega) (by omega) (by omega)) mX9_isWithin wd415 wd414 rfl rfl (Nat.le_of_ble_eq_true rfl) ⟨Nat.le_of_ble_eq_true rfl, Nat.le_of_ble_eq_true rfl⟩ ⟨Nat.le_of_ble_eq_true rfl, Nat.le_of_ble_eq_true rfl⟩ rfl rfl dX9_household_17 rfl ?_
    have n17 := bI_w ((0) ≤ what ∧ what ≤ (4))
    refine g_if_eq C dX9_household_20 27 (by decide) rfl (by omega) (fun c20 => ?_) (fun c20 => ?_)
    · skip
      refine g_iconst C dX9_household_27 rfl ?_
      exfalso; omega
    · skip
      refine g_iconst C dX9_household_23 rfl ?_
      refine g_goto C dX9_household_24 28 (by decide) ?_
      refine g_callS1 (As := [.int (iI (1))]) (rv := none) (kc' := 0) (ks' := 0) C (k_X9_checkIndex_1 l E) mX9_checkIndex wd418 wd417 rfl rfl (Nat.le_of_ble_eq_true rfl) ⟨Nat.le_of_ble_eq_true rfl, Nat.le_of_ble_eq_true rfl⟩ ⟨Nat.le_of_ble_eq_true rfl, Nat.le_of_ble_eq_true rfl⟩ rfl rfl dX9_household_28 rfl ?_
      refine g_aload_n C dX9_household_31 rfl 0 rfl ?_
      refine g_get (v := .ref (ad 0)) (T := TX9) (N := 2) (ci := 8) C in_X9 0 rfl rfl 0 (by decide) wd244 (Or.inl rfl) rfl dX9_household_32 rfl ?_
      refine g_iload_n C dX9_household_35 rfl 1 rfl ?_
      refine g_iload_n C dX9_household_36 rfl 2 rfl ?_
      refine g_perm (ws1 := wT E ad S ++ ([(o, .inr (8, [.ref (ad 0), .ref tr]))])) pm_10 ?_
      refine g_callVf (As := [.int (iI a), .int (iI what)]) (rv := some (.int (iI (hTell S a what)))) (w1 := wT E ad (hTellS S a what)) (kc' := 0) (ks' := 0) C ([(o, .inr (8, [.ref (ad 0), .ref tr]))]) (k_X7_tellHousehold l E ad S a what hS (by omega) (by omega)) mX7_tellHousehold iX7_tellHousehold wd354 0 6 rfl rfl rfl rfl rfl (Nat.le_of_ble_eq_true rfl) ⟨Nat.le_of_ble_eq_true rfl, Nat.le_of_ble_eq_true rfl⟩ ⟨Nat.le_of_ble_eq_true rfl, Nat.le_of_ble_eq_true rfl⟩ rfl rfl rfl dX9_household_37 rfl ?_
      refine g_perm (ws1 := [(o, .inr (8, [.ref (ad 0), .ref tr]))] ++ (wT E ad (hTellS S a what))) pm_10 ?_
      exact z_iret C Z rfl dX9_household_40 rfl rfl
abbrev r_X9_count : Room := { frames := 3, cells := 0, slots := 0, locals := 66 }
set_option maxHeartbeats 4000000 in
set_option maxRecDepth 100000 in
theorem k_X9_count (l : Launch) (E : gE) (o tr : Nat) (ad : Nat → Nat) (S : gS) (what : Int) (hS : okT S) (hwhat : (-2147483648 ≤ what ∧ what ≤ 2147483647)) (hw : 0 ≤ what ∧ what ≤ 9) : gK l E yX9_count cX9_count 2 (some .int) r_X9_count [.ref o, .int (iI what)] ([(o, .inr (8, [.ref (ad 0), .ref tr]))] ++ (wT E ad S)) (some (.int (iI (nTell S what)))) ([(o, .inr (8, [.ref (ad 0), .ref tr]))] ++ (wT E ad S)) := by
  refine gK_by RX9 rfl mX9_count [(0, .ref o), (1, .int (iI what))] (Nat.le_of_ble_eq_true rfl) rfl ?_
  intro zp ze zs zm za zb zh zc zA zQ C Z
  refine g_iload_n C dX9_count_0 rfl 1 rfl ?_
  refine g_iconst C dX9_count_1 rfl ?_
  refine g_bipush C dX9_count_2 rfl rfl ?_
  refine g_callS1 (As := [.int (iI what), .int (iI (0)), .int (iI (9))]) (rv := some (.int (iI (bI ((0) ≤ what ∧ what ≤ (9)))))) (kc' := 0) (ks' := 0) C (k_X9_isWithin l E what (0) (9) (by omega) (by omega) (by omega)) mX9_isWithin wd415 wd414 rfl rfl (Nat.le_of_ble_eq_true rfl) ⟨Nat.le_of_ble_eq_true rfl, Nat.le_of_ble_eq_true rfl⟩ ⟨Nat.le_of_ble_eq_true rfl, Nat.le_of_ble_eq_true rfl⟩ rfl rfl dX9_count_4 rfl ?_
  have n4 := bI_w ((0) ≤ what ∧ what ≤ (9))
  rw [show (bI ((0) ≤ what ∧ what ≤ (9))) = 1 from by omega]
  refine g_callS1 (As := [.int (iI (1))]) (rv := none) (kc' := 0) (ks' := 0) C (k_X9_checkIndex_1 l E) mX9_checkIndex wd418 wd417 rfl rfl (Nat.le_of_ble_eq_true rfl) ⟨Nat.le_of_ble_eq_true rfl, Nat.le_of_ble_eq_true rfl⟩ ⟨Nat.le_of_ble_eq_true rfl, Nat.le_of_ble_eq_true rfl⟩ rfl rfl dX9_count_7 rfl ?_
  refine g_aload_n C dX9_count_10 rfl 0 rfl ?_
  refine g_get (v := .ref (ad 0)) (T := TX9) (N := 2) (ci := 8) C in_X9 0 rfl rfl 0 (by decide) wd244 (Or.inl rfl) rfl dX9_count_11 rfl ?_
  refine g_iload_n C dX9_count_14 rfl 1 rfl ?_
  refine g_perm (ws1 := wT E ad S ++ ([(o, .inr (8, [.ref (ad 0), .ref tr]))])) pm_10 ?_
  refine g_callVf (As := [.int (iI what)]) (rv := some (.int (iI (nTell S what)))) (w1 := wT E ad S) (kc' := 0) (ks' := 0) C ([(o, .inr (8, [.ref (ad 0), .ref tr]))]) (k_X7_tellCount l E ad S what hS (by omega)) mX7_tellCount iX7_tellCount wd265 0 6 rfl rfl rfl rfl rfl (Nat.le_of_ble_eq_true rfl) ⟨Nat.le_of_ble_eq_true rfl, Nat.le_of_ble_eq_true rfl⟩ ⟨Nat.le_of_ble_eq_true rfl, Nat.le_of_ble_eq_true rfl⟩ rfl rfl rfl dX9_count_15 rfl ?_
  refine g_perm (ws1 := [(o, .inr (8, [.ref (ad 0), .ref tr]))] ++ (wT E ad S)) pm_10 ?_
  exact z_iret C Z rfl dX9_count_18 rfl rfl
