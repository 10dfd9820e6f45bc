abbrev q_X9_checkCell : Room := { frames := 7, cells := 1, slots := 6, locals := 110 }
set_option maxHeartbeats 4000000 in
set_option maxRecDepth 100000 in
theorem t_X9_checkCell (l : Launch) (E : gE) (sa : gTx) (hfl : l.stackTraces = false) (x y : Int) (hc : ¬ tC x y) (hx : (-2147483648 ≤ x ∧ x ≤ 2147483647)) (hy : (-2147483648 ≤ y ∧ y ≤ 2147483647)) : gKT l E yX9_checkCell cX9_checkCell 2 none q_X9_checkCell [.int (iI x), .int (iI y)] ([]) sa "java/lang/IndexOutOfBoundsException" ([]) := by
  refine gKT_by RX9 rfl (by decide) mX9_checkCell [(0, .int (iI x)), (1, .int (iI y))] (Nat.le_of_ble_eq_true rfl) rfl ?_
  intro zp ze zs zm za zb zh zc zA zQ hx9 C hX9 Z
  unfold tC at hc
  refine g_iload_n C dX9_checkCell_0 rfl 0 rfl ?_
  refine g_iconst C dX9_checkCell_1 rfl ?_
  refine g_bipush C dX9_checkCell_2 rfl rfl ?_
  refine g_callS1 (As := [.int (iI x), .int (iI (0)), .int (iI (9))]) (rv := some (.int (iI (bI ((0) ≤ x ∧ x ≤ (9)))))) (kc' := 0) (ks' := 0) C (k_X9_isWithin l E x (0) (9) (by omega) (by omega) (by omega)) mX9_isWithin wd415 wd414 rfl rfl (Nat.le_of_ble_eq_true rfl) ⟨Nat.le_of_ble_eq_true rfl, Nat.le_of_ble_eq_true rfl⟩ ⟨Nat.le_of_ble_eq_true rfl, Nat.le_of_ble_eq_true rfl⟩ rfl rfl dX9_checkCell_4 rfl ?_
  have n4 := bI_w ((0) ≤ x ∧ x ≤ (9))
  refine g_if_eq C dX9_checkCell_7 24 (by decide) rfl (by omega) (fun c7 => ?_) (fun c7 => ?_)
  · skip
    refine g_iconst C dX9_checkCell_24 rfl ?_
    exact g_callST (As := [.int (iI (0))]) ([]) C hX9 (t_X9_checkIndex l E sa hfl) (fun _ => gPX_blind) mX9_checkIndex wd418 wd417 rfl rfl (Nat.le_of_ble_eq_true rfl) ⟨Nat.le_of_ble_eq_true rfl, Nat.le_of_ble_eq_true rfl⟩ ⟨Nat.le_of_ble_eq_true rfl, Nat.le_of_ble_eq_true rfl⟩ rfl dX9_checkCell_25 (g_tout C hx9 Z rfl ⟨Nat.le_of_ble_eq_true rfl, Nat.le_of_ble_eq_true rfl⟩)
  · skip
    refine g_iload_n C dX9_checkCell_10 rfl 1 rfl ?_
    refine g_iconst C dX9_checkCell_11 rfl ?_
    refine g_bipush C dX9_checkCell_12 rfl rfl ?_
    refine g_callS1 (As := [.int (iI y), .int (iI (0)), .int (iI (7))]) (rv := some (.int (iI (bI ((0) ≤ y ∧ y ≤ (7)))))) (kc' := 0) (ks' := 0) C (k_X9_isWithin l E y (0) (7) (by omega) (by omega) (by omega)) mX9_isWithin wd415 wd414 rfl rfl (Nat.le_of_ble_eq_true rfl) ⟨Nat.le_of_ble_eq_true rfl, Nat.le_of_ble_eq_true rfl⟩ ⟨Nat.le_of_ble_eq_true rfl, Nat.le_of_ble_eq_true rfl⟩ rfl rfl dX9_checkCell_14 rfl ?_
    have n14 := bI_w ((0) ≤ y ∧ y ≤ (7))
    refine g_if_eq C dX9_checkCell_17 24 (by decide) rfl (by omega) (fun c17 => ?_) (fun c17 => ?_)
    · skip
      refine g_iconst C dX9_checkCell_24 rfl ?_
      exact g_callST (As := [.int (iI (0))]) ([]) C hX9 (t_X9_checkIndex l E sa hfl) (fun _ => gPX_blind) mX9_checkIndex wd418 wd417 rfl rfl (Nat.le_of_ble_eq_true rfl) ⟨Nat.le_of_ble_eq_true rfl, Nat.le_of_ble_eq_true rfl⟩ ⟨Nat.le_of_ble_eq_true rfl, Nat.le_of_ble_eq_true rfl⟩ rfl dX9_checkCell_25 (g_tout C hx9 Z rfl ⟨Nat.le_of_ble_eq_true rfl, Nat.le_of_ble_eq_true rfl⟩)
    · skip
      refine g_iconst C dX9_checkCell_20 rfl ?_
      refine g_goto C dX9_checkCell_21 25 (by decide) ?_
      exfalso; omega
