abbrev r_X9_placeOf : Room := { frames := 0, cells := 0, slots := 0, locals := 0 }
set_option maxHeartbeats 4000000 in
set_option maxRecDepth 100000 in
theorem k_X9_placeOf (l : Launch) (E : gE) (x y : Int) : gK l E yX9_placeOf cX9_placeOf 2 (some .int) r_X9_placeOf [.int (iI x), .int (iI y)] ([]) (some (.int (iI (10 * y + x)))) ([]) := by
  refine gK_by RX9 rfl mX9_placeOf [(0, .int (iI x)), (1, .int (iI y))] (Nat.le_of_ble_eq_true rfl) rfl ?_
  intro zp ze zs zm za zb zh zc zA zQ C Z
  refine g_bipush C dX9_placeOf_0 rfl rfl ?_
  refine g_iload_n C dX9_placeOf_2 rfl 1 rfl ?_
  refine g_imul C dX9_placeOf_3 rfl ?_
  refine g_iload_n C dX9_placeOf_4 rfl 0 rfl ?_
  refine g_iadd C dX9_placeOf_5 rfl ?_
  exact z_iret C Z rfl dX9_placeOf_6 rfl rfl
abbrev r_X9_isWithin : Room := { frames := 0, cells := 0, slots := 0, locals := 0 }
set_option maxHeartbeats 4000000 in
set_option maxRecDepth 100000 in
theorem k_X9_isWithin (l : Launch) (E : gE) (v lo hi : Int) (hv : (-2147483648 ≤ v ∧ v ≤ 2147483647)) (hl : (-2147483648 ≤ lo ∧ lo ≤ 2147483647)) (hh : (-2147483648 ≤ hi ∧ hi ≤ 2147483647)) : gK l E yX9_isWithin cX9_isWithin 3 (some .boolean) r_X9_isWithin [.int (iI v), .int (iI lo), .int (iI hi)] ([]) (some (.int (iI (bI (lo ≤ v ∧ v ≤ hi))))) ([]) := by
  refine gK_by RX9 rfl mX9_isWithin [(0, .int (iI v)), (1, .int (iI lo)), (2, .int (iI hi))] (Nat.le_of_ble_eq_true rfl) rfl ?_
  intro zp ze zs zm za zb zh zc zA zQ C Z
  refine g_iload_n C dX9_isWithin_0 rfl 0 rfl ?_
  refine g_iload_n C dX9_isWithin_1 rfl 1 rfl ?_
  refine g_icmp_lt C dX9_isWithin_2 14 (by decide) rfl (by omega) (by omega) (fun c2 => ?_) (fun c2 => ?_)
  · skip
    refine g_iconst C dX9_isWithin_14 rfl ?_
    exact z_iret C Z (z_nar (by omega)) dX9_isWithin_15 (by exact congrArg (fun z => some (Value.int (iI z))) (by first | (rw [bI_t (by omega)]) | (rw [bI_f (by omega)]))) rfl
  · skip
    refine g_iload_n C dX9_isWithin_5 rfl 0 rfl ?_
    refine g_iload_n C dX9_isWithin_6 rfl 2 rfl ?_
    refine g_icmp_gt C dX9_isWithin_7 14 (by decide) rfl (by omega) (by omega) (fun c7 => ?_) (fun c7 => ?_)
    · skip
      refine g_iconst C dX9_isWithin_14 rfl ?_
      exact z_iret C Z (z_nar (by omega)) dX9_isWithin_15 (by exact congrArg (fun z => some (Value.int (iI z))) (by first | (rw [bI_t (by omega)]) | (rw [bI_f (by omega)]))) rfl
    · skip
      refine g_iconst C dX9_isWithin_10 rfl ?_
      refine g_goto C dX9_isWithin_11 15 (by decide) ?_
      exact z_iret C Z (z_nar (by omega)) dX9_isWithin_15 (by exact congrArg (fun z => some (Value.int (iI z))) (by first | (rw [bI_t (by omega)]) | (rw [bI_f (by omega)]))) rfl
abbrev r_X9_checkIndex : Room := { frames := 0, cells := 0, slots := 0, locals := 0 }
set_option maxHeartbeats 4000000 in
set_option maxRecDepth 100000 in
theorem k_X9_checkIndex_1 (l : Launch) (E : gE)  : gK l E yX9_checkIndex cX9_checkIndex 1 none r_X9_checkIndex [.int (iI (1))] ([]) (none) ([]) := by
  refine gK_by RX9 rfl mX9_checkIndex [(0, .int (iI (1)))] (Nat.le_of_ble_eq_true rfl) rfl ?_
  intro zp ze zs zm za zb zh zc zA zQ C Z
  refine g_iload_n C dX9_checkIndex_0 rfl 0 rfl ?_
  refine g_if_ne C dX9_checkIndex_1 14 (by decide) rfl (by omega) (fun _ => ?_) (fun z => absurd z (by omega))
  exact z_vret C Z dX9_checkIndex_14 rfl rfl
abbrev r_X9_checkArgument : Room := { frames := 0, cells := 0, slots := 0, locals := 0 }
set_option maxHeartbeats 4000000 in
set_option maxRecDepth 100000 in
theorem k_X9_checkArgument_1 (l : Launch) (E : gE)  : gK l E yX9_checkArgument cX9_checkArgument 1 none r_X9_checkArgument [.int (iI (1))] ([]) (none) ([]) := by
  refine gK_by RX9 rfl mX9_checkArgument [(0, .int (iI (1)))] (Nat.le_of_ble_eq_true rfl) rfl ?_
  intro zp ze zs zm za zb zh zc zA zQ C Z
  refine g_iload_n C dX9_checkArgument_0 rfl 0 rfl ?_
  refine g_if_ne C dX9_checkArgument_1 14 (by decide) rfl (by omega) (fun _ => ?_) (fun z => absurd z (by omega))
  exact z_vret C Z dX9_checkArgument_14 rfl rfl
abbrev r_X9_checkState : Room := { frames := 0, cells := 0, slots := 0, locals := 0 }
set_option maxHeartbeats 4000000 in
set_option maxRecDepth 100000 in
theorem k_X9_checkState_1 (l : Launch) (E : gE)  : gK l E yX9_checkState cX9_checkState 1 none r_X9_checkState [.int (iI (1))] ([]) (none) ([]) := by
  refine gK_by RX9 rfl mX9_checkState [(0, .int (iI (1)))] (Nat.le_of_ble_eq_true rfl) rfl ?_
  intro zp ze zs zm za zb zh zc zA zQ C Z
  refine g_iload_n C dX9_checkState_0 rfl 0 rfl ?_
  refine g_if_ne C dX9_checkState_1 14 (by decide) rfl (by omega) (fun _ => ?_) (fun z => absurd z (by omega))
  exact z_vret C Z dX9_checkState_14 rfl rfl
abbrev r_X9_checkCell : Room := { frames := 1, cells := 0, slots := 0, locals := 22 }
set_option maxHeartbeats 4000000 in
set_option maxRecDepth 100000 in
theorem k_X9_checkCell_1 (l : Launch) (E : gE) (x y : Int) (hc : tC x y) : gK l E yX9_checkCell cX9_checkCell 2 none r_X9_checkCell [.int (iI x), .int (iI y)] ([]) (none) ([]) := by
  refine gK_by RX9 rfl mX9_checkCell [(0, .int (iI x)), (1, .int (iI y))] (Nat.le_of_ble_eq_true rfl) rfl ?_
  intro zp ze zs zm za zb zh zc zA zQ C Z
  unfold tC at hc
  refine g_iload_n C dX9_checkCell_0 rfl 0 rfl ?_
  refine g_iconst C dX9_checkCell_1 rfl ?_
  refine g_bipush C dX9_checkCell_2 rfl rfl ?_
  refine g_callS1 (As := [.int (iI x), .int (iI (0)), .int (iI (9))]) (rv := some (.int (iI (bI ((0) ≤ x ∧ x ≤ (9)))))) (kc' := 0) (ks' := 0) C (k_X9_isWithin l E x (0) (9) (by omega) (by omega) (by omega)) mX9_isWithin wd415 wd414 rfl rfl (Nat.le_of_ble_eq_true rfl) ⟨Nat.le_of_ble_eq_true rfl, Nat.le_of_ble_eq_true rfl⟩ ⟨Nat.le_of_ble_eq_true rfl, Nat.le_of_ble_eq_true rfl⟩ rfl rfl dX9_checkCell_4 rfl ?_
  have n4 := bI_w ((0) ≤ x ∧ x ≤ (9))
  refine g_if_eq C dX9_checkCell_7 24 (by decide) rfl (by omega) (fun c7 => ?_) (fun c7 => ?_)
  · skip
    refine g_iconst C dX9_checkCell_24 rfl ?_
    exfalso; omega
  · skip
    refine g_iload_n C dX9_checkCell_10 rfl 1 rfl ?_
    refine g_iconst C dX9_checkCell_11 rfl ?_
    refine g_bipush C dX9_checkCell_12 rfl rfl ?_
    refine g_callS1 (As := [.int (iI y), .int (iI (0)), .int (iI (7))]) (rv := some (.int (iI (bI ((0) ≤ y ∧ y ≤ (7)))))) (kc' := 0) (ks' := 0) C (k_X9_isWithin l E y (0) (7) (by omega) (by omega) (by omega)) mX9_isWithin wd415 wd414 rfl rfl (Nat.le_of_ble_eq_true rfl) ⟨Nat.le_of_ble_eq_true rfl, Nat.le_of_ble_eq_true rfl⟩ ⟨Nat.le_of_ble_eq_true rfl, Nat.le_of_ble_eq_true rfl⟩ rfl rfl dX9_checkCell_14 rfl ?_
    have n14 := bI_w ((0) ≤ y ∧ y ≤ (7))
    refine g_if_eq C dX9_checkCell_17 24 (by decide) rfl (by omega) (fun c17 => ?_) (fun c17 => ?_)
    · skip
      refine g_iconst C dX9_checkCell_24 rfl ?_
      exfalso; omega
    · skip
      refine g_iconst C dX9_checkCell_20 rfl ?_
      refine g_goto C dX9_checkCell_21 25 (by decide) ?_
      refine g_callS1 (As := [.int (iI (1))]) (rv := none) (kc' := 0) (ks' := 0) C (k_X9_checkIndex_1 l E) mX9_checkIndex wd418 wd417 rfl rfl (Nat.le_of_ble_eq_true rfl) ⟨Nat.le_of_ble_eq_true rfl, Nat.le_of_ble_eq_true rfl⟩ ⟨Nat.le_of_ble_eq_true rfl, Nat.le_of_ble_eq_true rfl⟩ rfl rfl dX9_checkCell_25 rfl ?_
      exact z_vret C Z dX9_checkCell_28 rfl rfl
