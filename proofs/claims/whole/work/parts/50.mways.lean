abbrev r_X11_isIn : Room := { frames := 0, cells := 0, slots := 0, locals := 0 }
set_option maxHeartbeats 4000000 in
set_option maxRecDepth 100000 in
theorem k_X11_isIn (l : Launch) (E : gE) (v lo hi : Int) (hv : (-2147483648 ≤ v ∧ v ≤ 2147483647)) (hl : (-2147483648 ≤ lo ∧ lo ≤ 2147483647)) (hh : (-2147483648 ≤ hi ∧ hi ≤ 2147483647)) : gK l E yX11_isIn cX11_isIn 3 (some .boolean) r_X11_isIn [.int (iI v), .int (iI lo), .int (iI hi)] ([]) (some (.int (iI (bI (lo ≤ v ∧ v ≤ hi))))) ([]) := by
  refine gK_by RX11 rfl mX11_isIn [(0, .int (iI v)), (1, .int (iI lo)), (2, .int (iI hi))] (Nat.le_of_ble_eq_true rfl) rfl ?_
  intro zp ze zs zm za zb zh zc zA zQ C Z
  refine g_iload_n C dX11_isIn_0 rfl 0 rfl ?_
  refine g_iload_n C dX11_isIn_1 rfl 1 rfl ?_
  refine g_icmp_lt C dX11_isIn_2 14 (by decide) rfl (by omega) (by omega) (fun c2 => ?_) (fun c2 => ?_)
  · skip
    refine g_iconst C dX11_isIn_14 rfl ?_
    exact z_iret C Z (z_nar (by omega)) dX11_isIn_15 (by exact congrArg (fun z => some (Value.int (iI z))) (by first | (rw [bI_t (by omega)]) | (rw [bI_f (by omega)]))) rfl
  · skip
    refine g_iload_n C dX11_isIn_5 rfl 0 rfl ?_
    refine g_iload_n C dX11_isIn_6 rfl 2 rfl ?_
    refine g_icmp_gt C dX11_isIn_7 14 (by decide) rfl (by omega) (by omega) (fun c7 => ?_) (fun c7 => ?_)
    · skip
      refine g_iconst C dX11_isIn_14 rfl ?_
      exact z_iret C Z (z_nar (by omega)) dX11_isIn_15 (by exact congrArg (fun z => some (Value.int (iI z))) (by first | (rw [bI_t (by omega)]) | (rw [bI_f (by omega)]))) rfl
    · skip
      refine g_iconst C dX11_isIn_10 rfl ?_
      refine g_goto C dX11_isIn_11 15 (by decide) ?_
      exact z_iret C Z (z_nar (by omega)) dX11_isIn_15 (by exact congrArg (fun z => some (Value.int (iI z))) (by first | (rw [bI_t (by omega)]) | (rw [bI_f (by omega)]))) rfl
abbrev r_X11_isCell : Room := { frames := 1, cells := 0, slots := 0, locals := 22 }
set_option maxHeartbeats 4000000 in
set_option maxRecDepth 100000 in
theorem k_X11_isCell (l : Launch) (E : gE) (x y : Int) (hx : (-2147483648 ≤ x ∧ x ≤ 2147483647)) (hy : (-2147483648 ≤ y ∧ y ≤ 2147483647)) : gK l E yX11_isCell cX11_isCell 2 (some .boolean) r_X11_isCell [.int (iI x), .int (iI y)] ([]) (some (.int (iI (bI ((0 ≤ x ∧ x ≤ 9) ∧ 0 ≤ y ∧ y ≤ 7))))) ([]) := by
  refine gK_by RX11 rfl mX11_isCell [(0, .int (iI x)), (1, .int (iI y))] (Nat.le_of_ble_eq_true rfl) rfl ?_
  intro zp ze zs zm za zb zh zc zA zQ C Z
  refine g_iload_n C dX11_isCell_0 rfl 0 rfl ?_
  refine g_iconst C dX11_isCell_1 rfl ?_
  refine g_bipush C dX11_isCell_2 rfl rfl ?_
  refine g_callS1 (As := [.int (iI x), .int (iI (0)), .int (iI (9))]) (rv := some (.int (iI (bI ((0) ≤ x ∧ x ≤ (9)))))) (kc' := 0) (ks' := 0) C (k_X11_isIn l E x (0) (9) (by omega) (by omega) (by omega)) mX11_isIn wd986 wd985 rfl rfl (Nat.le_of_ble_eq_true rfl) ⟨Nat.le_of_ble_eq_true rfl, Nat.le_of_ble_eq_true rfl⟩ ⟨Nat.le_of_ble_eq_true rfl, Nat.le_of_ble_eq_true rfl⟩ rfl rfl dX11_isCell_4 rfl ?_
  have n4 := bI_w ((0) ≤ x ∧ x ≤ (9))
  refine g_if_eq C dX11_isCell_7 24 (by decide) rfl (by omega) (fun c7 => ?_) (fun c7 => ?_)
  · skip
    refine g_iconst C dX11_isCell_24 rfl ?_
    exact z_iret C Z (z_nar (by omega)) dX11_isCell_25 (by exact congrArg (fun z => some (Value.int (iI z))) (by first | (rw [bI_t (by omega)]) | (rw [bI_f (by omega)]))) rfl
  · skip
    refine g_iload_n C dX11_isCell_10 rfl 1 rfl ?_
    refine g_iconst C dX11_isCell_11 rfl ?_
    refine g_bipush C dX11_isCell_12 rfl rfl ?_
    refine g_callS1 (As := [.int (iI y), .int (iI (0)), .int (iI (7))]) (rv := some (.int (iI (bI ((0) ≤ y ∧ y ≤ (7)))))) (kc' := 0) (ks' := 0) C (k_X11_isIn l E y (0) (7) (by omega) (by omega) (by omega)) mX11_isIn wd986 wd985 rfl rfl (Nat.le_of_ble_eq_true rfl) ⟨Nat.le_of_ble_eq_true rfl, Nat.le_of_ble_eq_true rfl⟩ ⟨Nat.le_of_ble_eq_true rfl, Nat.le_of_ble_eq_true rfl⟩ rfl rfl dX11_isCell_14 rfl ?_
    have n14 := bI_w ((0) ≤ y ∧ y ≤ (7))
    refine g_if_eq C dX11_isCell_17 24 (by decide) rfl (by omega) (fun c17 => ?_) (fun c17 => ?_)
    · skip
      refine g_iconst C dX11_isCell_24 rfl ?_
      exact z_iret C Z (z_nar (by omega)) dX11_isCell_25 (by exact congrArg (fun z => some (Value.int (iI z))) (by first | (rw [bI_t (by omega)]) | (rw [bI_f (by omega)]))) rfl
    · skip
      refine g_iconst C dX11_isCell_20 rfl ?_
      refine g_goto C dX11_isCell_21 25 (by decide) ?_
      exact z_iret C Z (z_nar (by omega)) dX11_isCell_25 (by exact congrArg (fun z => some (Value.int (iI z))) (by first | (rw [bI_t (by omega)]) | (rw [bI_f (by omega)]))) rfl
abbrev r_X11_beside : Room := { frames := 2, cells := 0, slots := 0, locals := 43 }
set_option maxHeartbeats 4000000 in
set_option maxRecDepth 100000 in
theorem k_X11_beside (l : Launch) (E : gE) (k d : Int) (h : 0 ≤ k ∧ k < 80) (hd : 0 ≤ d ∧ d < 4) : gK l E yX11_beside cX11_beside 4 (some .int) r_X11_beside [.int (iI k), .int (iI d)] ([]) (some (.int (iI (nbr k d)))) ([]) := by
  refine gK_by RX11 rfl mX11_beside [(0, .int (iI k)), (1, .int (iI d))] (Nat.le_of_ble_eq_true rfl) rfl ?_
  intro zp ze zs zm za zb zh zc zA zQ C Z
  refine g_iload_n C dX11_beside_0 rfl 0 rfl ?_
  refine g_bipush C dX11_beside_1 rfl rfl ?_
  refine g_irem C dX11_beside_3 rfl (by omega) (by omega) ?_
  refine g_iload_n C dX11_beside_4 rfl 1 rfl ?_
  refine g_iconst C dX11_beside_5 rfl ?_
  refine g_icmp_ne C dX11_beside_6 13 (by decide) rfl (by omega) (by omega) (fun c6 => ?_) (fun c6 => ?_)
  · skip
    refine g_iload_n C dX11_beside_13 rfl 1 rfl ?_
    refine g_iconst C dX11_beside_14 rfl ?_
    refine g_icmp_ne C dX11_beside_15 22 (by decide) rfl (by omega) (by omega) (fun c15 => ?_) (fun c15 => ?_)
    · skip
      refine g_iconst C dX11_beside_22 rfl ?_
      refine g_iadd C dX11_beside_23 rfl ?_
      refine g_istore_n (lv' := [(2, .int (iI ((k % (10)) + (0)))), (0, .int (iI k)), (1, .int (iI d))]) C dX11_beside_24 rfl (by decide) rfl ?_
      refine g_iload_n C dX11_beside_25 rfl 1 rfl ?_
      refine g_bipush C dX11_beside_26 rfl rfl ?_
      refine g_idiv C dX11_beside_28 rfl (by omega) (by omega) ?_
      refine g_iload_n C dX11_beside_29 rfl 2 rfl ?_
      refine g_iconst C dX11_beside_30 rfl ?_
      refine g_icmp_ne C dX11_beside_31 38 (by decide) rfl (by omega) (by omega) (fun c31 => ?_) (fun c31 => ?_)
      · skip
        refine g_iload_n C dX11_beside_38 rfl 2 rfl ?_
        refine g_if_ne C dX11_beside_39 46 (by decide) rfl (by omega) (fun c39 => ?_) (fun c39 => ?_)
        · skip
          refine g_iconst C dX11_beside_46 rfl ?_
          refine g_iadd C dX11_beside_47 rfl ?_
          refine g_istore_n (lv' := [(3, .int (iI ((k / (10)) + (0)))), (2, .int (iI ((k % (10)) + (0)))), (0, .int (iI k)), (1, .int (iI d))]) C dX11_beside_48 rfl (by decide) rfl ?_
          refine g_iload_n C dX11_beside_49 rfl 1 rfl ?_
          refine g_iload_n C dX11_beside_50 rfl 0 rfl ?_
          refine g_callS1 (As := [.int (iI ((k % (10)) + (0))), .int (iI ((k / (10)) + (0)))]) (rv := some (.int (iI (bI ((0 ≤ ((k % (10)) + (0)) ∧ ((k % (10)) + (0)) ≤ 9) ∧ 0 ≤ ((k / (10)) + (0)) ∧ ((k / (10)) + (0)) ≤ 7))))) (kc' := 0) (ks' := 0) C (k_X11_isCell l E ((k % (10)) + (0)) ((k / (10)) + (0)) (by omega) (by omega)) mX11_isCell wd983 wd982 rfl rfl (Nat.le_of_ble_eq_true rfl) ⟨Nat.le_of_ble_eq_true rfl, Nat.le_of_ble_eq_true rfl⟩ ⟨Nat.le_of_ble_eq_true rfl, Nat.le_of_ble_eq_true rfl⟩ rfl rfl dX11_beside_51 rfl ?_
          have n51 := bI_w ((0 ≤ ((k % (10)) + (0)) ∧ ((k % (10)) + (0)) ≤ 9) ∧ 0 ≤ ((k / (10)) + (0)) ∧ ((k / (10)) + (0)) ≤ 7)
          refine g_if_eq C dX11_beside_54 66 (by decide) rfl (by omega) (fun c54 => ?_) (fun c54 => ?_)
          · skip
            refine g_iconst C dX11_beside_66 rfl ?_
            exact z_iret C Z rfl dX11_beside_67 (by exact congrArg (fun z => some (Value.int (iI z))) (by unfold nbr; (repeat' split) <;> omega)) rfl
          · skip
            refine g_bipush C dX11_beside_57 rfl rfl ?_
            refine g_iload_n C dX11_beside_59 rfl 0 rfl ?_
            refine g_imul C dX11_beside_60 rfl ?_
            refine g_iload_n C dX11_beside_61 rfl 1 rfl ?_
            refine g_iadd C dX11_beside_62 rfl ?_
            refine g_goto C dX11_beside_63 67 (by decide) ?_
            exact z_iret C Z rfl dX11_beside_67 (by exact congrArg (fun z => some (Value.int (iI z))) (by unfold nbr; (repeat' split) <;> omega)) rfl
        · skip
          refine g_iconst C dX11_beside_42 rfl ?_
          refine g_goto C dX11_beside_43 47 (by decide) ?_
          refine g_iadd C dX11_beside_47 rfl ?_
          refine g_istore_n (lv' := [(3, .int (iI ((k / (10)) + (-1)))), (2, .int (iI ((k % (10)) + (0)))), (0, .int (iI k)), (1, .int (iI d))]) C dX11_beside_48 rfl (by decide) rfl ?_
          refine g_iload_n C dX11_beside_49 rfl 1 rfl ?_
          refine g_iload_n C dX11_beside_50 rfl 0 rfl ?_
          refine g_callS1 (As := [.int (iI ((k % (10)) + (0))), .int (iI ((k / (10)) + (-1)))]) (rv := some (.int (iI (bI ((0 ≤ ((k % (10)) + (0)) ∧ ((k % (10)) + (0)) ≤ 9) ∧ 0 ≤ ((k / (10)) + (-1)) ∧ ((k / (10)) + (-1)) ≤ 7))))) (kc' := 0) (ks' := 0) C (k_X11_isCell l E ((k % (10)) + (0)) ((k / (10)) + (-1)) (by omega) (by omega)) mX11_isCell wd983 wd982 rfl rfl (Nat.le_of_ble_eq_true rfl) ⟨Nat.le_of_ble_eq_true rfl, Nat.le_of_ble_eq_true rfl⟩ ⟨Nat.le_of_ble_eq_true rfl, Nat.le_of_ble_eq_true rfl⟩ rfl rfl dX11_beside_51 rfl ?_
          have n51 := bI_w ((0 ≤ ((k % (10)) + (0)) ∧ ((k % (10)) + (0)) ≤ 9) ∧ 0 ≤ ((k / (10)) + (-1)) ∧ ((k / (10)) + (-1)) ≤ 7)
          refine g_if_eq C dX11_beside_54 66 (by decide) rfl (by omega) (fun c54 => ?_) (fun c54 => ?_)
          · skip
            refine g_iconst C dX11_beside_66 rfl ?_
            exact z_iret C Z rfl dX11_beside_67 (by exact congrArg (fun z => some (Value.int (iI z))) (by unfold nbr; (repeat' split) <;> omega)) rfl
          · skip
            refine g_bipush C dX11_beside_57 rfl rfl ?_
            refine g_iload_n C dX11_beside_59 rfl 0 rfl ?_
            refine g_imul C dX11_beside_60 rfl ?_
            refine g_iload_n C dX11_beside_61 rfl 1 rfl ?_
            refine g_iadd C dX11_beside_62 rfl ?_
            refine g_goto C dX11_beside_63 67 (by decide) ?_
            exact z_iret C Z rfl dX11_beside_67 (by exact congrArg (fun z => some (Value.int (iI z))) (by unfold nbr; (repeat' split) <;> omega)) rfl
      · skip
        refine g_iconst C dX11_beside_34 rfl ?_
        refine g_goto C dX11_beside_35 47 (by decide) ?_
        refine g_iadd C dX11_beside_47 rfl ?_
        refine g_istore_n (lv' := [(3, .int (iI ((k / (10)) + (1)))), (2, .int (iI ((k % (10)) + (0)))), (0, .int (iI k)), (1, .int (iI d))]) C dX11_beside_48 rfl (by decide) rfl ?_
        refine g_iload_n C dX11_beside_49 rfl 1 rfl ?_
        refine g_iload_n C dX11_beside_50 rfl 0 rfl ?_
        refine g_callS1 (As := [.int (iI ((k % (10)) + (0))), .int (iI ((k / (10)) + (1)))]) (rv := some (.int (iI (bI ((0 ≤ ((k % (10)) + (0)) ∧ ((k % (10)) + (0)) ≤ 9) ∧ 0 ≤ ((k / (10)) + (1)) ∧ ((k / (10)) + (1)) ≤ 7))))) (kc' := 0) (ks' := 0) C (k_X11_isCell l E ((k % (10)) + (0)) ((k / (10)) + (1)) (by omega) (by omega)) mX11_isCell wd983 wd982 rfl rfl (Nat.le_of_ble_eq_true rfl) ⟨Nat.le_of_ble_eq_true rfl, Nat.le_of_ble_eq_true rfl⟩ ⟨Nat.le_of_ble_eq_true rfl, Nat.le_of_ble_eq_true rfl⟩ rfl rfl dX11_beside_51 rfl ?_
        have n51 := bI_w ((0 ≤ ((k % (10)) + (0)) ∧ ((k % (10)) + (0)) ≤ 9) ∧ 0 ≤ ((k / (10)) + (1)) ∧ ((k / (10)) + (1)) ≤ 7)
        refine g_if_eq C dX11_beside_54 66 (by decide) rfl (by omega) (fun c54 => ?_) (fun c54 => ?_)
        · skip
          refine g_iconst C dX11_beside_66 rfl ?_
          exact z_iret C Z rfl dX11_beside_67 (by exact congrArg (fun z => some (Value.int (iI z))) (by unfold nbr; (repeat' split) <;> omega)) rfl
        · skip
          refine g_bipush C dX11_beside_57 rfl rfl ?_
          refine g_iload_n C dX11_beside_59 rfl 0 rfl ?_
          refine g_imul C dX11_beside_60 rfl ?_
          refine g_iload_n C dX11_beside_61 rfl 1 rfl ?_
          refine g_iadd C dX11_beside_62 rfl ?_
          refine g_goto C dX11_beside_63 67 (by decide) ?_
          exact z_iret C Z rfl dX11_beside_67 (by exact congrArg (fun z => some (Value.int (iI z))) (by unfold nbr; (repeat' split) <;> omega)) rfl
    · skip
      refine g_iconst C dX11_beside_18 rfl ?_
      refine g_goto C dX11_beside_19 23 (by decide) ?_
      refine g_iadd C dX11_beside_23 rfl ?_
      refine g_istore_n (lv' := [(2, .int (iI ((k % (10)) + (-1)))), (0, .int (iI k)), (1, .int (iI d))]) C dX11_beside_24 rfl (by decide) rfl ?_
      refine g_iload_n C dX11_beside_25 rfl 1 rfl ?_
      refine g_bipush C dX11_beside_26 rfl rfl ?_
      refine g_idiv C dX11_beside_28 rfl (by omega) (by omega) ?_
      refine g_iload_n C dX11_beside_29 rfl 2 rfl ?_
      refine g_iconst C dX11_beside_30 rfl ?_
      refine g_icmp_ne C dX11_beside_31 38 (by decide) rfl (by omega) (by omega) (fun c31 => ?_) (fun c31 => ?_)
      · skip
        refine g_iload_n C dX11_beside_38 rfl 2 rfl ?_
        refine g_if_ne C dX11_beside_39 46 (by decide) rfl (by omega) (fun c39 => ?_) (fun c39 => ?_)
        · skip
          refine g_iconst C dX11_beside_46 rfl ?_
          refine g_iadd C dX11_beside_47 rfl ?_
          refine g_istore_n (lv' := [(3, .int (iI ((k / (10)) + (0)))), (2, .int (iI ((k % (10)) + (-1)))), (0, .int (iI k)), (1, .int (iI d))]) C dX11_beside_48 rfl (by decide) rfl ?_
          refine g_iload_n C dX11_beside_49 rfl 1 rfl ?_
          refine g_iload_n C dX11_beside_50 rfl 0 rfl ?_
          refine g_callS1 (As := [.int (iI ((k % (10)) + (-1))), .int (iI ((k / (10)) + (0)))]) (rv := some (.int (iI (bI ((0 ≤ ((k % (10)) + (-1)) ∧ ((k % (10)) + (-1)) ≤ 9) ∧ 0 ≤ ((k / (10)) + (0)) ∧ ((k / (10)) + (0)) ≤ 7))))) (kc' := 0) (ks' := 0) C (k_X11_isCell l E ((k % (10)) + (-1)) ((k / (10)) + (0)) (by omega) (by omega)) mX11_isCell wd983 wd982 rfl rfl (Nat.le_of_ble_eq_true rfl) ⟨Nat.le_of_ble_eq_true rfl, Nat.le_of_ble_eq_true rfl⟩ ⟨Nat.le_of_ble_eq_true rfl, Nat.le_of_ble_eq_true rfl⟩ rfl rfl dX11_beside_51 rfl ?_
          have n51 := bI_w ((0 ≤ ((k % (10)) + (-1)) ∧ ((k % (10)) + (-1)) ≤ 9) ∧ 0 ≤ ((k / (10)) + (0)) ∧ ((k / (10)) + (0)) ≤ 7)
          refine g_if_eq C dX11_beside_54 66 (by decide) rfl (by omega) (fun c54 => ?_) (fun c54 => ?_)
          · skip
            refine g_iconst C dX11_beside_66 rfl ?_
            exact z_iret C Z rfl dX11_beside_67 (by exact congrArg (fun z => some (Value.int (iI z))) (by unfold nbr; (repeat' split) <;> omega)) rfl
          · skip
            refine g_bipush C dX11_beside_57 rfl rfl ?_
            refine g_iload_n C dX11_beside_59 rfl 0 rfl ?_
            refine g_imul C dX11_beside_60 rfl ?_
            refine g_iload_n C dX11_beside_61 rfl 1 rfl ?_
            refine g_iadd C dX11_beside_62 rfl ?_
            refine g_goto C dX11_beside_63 67 (by decide) ?_
            exact z_iret C Z rfl dX11_beside_67 (by exact congrArg (fun z => some (Value.int (iI z))) (by unfold nbr; (repeat' split) <;> omega)) rfl
        · skip
          refine g_iconst C dX11_beside_42 rfl ?_
          refine g_goto C dX11_beside_43 47 (by decide) ?_
          refine g_iadd C dX11_beside_47 rfl ?_
          refine g_istore_n (lv' := [(3, .int (iI ((k / (10)) + (-1)))), (2, .int (iI ((k % (10)) + (-1)))), (0, .int (iI k)), (1, .int (iI d))]) C dX11_beside_48 rfl (by decide) rfl ?_
          refine g_iload_n C dX11_beside_49 rfl 1 rfl ?_
          refine g_iload_n C dX11_beside_50 rfl 0 rfl ?_
          refine g_callS1 (As := [.int (iI ((k % (10)) + (-1))), .int (iI ((k / (10)) + (-1)))]) (rv := some (.int (iI (bI ((0 ≤ ((k % (10)) + (-1)) ∧ ((k % (10)) + (-1)) ≤ 9) ∧ 0 ≤ ((k / (10)) + (-1)) ∧ ((k / (10)) + (-1)) ≤ 7))))) (kc' := 0) (ks' := 0) C (k_X11_isCell l E ((k % (10)) + (-1)) ((k / (10)) + (-1)) (by omega) (by omega)) mX11_isCell wd983 wd982 rfl rfl (Nat.le_of_ble_eq_true rfl) ⟨Nat.le_of_ble_eq_true rfl, Nat.le_of_ble_eq_true rfl⟩ ⟨Nat.le_of_ble_eq_true rfl, Nat.le_of_ble_eq_true rfl⟩ rfl rfl dX11_beside_51 rfl ?_
          have n51 := bI_w ((0 ≤ ((k % (10)) + (-1)) ∧ ((k % (10)) + (-1)) ≤ 9) ∧ 0 ≤ ((k / (10)) + (-1)) ∧ ((k / (10)) + (-1)) ≤ 7)
          refine g_if_eq C dX11_beside_54 66 (by decide) rfl (by omega) (fun c54 => ?_) (fun c54 => ?_)
          · skip
            refine g_iconst C dX11_beside_66 rfl ?_
            exact z_iret C Z rfl dX11_beside_67 (by exact congrArg (fun z => some (Value.int (iI z))) (by unfold nbr; (repeat' split) <;> omega)) rfl
          · skip
            refine g_bipush C dX11_beside_57 rfl rfl ?_
            refine g_iload_n C dX11_beside_59 rfl 0 rfl ?_
            refine g_imul C dX11_beside_60 rfl ?_
            refine g_iload_n C dX11_beside_61 rfl 1 rfl ?_
            refine g_iadd C dX11_beside_62 rfl ?_
            refine g_goto C dX11_beside_63 67 (by decide) ?_
            exact z_iret C Z rfl dX11_beside_67 (by exact congrArg (fun z => some (Value.int (iI z))) (by unfold nbr; (repeat' split) <;> omega)) rfl
      · skip
        refine g_iconst C dX11_beside_34 rfl ?_
        refine g_goto C dX11_beside_35 47 (by decide) ?_
        refine g_iadd C dX11_beside_47 rfl ?_
        refine g_istore_n (lv' := [(3, .int (iI ((k / (10)) + (1)))), (2, .int (iI ((k % (10)) + (-1)))), (0, .int (iI k)), (1, .int (iI d))]) C dX11_beside_48 rfl (by decide) rfl ?_
        refine g_iload_n C dX11_beside_49 rfl 1 rfl ?_
        refine g_iload_n C dX11_beside_50 rfl 0 rfl ?_
        refine g_callS1 (As := [.int (iI ((k % (10)) + (-1))), .int (iI ((k / (10)) + (1)))]) (rv := some (.int (iI (bI ((0 ≤ ((k % (10)) + (-1)) ∧ ((k % (10)) + (-1)) ≤ 9) ∧ 0 ≤ ((k / (10)) + (1)) ∧ ((k / (10)) + (1)) ≤ 7))))) (kc' := 0) (ks' := 0) C (k_X11_isCell l E ((k % (10)) + (-1)) ((k / (10)) + (1)) (by omega) (by omega)) mX11_isCell wd983 wd982 rfl rfl (Nat.le_of_ble_eq_true rfl) ⟨Nat.le_of_ble_eq_true rfl, Nat.le_of_ble_eq_true rfl⟩ ⟨Nat.le_of_ble_eq_true rfl, Nat.le_of_ble_eq_true rfl⟩ rfl rfl dX11_beside_51 rfl ?_
        have n51 := bI_w ((0 ≤ ((k % (10)) + (-1)) ∧ ((k % (10)) + (-1)) ≤ 9) ∧ 0 ≤ ((k / (10)) + (1)) ∧ ((k / (10)) + (1)) ≤ 7)
        refine g_if_eq C dX11_beside_54 66 (by decide) rfl (by omega) (fun c54 => ?_) (fun c54 => ?_)
        · skip
          refine g_iconst C dX11_beside_66 rfl ?_
          exact z_iret C Z rfl dX11_beside_67 (by exact congrArg (fun z => some (Value.int (iI z))) (by unfold nbr; (repeat' split) <;> omega)) rfl
        · skip
          refine g_bipush C dX11_beside_57 rfl rfl ?_
          refine g_iload_n C dX11_beside_59 rfl 0 rfl ?_
          refine g_imul C dX11_beside_60 rfl ?_
          refine g_iload_n C dX11_beside_61 rfl 1 rfl ?_
          refine g_iadd C dX11_beside_62 rfl ?_
          refine g_goto C dX11_beside_63 67 (by decide) ?_
          exact z_iret C Z rfl dX11_beside_67 (by exact congrArg (fun z => some (Value.int (iI z))) (by unfold nbr; (repeat' split) <;> omega)) rfl
  · skip
    refine g_iconst C dX11_beside_9 rfl ?_
    refine g_goto C dX11_beside_10 23 (by decide) ?_
    refine g_iadd C dX11_beside_23 rfl ?_
    refine g_istore_n (lv' := [(2, .int (iI ((k % (10)) + (1)))), (0, .int (iI k)), (1, .int (iI d))]) C dX11_beside_24 rfl (by decide) rfl ?_
    refine g_iload_n C dX11_beside_25 rfl 1 rfl ?_
    refine g_bipush C dX11_beside_26 rfl rfl ?_
    refine g_idiv C dX11_beside_28 rfl (by omega) (by omega) ?_
    refine g_iload_n C dX11_beside_29 rfl 2 rfl ?_
    refine g_iconst C dX11_beside_30 rfl ?_
    refine g_icmp_ne C dX11_beside_31 38 (by decide) rfl (by omega) (by omega) (fun c31 => ?_) (fun c31 => ?_)
    · skip
      refine g_iload_n C dX11_beside_38 rfl 2 rfl ?_
      refine g_if_ne C dX11_beside_39 46 (by decide) rfl (by omega) (fun c39 => ?_) (fun c39 => ?_)
      · skip
        refine g_iconst C dX11_beside_46 rfl ?_
        refine g_iadd C dX11_beside_47 rfl ?_
        refine g_istore_n (lv' := [(3, .int (iI ((k / (10)) + (0)))), (2, .int (iI ((k % (10)) + (1)))), (0, .int (iI k)), (1, .int (iI d))]) C dX11_beside_48 rfl (by decide) rfl ?_
        refine g_iload_n C dX11_beside_49 rfl 1 rfl ?_
        refine g_iload_n C dX11_beside_50 rfl 0 rfl ?_
        refine g_callS1 (As := [.int (iI ((k % (10)) + (1))), .int (iI ((k / (10)) + (0)))]) (rv := some (.int (iI (bI ((0 ≤ ((k % (10)) + (1)) ∧ ((k % (10)) + (1)) ≤ 9) ∧ 0 ≤ ((k / (10)) + (0)) ∧ ((k / (10)) + (0)) ≤ 7))))) (kc' := 0) (ks' := 0) C (k_X11_isCell l E ((k % (10)) + (1)) ((k / (10)) + (0)) (by omega) (by omega)) mX11_isCell wd983 wd982 rfl rfl (Nat.le_of_ble_eq_true rfl) ⟨Nat.le_of_ble_eq_true rfl, Nat.le_of_ble_eq_true rfl⟩ ⟨Nat.le_of_ble_eq_true rfl, Nat.le_of_ble_eq_true rfl⟩ rfl rfl dX11_beside_51 rfl ?_
        have n51 := bI_w ((0 ≤ ((k % (10)) + (1)) ∧ ((k % (10)) + (1)) ≤ 9) ∧ 0 ≤ ((k / (10)) + (0)) ∧ ((k / (10)) + (0)) ≤ 7)
        refine g_if_eq C dX11_beside_54 66 (by decide) rfl (by omega) (fun c54 => ?_) (fun c54 => ?_)
        · skip
          refine g_iconst C dX11_beside_66 rfl ?_
          exact z_iret C Z rfl dX11_beside_67 (by exact congrArg (fun z => some (Value.int (iI z))) (by unfold nbr; (repeat' split) <;> omega)) rfl
        · skip
          refine g_bipush C dX11_beside_57 rfl rfl ?_
          refine g_iload_n C dX11_beside_59 rfl 0 rfl ?_
          refine g_imul C dX11_beside_60 rfl ?_
          refine g_iload_n C dX11_beside_61 rfl 1 rfl ?_
          refine g_iadd C dX11_beside_62 rfl ?_
          refine g_goto C dX11_beside_63 67 (by decide) ?_
          exact z_iret C Z rfl dX11_beside_67 (by exact congrArg (fun z => some (Value.int (iI z))) (by unfold nbr; (repeat' split) <;> omega)) rfl
      · skip
        refine g_iconst C dX11_beside_42 rfl ?_
        refine g_goto C dX11_beside_43 47 (by decide) ?_
        refine g_iadd C dX11_beside_47 rfl ?_
        refine g_istore_n (lv' := [(3, .int (iI ((k / (10)) + (-1)))), (2, .int (iI ((k % (10)) + (1)))), (0, .int (iI k)), (1, .int (iI d))]) C dX11_beside_48 rfl (by decide) rfl ?_
        refine g_iload_n C dX11_beside_49 rfl 1 rfl ?_
        refine g_iload_n C dX11_beside_50 rfl 0 rfl ?_
        refine g_callS1 (As := [.int (iI ((k % (10)) + (1))), .int (iI ((k / (10)) + (-1)))]) (rv := some (.int (iI (bI ((0 ≤ ((k % (10)) + (1)) ∧ ((k % (10)) + (1)) ≤ 9) ∧ 0 ≤ ((k / (10)) + (-1)) ∧ ((k / (10)) + (-1)) ≤ 7))))) (kc' := 0) (ks' := 0) C (k_X11_isCell l E ((k % (10)) + (1)) ((k / (10)) + (-1)) (by omega) (by omega)) mX11_isCell wd983 wd982 rfl rfl (Nat.le_of_ble_eq_true rfl) ⟨Nat.le_of_ble_eq_true rfl, Nat.le_of_ble_eq_true rfl⟩ ⟨Nat.le_of_ble_eq_true rfl, Nat.le_of_ble_eq_true rfl⟩ rfl rfl dX11_beside_51 rfl ?_
        have n51 := bI_w ((0 ≤ ((k % (10)) + (1)) ∧ ((k % (10)) + (1)) ≤ 9) ∧ 0 ≤ ((k / (10)) + (-1)) ∧ ((k / (10)) + (-1)) ≤ 7)
        refine g_if_eq C dX11_beside_54 66 (by decide) rfl (by omega) (fun c54 => ?_) (fun c54 => ?_)
        · skip
          refine g_iconst C dX11_beside_66 rfl ?_
          exact z_iret C Z rfl dX11_beside_67 (by exact congrArg (fun z => some (Value.int (iI z))) (by unfold nbr; (repeat' split) <;> omega)) rfl
        · skip
          refine g_bipush C dX11_beside_57 rfl rfl ?_
          refine g_iload_n C dX11_beside_59 rfl 0 rfl ?_
          refine g_imul C dX11_beside_60 rfl ?_
          refine g_iload_n C dX11_beside_61 rfl 1 rfl ?_
          refine g_iadd C dX11_beside_62 rfl ?_
          refine g_goto C dX11_beside_63 67 (by decide) ?_
          exact z_iret C Z rfl dX11_beside_67 (by exact congrArg (fun z => some (Value.int (iI z))) (by unfold nbr; (repeat' split) <;> omega)) rfl
    · skip
      refine g_iconst C dX11_beside_34 rfl ?_
      refine g_goto C dX11_beside_35 47 (by decide) ?_
      refine g_iadd C dX11_beside_47 rfl ?_
      refine g_istore_n (lv' := [(3, .int (iI ((k / (10)) + (1)))), (2, .int (iI ((k % (10)) + (1)))), (0, .int (iI k)), (1, .int (iI d))]) C dX11_beside_48 rfl (by decide) rfl ?_
      refine g_iload_n C dX11_beside_49 rfl 1 rfl ?_
      refine g_iload_n C dX11_beside_50 rfl 0 rfl ?_
      refine g_callS1 (As := [.int (iI ((k % (10)) + (1))), .int (iI ((k / (10)) + (1)))]) (rv := some (.int (iI (bI ((0 ≤ ((k % (10)) + (1)) ∧ ((k % (10)) + (1)) ≤ 9) ∧ 0 ≤ ((k / (10)) + (1)) ∧ ((k / (10)) + (1)) ≤ 7))))) (kc' := 0) (ks' := 0) C (k_X11_isCell l E ((k % (10)) + (1)) ((k / (10)) + (1)) (by omega) (by omega)) mX11_isCell wd983 wd982 rfl rfl (Nat.le_of_ble_eq_true rfl) ⟨Nat.le_of_ble_eq_true rfl, Nat.le_of_ble_eq_true rfl⟩ ⟨Nat.le_of_ble_eq_true rfl, Nat.le_of_ble_eq_true rfl⟩ rfl rfl dX11_beside_51 rfl ?_
      have n51 := bI_w ((0 ≤ ((k % (10)) + (1)) ∧ ((k % (10)) + (1)) ≤ 9) ∧ 0 ≤ ((k / (10)) + (1)) ∧ ((k / (10)) + (1)) ≤ 7)
      refine g_if_eq C dX11_beside_54 66 (by decide) rfl (by omega) (fun c54 => ?_) (fun c54 => ?_)
      · skip
        refine g_iconst C dX11_beside_66 rfl ?_
        exact z_iret C Z rfl dX11_beside_67 (by exact congrArg (fun z => some (Value.int (iI z))) (by unfold nbr; (repeat' split) <;> omega)) rfl
      · skip
        refine g_bipush C dX11_beside_57 rfl rfl ?_
        refine g_iload_n C dX11_beside_59 rfl 0 rfl ?_
        refine g_imul C dX11_beside_60 rfl ?_
        refine g_iload_n C dX11_beside_61 rfl 1 rfl ?_
        refine g_iadd C dX11_beside_62 rfl ?_
        refine g_goto C dX11_beside_63 67 (by decide) ?_
        exact z_iret C Z rfl dX11_beside_67 (by exact congrArg (fun z => some (Value.int (iI z))) (by unfold nbr; (repeat' split) <;> omega)) rfl
abbrev r_X10_canBeWalked : Room := { frames := 0, cells := 0, slots := 0, locals := 0 }
set_option maxHeartbeats 4000000 in
set_option maxRecDepth 100000 in
theorem k_X10_canBeWalked (l : Launch) (E : gE) (ad : Nat → Nat) (S : gS) (k : Int) (hS : okS S) (hk : -1 ≤ k ∧ k < 80) : gK l E yX10_canBeWalked cX10_canBeWalked 2 (some .boolean) r_X10_canBeWalked [.ref (ad 0), .int (iI k)] (wS E ad S) (some (.int (iI (bI (k ≠ -1 ∧ S.1 3 k < 3))))) (wS E ad S) := by
  refine gK_by RX10 rfl mX10_canBeWalked [(0, .ref (ad 0)), (1, .int (iI k))] (Nat.le_of_ble_eq_true rfl) rfl ?_
  intro zp ze zs zm za zb zh zc zA zQ C Z
  refine g_iload_n C dX10_canBeWalked_0 rfl 1 rfl ?_
  refine g_iconst C dX10_canBeWalked_1 rfl ?_
  refine g_icmp_eq C dX10_canBeWalked_2 19 (by decide) rfl (by omega) (by omega) (fun c2 => ?_) (fun c2 => ?_)
  · skip
    refine g_iconst C dX10_canBeWalked_19 rfl ?_
    exact z_iret C Z (z_nar (by omega)) dX10_canBeWalked_20 (by exact congrArg (fun z => some (Value.int (iI z))) (by first | (rw [bI_t (by omega)]) | (rw [bI_f (by omega)]))) rfl
  · skip
    refine g_aload_n C dX10_canBeWalked_5 rfl 0 rfl ?_
    refine g_get (v := .ref (ad 3)) (T := TX10) (N := 10) (ci := 9) C in_X10 0 rfl rfl 4 (by decide) wd901 (Or.inl rfl) rfl dX10_canBeWalked_6 rfl ?_
    refine g_iload_n C dX10_canBeWalked_9 rfl 1 rfl ?_
    refine g_iald (f := (S.1 3)) C dX10_canBeWalked_10 rfl 3 rfl (by omega) (by decide) ?_
    have b10 := okS_3 hS k
    refine g_iconst C dX10_canBeWalked_11 rfl ?_
    refine g_icmp_ge C dX10_canBeWalked_12 19 (by decide) rfl (by omega) (by omega) (fun c12 => ?_) (fun c12 => ?_)
    · skip
      refine g_iconst C dX10_canBeWalked_19 rfl ?_
      exact z_iret C Z (z_nar (by omega)) dX10_canBeWalked_20 (by exact congrArg (fun z => some (Value.int (iI z))) (by first | (rw [bI_t (by omega)]) | (rw [bI_f (by omega)]))) rfl
    · skip
      refine g_iconst C dX10_canBeWalked_15 rfl ?_
      refine g_goto C dX10_canBeWalked_16 20 (by decide) ?_
      exact z_iret C Z (z_nar (by omega)) dX10_canBeWalked_20 (by exact congrArg (fun z => some (Value.int (iI z))) (by first | (rw [bI_t (by omega)]) | (rw [bI_f (by omega)]))) rfl
abbrev r_X10_levelOf : Room := { frames := 0, cells := 0, slots := 0, locals := 0 }
set_option maxHeartbeats 4000000 in
set_option maxRecDepth 100000 in
theorem k_X10_levelOf (l : Launch) (E : gE) (ad : Nat → Nat) (S : gS) (k : Int) (hS : okS S) (hk : 0 ≤ k ∧ k < 80) : gK l E yX10_levelOf cX10_levelOf 2 (some .int) r_X10_levelOf [.ref (ad 0), .int (iI k)] (wS E ad S) (some (.int (iI (lev (S.1 1) (S.1 2) (S.1 3) k)))) (wS E ad S) := by
  refine gK_by RX10 rfl mX10_levelOf [(0, .ref (ad 0)), (1, .int (iI k))] (Nat.le_of_ble_eq_true rfl) rfl ?_
  intro zp ze zs zm za zb zh zc zA zQ C Z
  refine g_aload_n C dX10_levelOf_0 rfl 0 rfl ?_
  refine g_get (v := .ref (ad 1)) (T := TX10) (N := 10) (ci := 9) C in_X10 0 rfl rfl 2 (by decide) wd897 (Or.inl rfl) rfl dX10_levelOf_1 rfl ?_
  refine g_iload_n C dX10_levelOf_4 rfl 1 rfl ?_
  refine g_iald (f := (S.1 1)) C dX10_levelOf_5 rfl 1 rfl (by omega) (by decide) ?_
  have b5 := okS_1 hS k
  refine g_aload_n C dX10_levelOf_6 rfl 0 rfl ?_
  refine g_get (v := .ref (ad 2)) (T := TX10) (N := 10) (ci := 9) C in_X10 0 rfl rfl 3 (by decide) wd899 (Or.inl rfl) rfl dX10_levelOf_7 rfl ?_
  refine g_iload_n C dX10_levelOf_10 rfl 1 rfl ?_
  refine g_iald (f := (S.1 2)) C dX10_levelOf_11 rfl 2 rfl (by omega) (by decide) ?_
  have b11 := okS_2 hS k
  refine g_iadd C dX10_levelOf_12 rfl ?_
  refine g_aload_n C dX10_levelOf_13 rfl 0 rfl ?_
  refine g_get (v := .ref (ad 3)) (T := TX10) (N := 10) (ci := 9) C in_X10 0 rfl rfl 4 (by decide) wd901 (Or.inl rfl) rfl dX10_levelOf_14 rfl ?_
  refine g_iload_n C dX10_levelOf_17 rfl 1 rfl ?_
  refine g_iald (f := (S.1 3)) C dX10_levelOf_18 rfl 3 rfl (by omega) (by decide) ?_
  have b18 := okS_3 hS k
  refine g_iadd C dX10_levelOf_19 rfl ?_
  exact z_iret C Z rfl dX10_levelOf_20 rfl rfl
abbrev r_X11_thrown : Room := { frames := 0, cells := 0, slots := 0, locals := 0 }
set_option maxHeartbeats 4000000 in
set_option maxRecDepth 100000 in
theorem k_X11_thrown (l : Launch) (E : gE) (am : Nat → Nat) (ss sa : Nat) (M : gS) : gK l E yX11_thrown cX11_thrown 1 (some .int) r_X11_thrown [.ref (am 0)] (wM E am ss sa M) (some (.int (iI (M.2 0)))) (wM E am ss sa M) := by
  refine gK_by RX11 rfl mX11_thrown [(0, .ref (am 0))] (Nat.le_of_ble_eq_true rfl) rfl ?_
  intro zp ze zs zm za zb zh zc zA zQ C Z
  refine g_aload_n C dX11_thrown_0 rfl 0 rfl ?_
  refine g_get (v := .int (iI (M.2 0))) (T := TX11) (N := 13) (ci := 10) C in_X11 0 rfl rfl 0 (by decide) wd934 (Or.inl rfl) rfl dX11_thrown_1 rfl ?_
  exact z_iret C Z rfl dX11_thrown_4 rfl rfl
abbrev r_X11_no : Room := { frames := 0, cells := 0, slots := 0, locals := 0 }
set_option maxHeartbeats 4000000 in
set_option maxRecDepth 100000 in
theorem k_X11_no (l : Launch) (E : gE) (am : Nat → Nat) (ss sa : Nat) (M : gS) (n : Int) : gK l E yX11_no cX11_no 2 (some .int) r_X11_no [.ref (am 0), .int (iI n)] (wM E am ss sa M) (some (.int (iI 0))) (wM E am ss sa (setI M 0 n)) := by
  refine gK_by RX11 rfl mX11_no [(0, .ref (am 0)), (1, .int (iI n))] (Nat.le_of_ble_eq_true rfl) rfl ?_
  intro zp ze zs zm za zb zh zc zA zQ C Z
  refine g_aload_n C dX11_no_0 rfl 0 rfl ?_
  refine g_iload_n C dX11_no_1 rfl 1 rfl ?_
  refine g_put (T := TX11) (N := 13) (ci := 10) (ws' := wM E am ss sa (setI M 0 n)) C in_X11 tyX11 tyX11_ok nmX11 0 rfl rfl 0 (by decide) wd934 (Or.inl rfl) rfl (ty := .int) (by decide +kernel) rfl rfl (Nat.le_of_ble_eq_true rfl) rfl dX11_no_2 rfl ?_
  refine g_iconst C dX11_no_5 rfl ?_
  exact z_iret C Z rfl dX11_no_6 rfl rfl
abbrev r_X11_all : Room := { frames := 0, cells := 0, slots := 0, locals := 0 }
set_option maxHeartbeats 4000000 in
set_option maxRecDepth 100000 in
theorem k_X11_all (l : Launch) (E : gE) (ad : Nat → Nat) (S : gS) : gK l E yX11_all cX11_all 6 (some .int) r_X11_all [.ref (ad 2)] (wS E ad S) (some (.int (iI (sm (S.1 2) 0 80)))) (wS E ad S) := by
  refine gK_by RX11 rfl mX11_all [(0, .ref (ad 2))] (Nat.le_of_ble_eq_true rfl) rfl ?_
  intro zp ze zs zm za zb zh zc zA zQ C Z
  refine g_iconst C dX11_all_0 rfl ?_
  refine g_istore_n (lv' := [(1, .int (iI (0))), (0, .ref (ad 2))]) C dX11_all_1 rfl (by decide) rfl ?_
  refine g_aload_n C dX11_all_2 rfl 1 rfl ?_
  refine g_astore_n (lv' := [(2, .ref (ad 2)), (1, .int (iI (0))), (0, .ref (ad 2))]) C dX11_all_3 rfl (by decide) rfl ?_
  refine g_aload_n C dX11_all_4 rfl 0 rfl ?_
  refine g_alen (n := 80) (f := (S.1 2)) C 2 rfl dX11_all_5 rfl ?_
  refine g_istore_n (lv' := [(3, .int (iI (80))), (2, .ref (ad 2)), (1, .int (iI (0))), (0, .ref (ad 2))]) C dX11_all_6 rfl (by decide) rfl ?_
  refine g_iconst C dX11_all_7 rfl ?_
  refine g_istore (lv' := [(4, .int (iI (0))), (3, .int (iI (80))), (2, .ref (ad 2)), (1, .int (iI (0))), (0, .ref (ad 2))]) C dX11_all_8 rfl (by decide) rfl ?_
  have L10 : ∀ k9 : Nat, k9 ≤ 80 → gG E zp l ze r_X11_all zs zm za zb zh zc zA 6 0 0 zQ (wS E ad S) 10 [(4, .int (iI (k9 : Int))), (3, .int (iI (80))), (2, .ref (ad 2)), (1, .int (iI (itr (smB (S.1 2) 0) 0 k9))), (0, .ref (ad 2))] [] := by
    refine g_up (80) _ ?_
    intro k9 ih10 hk10
    obtain ⟨x, hx10⟩ : ∃ z, z = itr (smB (S.1 2) 0) 0 k9 := ⟨_, rfl⟩
    rw [← hx10]
    refine g_iload C dX11_all_10 rfl 0 rfl ?_
    refine g_iload_n C dX11_all_12 rfl 1 rfl ?_
    refine g_icmp_ge C dX11_all_13 33 (by decide) rfl (by omega) (by omega) (fun c13 => ?_) (fun c13 => ?_)
    · skip
      have hz10 : x = sm (S.1 2) 0 80 := by rw [hx10, show k9 = 80 from by omega] <;> rfl
      refine g_iload_n C dX11_all_33 rfl 3 rfl ?_
      exact z_iret C Z rfl dX11_all_34 (by exact congrArg (fun z => some (Value.int (iI z))) (hz10.symm)) rfl
    · skip
      refine g_aload_n C dX11_all_16 rfl 2 rfl ?_
      refine g_iload C dX11_all_17 rfl 0 rfl ?_
      refine g_iald (f := (S.1 2)) C dX11_all_19 rfl 2 rfl (by omega) (by decide) ?_
      refine g_istore (lv' := [(5, .int (iI ((S.1 2) (k9 : Int)))), (4, .int (iI (k9 : Int))), (3, .int (iI (80))), (2, .ref (ad 2)), (1, .int (iI x)), (0, .ref (ad 2))]) C dX11_all_20 rfl (by decide) rfl ?_
      refine g_iload_n C dX11_all_22 rfl 4 rfl ?_
      refine g_iload C dX11_all_23 rfl 0 rfl ?_
      refine g_iadd C dX11_all_25 rfl ?_
      refine g_istore_n (lv' := [(1, .int (iI (x + ((S.1 2) (k9 : Int))))), (5, .int (iI ((S.1 2) (k9 : Int)))), (4, .int (iI (k9 : Int))), (3, .int (iI (80))), (2, .ref (ad 2)), (0, .ref (ad 2))]) C dX11_all_26 rfl (by decide) rfl ?_
      refine g_iinc (lv' := [(4, .int (iI ((k9 : Int) + 1))), (1, .int (iI (x + ((S.1 2) (k9 : Int))))), (5, .int (iI ((S.1 2) (k9 : Int)))), (3, .int (iI (80))), (2, .ref (ad 2)), (0, .ref (ad 2))]) C dX11_all_27 rfl 2 rfl (by decide) rfl ?_
      refine g_goto C dX11_all_30 10 (by decide) ?_
      have e10 : (smB (S.1 2) 0) k9 x = (x + ((S.1 2) (k9 : Int))) := by
        first | rfl | (simp [smB])
      have i10 := ih10 (by omega)
      rw [show itr (smB (S.1 2) 0) 0 (k9 + 1) = (x + ((S.1 2) (k9 : Int))) from by rw [← e10, hx10]; rfl] at i10
      exact g_to [0, 3, 4, 1, 5] (i10) rfl rfl rfl
  refine g_to [0, 1, 2, 3, 4] (L10 0 (by omega)) rfl rfl rfl
abbrev r_X11_placeOf : Room := { frames := 0, cells := 0, slots := 0, locals := 0 }
set_option maxHeartbeats 4000000 in
set_option maxRecDepth 100000 in
theorem k_X11_placeOf_pump (l : Launch) (E : gE) (ad : Nat → Nat) (S : gS) (n : Nat) (q : Int) (hS : okS S) (hn : n ≤ 5) (hq : 0 ≤ q ∧ q < 80) : gK l E yX11_placeOf cX11_placeOf 5 (some .int) r_X11_placeOf [.ref (ad 4), .int (iI (5)), .int (iI (n : Int)), .int (iI q)] (wS E ad S) (some (.int (iI (fstI (fun j => S.1 4 (5 * j)) q n)))) (wS E ad S) := by
  refine gK_by RX11 rfl mX11_placeOf [(0, .ref (ad 4)), (1, .int (iI (5))), (2, .int (iI (n : Int))), (3, .int (iI q))] (Nat.le_of_ble_eq_true rfl) rfl ?_
  intro zp ze zs zm za zb zh zc zA zQ C Z
  refine g_iconst C dX11_placeOf_0 rfl ?_
  refine g_istore (lv' := [(4, .int (iI (0))), (0, .ref (ad 4)), (1, .int (iI (5))), (2, .int (iI (n : Int))), (3, .int (iI q))]) C dX11_placeOf_1 rfl (by decide) rfl ?_
  have L3 : ∀ k9 : Nat, k9 ≤ n → (fstI (fun j => S.1 4 (5 * j)) q k9 = -1) → gG E zp l ze r_X11_placeOf zs zm za zb zh zc zA 5 0 0 zQ (wS E ad S) 3 [(4, .int (iI (k9 : Int))), (0, .ref (ad 4)), (1, .int (iI (5))), (2, .int (iI (n : Int))), (3, .int (iI q))] [] := by
    refine g_up (n) _ ?_
    intro k9 ih3 hk3 hy3
    refine g_iload C dX11_placeOf_3 rfl 0 rfl ?_
    refine g_iload_n C dX11_placeOf_5 rfl 3 rfl ?_
    refine g_icmp_ge C dX11_placeOf_6 28 (by decide) rfl (by omega) (by omega) (fun c6 => ?_) (fun c6 => ?_)
    · skip
      refine g_iconst C dX11_placeOf_28 rfl ?_
      exact z_iret C Z rfl dX11_placeOf_29 (by exact congrArg (fun z => some (Value.int (iI z))) (by rw [show n = k9 by omega]; exact hy3)) rfl
    · skip
      refine g_aload_n C dX11_placeOf_9 rfl 1 rfl ?_
      refine g_iload_n C dX11_placeOf_10 rfl 2 rfl ?_
      refine g_iload C dX11_placeOf_11 rfl 0 rfl ?_
      refine g_imul C dX11_placeOf_13 rfl ?_
      refine g_iald (f := (S.1 4)) C dX11_placeOf_14 rfl 4 rfl (by omega) (by decide) ?_
      have b14 := okS_40 hS (k9 : Int)
      have ba := okS_40 hS (k9 : Int)
      refine g_iload_n C dX11_placeOf_15 rfl 4 rfl ?_
      refine g_icmp_ne C dX11_placeOf_16 22 (by decide) rfl (by omega) (by omega) (fun c16 => ?_) (fun c16 => ?_)
      · skip
        refine g_iinc (lv' := [(4, .int (iI ((k9 : Int) + 1))), (0, .ref (ad 4)), (1, .int (iI (5))), (2, .int (iI (n : Int))), (3, .int (iI q))]) C dX11_placeOf_22 rfl 0 rfl (by decide) rfl ?_
        refine g_goto C dX11_placeOf_25 3 (by decide) ?_
        exact g_to [0, 1, 2, 3, 4] (ih3 (by omega) (fst_no hy3 (by show ¬ S.1 4 (5 * (k9 : Int)) = q; omega))) rfl rfl rfl
      · skip
        refine g_iload C dX11_placeOf_19 rfl 0 rfl ?_
        exact z_iret C Z rfl dX11_placeOf_21 (by exact congrArg (fun z => some (Value.int (iI z))) (fst_yes hy3 (by show S.1 4 (5 * (k9 : Int)) = q; omega) (by omega))) rfl
  refine g_to [0, 1, 2, 3, 4] (L3 0 (by omega) (rfl)) rfl rfl rfl
set_option maxHeartbeats 4000000 in
set_option maxRecDepth 100000 in
theorem k_X11_placeOf_gauge (l : Launch) (E : gE) (ad : Nat → Nat) (S : gS) (n : Nat) (q : Int) (hS : okS S) (hn : n ≤ 4) (hq : 0 ≤ q ∧ q < 80) : gK l E yX11_placeOf cX11_placeOf 5 (some .int) r_X11_placeOf [.ref (ad 5), .int (iI (2)), .int (iI (n : Int)), .int (iI q)] (wS E ad S) (some (.int (iI (fstI (fun j => S.1 5 (2 * j)) q n)))) (wS E ad S) := by
  refine gK_by RX11 rfl mX11_placeOf [(0, .ref (ad 5)), (1, .int (iI (2))), (2, .int (iI (n : Int))), (3, .int (iI q))] (Nat.le_of_ble_eq_true rfl) rfl ?_
  intro zp ze zs zm za zb zh zc zA zQ C Z
  refine g_iconst C dX11_placeOf_0 rfl ?_
  refine g_istore (lv' := [(4, .int (iI (0))), (0, .ref (ad 5)), (1, .int (iI (2))), (2, .int (iI (n : Int))), (3, .int (iI q))]) C dX11_placeOf_1 rfl (by decide) rfl ?_
  have L3 : ∀ k9 : Nat, k9 ≤ n → (fstI (fun j => S.1 5 (2 * j)) q k9 = -1) → gG E zp l ze r_X11_placeOf zs zm za zb zh zc zA 5 0 0 zQ (wS E ad S) 3 [(4, .int (iI (k9 : Int))), (0, .ref (ad 5)), (1, .int (iI (2))), (2, .int (iI (n : Int))), (3, .int (iI q))] [] := by
    refine g_up (n) _ ?_
    intro k9 ih3 hk3 hy3
    refine g_iload C dX11_placeOf_3 rfl 0 rfl ?_
    refine g_iload_n C dX11_placeOf_5 rfl 3 rfl ?_
    refine g_icmp_ge C dX11_placeOf_6 28 (by decide) rfl (by omega) (by omega) (fun c6 => ?_) (fun c6 => ?_)
    · skip
      refine g_iconst C dX11_placeOf_28 rfl ?_
      exact z_iret C Z rfl dX11_placeOf_29 (by exact congrArg (fun z => some (Value.int (iI z))) (by rw [show n = k9 by omega]; exact hy3)) rfl
    · skip
      refine g_aload_n C dX11_placeOf_9 rfl 1 rfl ?_
      refine g_iload_n C dX11_placeOf_10 rfl 2 rfl ?_
      refine g_iload C dX11_placeOf_11 rfl 0 rfl ?_
      refine g_imul C dX11_placeOf_13 rfl ?_
      refine g_iald (f := (S.1 5)) C dX11_placeOf_14 rfl 5 rfl (by omega) (by decide) ?_
      have b14 := okS_50 hS (k9 : Int)
      have ba := okS_50 hS (k9 : Int)
      refine g_iload_n C dX11_placeOf_15 rfl 4 rfl ?_
      refine g_icmp_ne C dX11_placeOf_16 22 (by decide) rfl (by omega) (by omega) (fun c16 => ?_) (fun c16 => ?_)
      · skip
        refine g_iinc (lv' := [(4, .int (iI ((k9 : Int) + 1))), (0, .ref (ad 5)), (1, .int (iI (2))), (2, .int (iI (n : Int))), (3, .int (iI q))]) C dX11_placeOf_22 rfl 0 rfl (by decide) rfl ?_
        refine g_goto C dX11_placeOf_25 3 (by decide) ?_
        exact g_to [0, 1, 2, 3, 4] (ih3 (by omega) (fst_no hy3 (by show ¬ S.1 5 (2 * (k9 : Int)) = q; omega))) rfl rfl rfl
      · skip
        refine g_iload C dX11_placeOf_19 rfl 0 rfl ?_
        exact z_iret C Z rfl dX11_placeOf_21 (by exact congrArg (fun z => some (Value.int (iI z))) (fst_yes hy3 (by show S.1 5 (2 * (k9 : Int)) = q; omega) (by omega))) rfl
  refine g_to [0, 1, 2, 3, 4] (L3 0 (by omega) (rfl)) rfl rfl rfl
set_option maxHeartbeats 4000000 in
set_option maxRecDepth 100000 in
theorem k_X11_placeOf_refuge (l : Launch) (E : gE) (ad : Nat → Nat) (S : gS) (n : Nat) (q : Int) (hS : okS S) (hn : n ≤ 4) (hq : 0 ≤ q ∧ q < 80) : gK l E yX11_placeOf cX11_placeOf 5 (some .int) r_X11_placeOf [.ref (ad 6), .int (iI (2)), .int (iI (n : Int)), .int (iI q)] (wS E ad S) (some (.int (iI (fstI (fun j => S.1 6 (2 * j)) q n)))) (wS E ad S) := by
  refine gK_by RX11 rfl mX11_placeOf [(0, .ref (ad 6)), (1, .int (iI (2))), (2, .int (iI (n : Int))), (3, .int (iI q))] (Nat.le_of_ble_eq_true rfl) rfl ?_
  intro zp ze zs zm za zb zh zc zA zQ C Z
  refine g_iconst C dX11_placeOf_0 rfl ?_
  refine g_istore (lv' := [(4, .int (iI (0))), (0, .ref (ad 6)), (1, .int (iI (2))), (2, .int (iI (n : Int))), (3, .int (iI q))]) C dX11_placeOf_1 rfl (by decide) rfl ?_
  have L3 : ∀ k9 : Nat, k9 ≤ n → (fstI (fun j => S.1 6 (2 * j)) q k9 = -1) → gG E zp l ze r_X11_placeOf zs zm za zb zh zc zA 5 0 0 zQ (wS E ad S) 3 [(4, .int (iI (k9 : Int))), (0, .ref (ad 6)), (1, .int (iI (2))), (2, .int (iI (n : Int))), (3, .int (iI q))] [] := by
    refine g_up (n) _ ?_
    intro k9 ih3 hk3 hy3
    refine g_iload C dX11_placeOf_3 rfl 0 rfl ?_
    refine g_iload_n C dX11_placeOf_5 rfl 3 rfl ?_
    refine g_icmp_ge C dX11_placeOf_6 28 (by decide) rfl (by omega) (by omega) (fun c6 => ?_) (fun c6 => ?_)
    · skip
      refine g_iconst C dX11_placeOf_28 rfl ?_
      exact z_iret C Z rfl dX11_placeOf_29 (by exact congrArg (fun z => some (Value.int (iI z))) (by rw [show n = k9 by omega]; exact hy3)) rfl
    · skip
      refine g_aload_n C dX11_placeOf_9 rfl 1 rfl ?_
      refine g_iload_n C dX11_placeOf_10 rfl 2 rfl ?_
      refine g_iload C dX11_placeOf_11 rfl 0 rfl ?_
      refine g_imul C dX11_placeOf_13 rfl ?_
      refine g_iald (f := (S.1 6)) C dX11_placeOf_14 rfl 6 rfl (by omega) (by decide) ?_
      have b14 := okS_60 hS (k9 : Int)
      have ba := okS_60 hS (k9 : Int)
      refine g_iload_n C dX11_placeOf_15 rfl 4 rfl ?_
      refine g_icmp_ne C dX11_placeOf_16 22 (by decide) rfl (by omega) (by omega) (fun c16 => ?_) (fun c16 => ?_)
      · skip
        refine g_iinc (lv' := [(4, .int (iI ((k9 : Int) + 1))), (0, .ref (ad 6)), (1, .int (iI (2))), (2, .int (iI (n : Int))), (3, .int (iI q))]) C dX11_placeOf_22 rfl 0 rfl (by decide) rfl ?_
        refine g_goto C dX11_placeOf_25 3 (by decide) ?_
        exact g_to [0, 1, 2, 3, 4] (ih3 (by omega) (fst_no hy3 (by show ¬ S.1 6 (2 * (k9 : Int)) = q; omega))) rfl rfl rfl
      · skip
        refine g_iload C dX11_placeOf_19 rfl 0 rfl ?_
        exact z_iret C Z rfl dX11_placeOf_21 (by exact congrArg (fun z => some (Value.int (iI z))) (fst_yes hy3 (by show S.1 6 (2 * (k9 : Int)) = q; omega) (by omega))) rfl
  refine g_to [0, 1, 2, 3, 4] (L3 0 (by omega) (rfl)) rfl rfl rfl
abbrev r_X11_reckon : Room := { frames := 3, cells := 0, slots := 0, locals := 66 }
set_option maxHeartbeats 4000000 in
set_option maxRecDepth 100000 in
theorem k_X11_reckon (l : Launch) (E : gE) (am : Nat → Nat) (ss sa : Nat) (M : gS) (ad : Nat → Nat) (S : gS) (c : Int) (hM : okM M) (hS : okS S) (hc : 0 ≤ c ∧ c < 80) : gK l E yX11_reckon cX11_reckon 7 none r_X11_reckon [.ref (am 0), .ref (ad 0), .int (iI c)] (wM E am ss sa M ++ (wS E ad S)) (none) (wM E am ss sa (reckM M S c) ++ (wS E ad S)) := by
  refine gK_by RX11 rfl mX11_reckon [(0, .ref (am 0)), (1, .ref (ad 0)), (2, .int (iI c))] (Nat.le_of_ble_eq_true rfl) rfl ?_
  intro zp ze zs zm za zb zh zc zA zQ C Z
  refine g_iconst C dX11_reckon_0 rfl ?_
  refine g_istore_n (lv' := [(3, .int (iI (0))), (0, .ref (am 0)), (1, .ref (ad 0)), (2, .int (iI c))]) C dX11_reckon_1 rfl (by decide) rfl ?_
  have L2 : ∀ k9 : Nat, k9 ≤ 80 → gG E zp l ze r_X11_reckon zs zm za zb zh zc zA 7 0 0 zQ (wM E am ss sa (setA M 2 (itr noneB (M.1 2) k9)) ++ (wS E ad S)) 2 [(3, .int (iI (k9 : Int))), (0, .ref (am 0)), (1, .ref (ad 0)), (2, .int (iI c))] [] := by
    refine g_up (80) _ ?_
    intro k9 ih2 hk2
    obtain ⟨y, hx2⟩ : ∃ z, z = itr noneB (M.1 2) k9 := ⟨_, rfl⟩
    rw [← hx2]
    refine g_iload_n C dX11_reckon_2 rfl 0 rfl ?_
    refine g_bipush C dX11_reckon_3 rfl rfl ?_
    refine g_icmp_ge C dX11_reckon_5 21 (by decide) rfl (by omega) (by omega) (fun c5 => ?_) (fun c5 => ?_)
    · skip
      have hz2 : y = itr noneB (M.1 2) 80 := by rw [hx2, show k9 = 80 from by omega] <;> rfl
      refine g_aload_n C dX11_reckon_21 rfl 2 rfl ?_
      refine g_iload_n C dX11_reckon_22 rfl 3 rfl ?_
      refine g_perm (ws1 := wS E ad S ++ (wM E am ss sa (setA M 2 y))) pm_10 ?_
      refine g_callVf (As := [.int (iI c)]) (rv := some (.int (iI (bI (c ≠ -1 ∧ (S.1 3) c < 3))))) (w1 := wS E ad S) (kc' := 0) (ks' := 0) C (wM E am ss sa (setA M 2 y)) (k_X10_canBeWalked l E ad S c hS (by omega)) mX10_canBeWalked iX10_canBeWalked wd1046 0 9 rfl rfl rfl rfl rfl (Nat.le_of_ble_eq_true rfl) ⟨Nat.le_of_ble_eq_true rfl, Nat.le_of_ble_eq_true rfl⟩ ⟨Nat.le_of_ble_eq_true rfl, Nat.le_of_ble_eq_true rfl⟩ rfl rfl rfl dX11_reckon_23 rfl ?_
      refine g_perm (ws1 := wM E am ss sa (setA M 2 y) ++ (wS E ad S)) pm_10 ?_
      have n23 := bI_w (c ≠ -1 ∧ (S.1 3) c < 3)
      refine g_if_ne C dX11_reckon_26 30 (by decide) rfl (by omega) (fun c26 => ?_) (fun c26 => ?_)
      · skip
        refine g_aload_n C dX11_reckon_30 rfl 1 rfl ?_
        refine g_get (v := .ref (am 2)) (T := TX11) (N := 13) (ci := 10) C in_X11 0 rfl rfl 7 (by decide) wd941 (Or.inl rfl) rfl dX11_reckon_31 rfl ?_
        refine g_iload_n C dX11_reckon_34 rfl 3 rfl ?_
        refine g_iconst C dX11_reckon_35 rfl ?_
        refine g_iast (f := y) (ws' := wM E am ss sa (setA M 2 (fset y c (0))) ++ (wS E ad S)) C dX11_reckon_36 rfl 2 rfl (by omega) (by decide) rfl ?_
        refine g_aload_n C dX11_reckon_37 rfl 1 rfl ?_
        refine g_get (v := .ref (am 3)) (T := TX11) (N := 13) (ci := 10) C in_X11 0 rfl rfl 8 (by decide) wd942 (Or.inl rfl) rfl dX11_reckon_38 rfl ?_
        refine g_iconst C dX11_reckon_41 rfl ?_
        refine g_iload_n C dX11_reckon_42 rfl 3 rfl ?_
        refine g_iast (f := (M.1 3)) (ws' := wM E am ss sa (setA (setA M 2 (fset y c (0))) 3 (fset (M.1 3) (0) c)) ++ (wS E ad S)) C dX11_reckon_43 rfl 3 rfl (by omega) (by decide) rfl ?_
        refine g_iconst C dX11_reckon_44 rfl ?_
        refine g_istore_n (lv' := [(3, .int (iI (1))), (0, .ref (am 0)), (1, .ref (ad 0)), (2, .int (iI c))]) C dX11_reckon_45 rfl (by decide) rfl ?_
        refine g_iconst C dX11_reckon_46 rfl ?_
        refine g_istore (lv' := [(4, .int (iI (0))), (3, .int (iI (1))), (0, .ref (am 0)), (1, .ref (ad 0)), (2, .int (iI c))]) C dX11_reckon_47 rfl (by decide) rfl ?_
        have L49 : ∀ k8 : Nat, k8 ≤ 80 → ((k8 : Int) ≤ (rkI (S.1 3) (rk0 (M.1 2) (M.1 3) c) k8).2.2) → gG E zp l ze r_X11_reckon zs zm za zb zh zc zA 7 0 0 zQ (wM E am ss sa (setA (setA M 2 ((rkI (S.1 3) (rk0 (M.1 2) (M.1 3) c) k8).1)) 3 ((rkI (S.1 3) (rk0 (M.1 2) (M.1 3) c) k8).2.1)) ++ (wS E ad S)) 49 [(4, .int (iI (k8 : Int))), (3, .int (iI (rkI (S.1 3) (rk0 (M.1 2) (M.1 3) c) k8).2.2)), (0, .ref (am 0)), (1, .ref (ad 0)), (2, .int (iI c))] [] := by
          refine g_up (80) _ ?_
          intro k8 ih49 hk49 hy49
          have iv49_0 := rkI_b (w := S.1 3) (rk0_b (c := c) hc (okM_2 hM) (okM_3 hM)) k8 hk49
          obtain ⟨x, hx49⟩ : ∃ z, z = rkI (S.1 3) (rk0 (M.1 2) (M.1 3) c) k8 := ⟨_, rfl⟩
          rw [← hx49]
          rw [← hx49] at iv49_0
          try rw [← hx49] at hy49
          have bm : 0 ≤ x.2.2 ∧ x.2.2 ≤ 80 := ⟨iv49_0.2.2.1, iv49_0.2.2.2.1⟩
          refine g_iload C dX11_reckon_49 rfl 0 rfl ?_
          refine g_iload_n C dX11_reckon_51 rfl 1 rfl ?_
          refine g_icmp_ge C dX11_reckon_52 145 (by decide) rfl (by omega) (by omega) (fun c52 => ?_) (fun c52 => ?_)
          · skip
            have hz49 : x = rkI (S.1 3) (rk0 (M.1 2) (M.1 3) c) 80 := by rw [hx49]; exact (rk_stop (by rw [← hx49]; omega) (by omega)).symm
            exact z_vret C Z dX11_reckon_145 rfl (by rw [hz49, reckM_y (by omega)] <;> rfl)
          · skip
            refine g_iconst C dX11_reckon_55 rfl ?_
            refine g_istore (lv' := [(5, .int (iI (0))), (4, .int (iI (k8 : Int))), (3, .int (iI x.2.2)), (0, .ref (am 0)), (1, .ref (ad 0)), (2, .int (iI c))]) C dX11_reckon_56 rfl (by decide) rfl ?_
            have L58 : ∀ k7 : Nat, k7 ≤ 4 → gG E zp l ze r_X11_reckon zs zm za zb zh zc zA 7 0 0 zQ (wM E am ss sa (setA (setA M 2 ((rkJ (S.1 3) k8 x k7).1)) 3 ((rkJ (S.1 3) k8 x k7).2.1)) ++ (wS E ad S)) 58 [(5, .int (iI (k7 : Int))), (4, .int (iI (k8 : Int))), (3, .int (iI (rkJ (S.1 3) k8 x k7).2.2)), (0, .ref (am 0)), (1, .ref (ad 0)), (2, .int (iI c))] [] := by
              refine g_up (4) _ ?_
              intro k7 ih58 hk58
              have iv58_0 := rkJ_b (w := S.1 3) (k := (k8 : Int)) iv49_0 k7 (by omega)
              have iv58_1 := rkJ_k (w := S.1 3) (x := x) (k := (k8 : Int)) k7 (by omega)
              obtain ⟨z, hx58⟩ : ∃ z, z = rkJ (S.1 3) k8 x k7 := ⟨_, rfl⟩
              rw [← hx58]
              rw [← hx58] at iv58_0
              rw [← hx58] at iv58_1
              have bz : 0 ≤ z.2.2 ∧ z.2.2 ≤ 80 := ⟨iv58_0.2.2.1, iv58_0.2.2.2.1⟩
              have bq := iv58_0.2.1 (k8 : Int)
              have br := okR_room iv58_0 (q := nbr (z.2.1 (k8 : Int)) (k7 : Int))
              refine g_iload C dX11_reckon_58 rfl 0 rfl ?_
              refine g_iconst C dX11_reckon_60 rfl ?_
              refine g_icmp_ge C dX11_reckon_61 139 (by decide) rfl (by omega) (by omega) (fun c61 => ?_) (fun c61 => ?_)
              · skip
                have hz58 : z = rkJ (S.1 3) k8 x 4 := by rw [hx58, show k7 = 4 from by omega] <;> rfl
                refine g_iinc (lv' := [(4, .int (iI ((k8 : Int) + 1))), (5, .int (iI (k7 : Int))), (3, .int (iI z.2.2)), (0, .ref (am 0)), (1, .ref (ad 0)), (2, .int (iI c))]) C dX11_reckon_139 rfl 1 rfl (by decide) rfl ?_
                refine g_goto C dX11_reckon_142 49 (by decide) ?_
                have e49 : (rkO (S.1 3)) k8 x = (z.1, z.2.1, z.2.2) := by
                  unfold rkO
                  rw [if_pos (by omega), hz58]
                have i49 := ih49 (by omega)
                rw [show rkI (S.1 3) (rk0 (M.1 2) (M.1 3) c) (k8 + 1) = (z.1, z.2.1, z.2.2) from by rw [← e49, hx49]; rfl] at i49
                exact g_to [0, 2, 3, 4, 5] (i49 (by rw [← e49]; exact rkO_le (by omega))) rfl rfl rfl
              · skip
                refine g_aload_n C dX11_reckon_64 rfl 3 rfl ?_
                refine g_get (v := .ref (am 3)) (T := TX11) (N := 13) (ci := 10) C in_X11 0 rfl rfl 8 (by decide) wd942 (Or.inl rfl) rfl dX11_reckon_65 rfl ?_
                refine g_iload C dX11_reckon_68 rfl 1 rfl ?_
                refine g_iald (f := z.2.1) C dX11_reckon_70 rfl 3 rfl (by omega) (by decide) ?_
                have b70 := iv58_0.2.1 (k8 : Int)
                refine g_iload C dX11_reckon_71 rfl 0 rfl ?_
                refine g_callS1 (As := [.int (iI (z.2.1 (k8 : Int))), .int (iI (k7 : Int))]) (rv := some (.int (iI (nbr (z.2.1 (k8 : Int)) (k7 : Int))))) (kc' := 0) (ks' := 0) C (k_X11_beside l E (z.2.1 (k8 : Int)) (k7 : Int) (by omega) (by omega)) mX11_beside wd1111 wd1110 rfl rfl (Nat.le_of_ble_eq_true rfl) ⟨Nat.le_of_ble_eq_true rfl, Nat.le_of_ble_eq_true rfl⟩ ⟨Nat.le_of_ble_eq_true rfl, Nat.le_of_ble_eq_true rfl⟩ rfl rfl dX11_reckon_73 rfl ?_
                have n73 := nbr_b (k := (z.2.1 (k8 : Int))) (d := (k7 : Int)) (by omega)
                refine g_istore (lv' := [(6, .int (iI (nbr (z.2.1 (k8 : Int)) (k7 : Int)))), (5, .int (iI (k7 : Int))), (4, .int (iI (k8 : Int))), (3, .int (iI z.2.2)), (0, .ref (am 0)), (1, .ref (ad 0)), (2, .int (iI c))]) C dX11_reckon_76 rfl (by decide) rfl ?_
                refine g_aload_n C dX11_reckon_78 rfl 5 rfl ?_
                refine g_iload C dX11_reckon_79 rfl 0 rfl ?_
                refine g_perm (ws1 := wS E ad S ++ (wM E am ss sa (setA (setA M 2 z.1) 3 z.2.1))) pm_10 ?_
                refine g_callVf (As := [.int (iI (nbr (z.2.1 (k8 : Int)) (k7 : Int)))]) (rv := some (.int (iI (bI ((nbr (z.2.1 (k8 : Int)) (k7 : Int)) ≠ -1 ∧ (S.1 3) (nbr (z.2.1 (k8 : Int)) (k7 : Int)) < 3))))) (w1 := wS E ad S) (kc' := 0) (ks' := 0) C (wM E am ss sa (setA (setA M 2 z.1) 3 z.2.1)) (k_X10_canBeWalked l E ad S (nbr (z.2.1 (k8 : Int)) (k7 : Int)) hS (by omega)) mX10_canBeWalked iX10_canBeWalked wd1046 0 9 rfl rfl rfl rfl rfl (Nat.le_of_ble_eq_true rfl) ⟨Nat.le_of_ble_eq_true rfl, Nat.le_of_ble_eq_true rfl⟩ ⟨Nat.le_of_ble_eq_true rfl, Nat.le_of_ble_eq_true rfl⟩ rfl rfl rfl dX11_reckon_81 rfl ?_
                refine g_perm (ws1 := wM E am ss sa (setA (setA M 2 z.1) 3 z.2.1) ++ (wS E ad S)) pm_10 ?_
                have n81 := bI_w ((nbr (z.2.1 (k8 : Int)) (k7 : Int)) ≠ -1 ∧ (S.1 3) (nbr (z.2.1 (k8 : Int)) (k7 : Int)) < 3)
                refine g_if_eq C dX11_reckon_84 133 (by decide) rfl (by omega) (fun c84 => ?_) (fun c84 => ?_)
                · skip
                  refine g_iinc (lv' := [(5, .int (iI ((k7 : Int) + 1))), (6, .int (iI (nbr (z.2.1 (k8 : Int)) (k7 : Int)))), (4, .int (iI (k8 : Int))), (3, .int (iI z.2.2)), (0, .ref (am 0)), (1, .ref (ad 0)), (2, .int (iI c))]) C dX11_reckon_133 rfl 1 rfl (by decide) rfl ?_
                  refine g_goto C dX11_reckon_136 58 (by decide) ?_
                  have e58 : (rkB (S.1 3) (k8 : Int)) k7 z = (z.1, z.2.1, z.2.2) := by
                    unfold rkB
                    first | (rw [if_pos (by omega)]) | (rw [if_neg (by omega)])
                  have i58 := ih58 (by omega)
                  rw [show rkJ (S.1 3) k8 x (k7 + 1) = (z.1, z.2.1, z.2.2) from by rw [← e58, hx58]; rfl] at i58
                  exact g_to [0, 2, 3, 4, 5, 6] (i58) rfl rfl rfl
                · skip
                  refine g_aload_n C dX11_reckon_87 rfl 4 rfl ?_
                  refine g_get (v := .ref (am 2)) (T := TX11) (N := 13) (ci := 10) C in_X11 0 rfl rfl 7 (by decide) wd941 (Or.inl rfl) rfl dX11_reckon_88 rfl ?_
                  refine g_iload C dX11_reckon_91 rfl 0 rfl ?_
                  refine g_iald (f := z.1) C dX11_reckon_93 rfl 2 rfl (by omega) (by decide) ?_
                  have b93 := iv58_0.1 (nbr (z.2.1 (k8 : Int)) (k7 : Int))
                  refine g_iconst C dX11_reckon_94 rfl ?_
                  refine g_icmp_eq C dX11_reckon_95 101 (by decide) rfl (by omega) (by omega) (fun c95 => ?_) (fun c95 => ?_)
                  · skip
                    have br2 := br (by omega) (by omega)
                    refine g_aload_n C dX11_reckon_101 rfl 4 rfl ?_
                    refine g_get (v := .ref (am 2)) (T := TX11) (N := 13) (ci := 10) C in_X11 0 rfl rfl 7 (by decide) wd941 (Or.inl rfl) rfl dX11_reckon_102 rfl ?_
                    refine g_iload C dX11_reckon_105 rfl 0 rfl ?_
                    refine g_aload_n C dX11_reckon_107 rfl 4 rfl ?_
                    refine g_get (v := .ref (am 2)) (T := TX11) (N := 13) (ci := 10) C in_X11 0 rfl rfl 7 (by decide) wd941 (Or.inl rfl) rfl dX11_reckon_108 rfl ?_
                    refine g_aload_n C dX11_reckon_111 rfl 4 rfl ?_
                    refine g_get (v := .ref (am 3)) (T := TX11) (N := 13) (ci := 10) C in_X11 0 rfl rfl 8 (by decide) wd942 (Or.inl rfl) rfl dX11_reckon_112 rfl ?_
                    refine g_iload C dX11_reckon_115 rfl 2 rfl ?_
                    refine g_iald (f := z.2.1) C dX11_reckon_117 rfl 3 rfl (by omega) (by decide) ?_
                    have b117 := iv58_0.2.1 (k8 : Int)
                    refine g_iald (f := z.1) C dX11_reckon_118 rfl 2 rfl (by omega) (by decide) ?_
                    have b118 := iv58_0.1 (z.2.1 (k8 : Int))
                    refine g_iconst C dX11_reckon_119 rfl ?_
                    refine g_iadd C dX11_reckon_120 rfl ?_
                    refine g_iast (f := z.1) (ws' := wM E am ss sa (setA (setA M 2 (fset z.1 (nbr (z.2.1 (k8 : Int)) (k7 : Int)) ((z.1 (z.2.1 (k8 : Int))) + (1)))) 3 z.2.1) ++ (wS E ad S)) C dX11_reckon_121 rfl 2 rfl (by omega) (by decide) rfl ?_
                    refine g_aload_n C dX11_reckon_122 rfl 4 rfl ?_
                    refine g_get (v := .ref (am 3)) (T := TX11) (N := 13) (ci := 10) C in_X11 0 rfl rfl 8 (by decide) wd942 (Or.inl rfl) rfl dX11_reckon_123 rfl ?_
                    refine g_iload_n C dX11_reckon_126 rfl 3 rfl ?_
                    refine g_iload C dX11_reckon_127 rfl 0 rfl ?_
                    refine g_iast (f := z.2.1) (ws' := wM E am ss sa (setA (setA M 2 (fset z.1 (nbr (z.2.1 (k8 : Int)) (k7 : Int)) ((z.1 (z.2.1 (k8 : Int))) + (1)))) 3 (fset z.2.1 z.2.2 (nbr (z.2.1 (k8 : Int)) (k7 : Int)))) ++ (wS E ad S)) C dX11_reckon_129 rfl 3 rfl (by omega) (by decide) rfl ?_
                    refine g_iinc (lv' := [(3, .int (iI (z.2.2 + 1))), (6, .int (iI (nbr (z.2.1 (k8 : Int)) (k7 : Int)))), (5, .int (iI (k7 : Int))), (4, .int (iI (k8 : Int))), (0, .ref (am 0)), (1, .ref (ad 0)), (2, .int (iI c))]) C dX11_reckon_130 rfl 3 rfl (by decide) rfl ?_
                    refine g_iinc (lv' := [(5, .int (iI ((k7 : Int) + 1))), (3, .int (iI (z.2.2 + 1))), (6, .int (iI (nbr (z.2.1 (k8 : Int)) (k7 : Int)))), (4, .int (iI (k8 : Int))), (0, .ref (am 0)), (1, .ref (ad 0)), (2, .int (iI c))]) C dX11_reckon_133 rfl 2 rfl (by decide) rfl ?_
                    refine g_goto C dX11_reckon_136 58 (by decide) ?_
                    have e58 : (rkB (S.1 3) (k8 : Int)) k7 z = ((fset z.1 (nbr (z.2.1 (k8 : Int)) (k7 : Int)) ((z.1 (z.2.1 (k8 : Int))) + (1))), (fset z.2.1 z.2.2 (nbr (z.2.1 (k8 : Int)) (k7 : Int))), (z.2.2 + 1)) := by
                      unfold rkB
                      first | (rw [if_pos (by omega)]) | (rw [if_neg (by omega)])
                    have i58 := ih58 (by omega)
                    rw [show rkJ (S.1 3) k8 x (k7 + 1) = ((fset z.1 (nbr (z.2.1 (k8 : Int)) (k7 : Int)) ((z.1 (z.2.1 (k8 : Int))) + (1))), (fset z.2.1 z.2.2 (nbr (z.2.1 (k8 : Int)) (k7 : Int))), (z.2.2 + 1)) from by rw [← e58, hx58]; rfl] at i58
                    exact g_to [0, 3, 1, 4, 5, 6] (i58) rfl rfl rfl
                  · skip
                    refine g_goto C dX11_reckon_98 133 (by decide) ?_
                    refine g_iinc (lv' := [(5, .int (iI ((k7 : Int) + 1))), (6, .int (iI (nbr (z.2.1 (k8 : Int)) (k7 : Int)))), (4, .int (iI (k8 : Int))), (3, .int (iI z.2.2)), (0, .ref (am 0)), (1, .ref (ad 0)), (2, .int (iI c))]) C dX11_reckon_133 rfl 1 rfl (by decide) rfl ?_
                    refine g_goto C dX11_reckon_136 58 (by decide) ?_
                    have e58 : (rkB (S.1 3) (k8 : Int)) k7 z = (z.1, z.2.1, z.2.2) := by
                      unfold rkB
                      first | (rw [if_pos (by omega)]) | (rw [if_neg (by omega)])
                    have i58 := ih58 (by omega)
                    rw [show rkJ (S.1 3) k8 x (k7 + 1) = (z.1, z.2.1, z.2.2) from by rw [← e58, hx58]; rfl] at i58
                    exact g_to [0, 2, 3, 4, 5, 6] (i58) rfl rfl rfl
            refine g_to [0, 1, 2, 3, 4, 5] (L58 0 (by omega)) rfl rfl rfl
        refine g_to [0, 1, 2, 3, 4] (L49 0 (by omega) (by show (0 : Int) ≤ 1; decide)) (by rw [hz2]; rfl) rfl rfl
      · skip
        exact z_vret C Z dX11_reckon_29 rfl (by rw [reckM_n (by omega), hz2] <;> rfl)
    · skip
      refine g_aload_n C dX11_reckon_8 rfl 1 rfl ?_
      refine g_get (v := .ref (am 2)) (T := TX11) (N := 13) (ci := 10) C in_X11 0 rfl rfl 7 (by decide) wd941 (Or.inl rfl) rfl dX11_reckon_9 rfl ?_
      refine g_iload_n C dX11_reckon_12 rfl 0 rfl ?_
      refine g_iconst C dX11_reckon_13 rfl ?_
      refine g_iast (f := y) (ws' := wM E am ss sa (setA M 2 (fset y (k9 : Int) (-1))) ++ (wS E ad S)) C dX11_reckon_14 rfl 2 rfl (by omega) (by decide) rfl ?_
      refine g_iinc (lv' := [(3, .int (iI ((k9 : Int) + 1))), (0, .ref (am 0)), (1, .ref (ad 0)), (2, .int (iI c))]) C dX11_reckon_15 rfl 0 rfl (by decide) rfl ?_
      refine g_goto C dX11_reckon_18 2 (by decide) ?_
      have e2 : noneB k9 y = (fset y (k9 : Int) (-1)) := by
        rfl
      have i2 := ih2 (by omega)
      rw [show itr noneB (M.1 2) (k9 + 1) = (fset y (k9 : Int) (-1)) from by rw [← e2, hx2]; rfl] at i2
      exact g_to [0, 1, 2, 3] (i2) rfl rfl rfl
  refine g_to [0, 1, 2, 3] (L2 0 (by omega)) rfl rfl rfl
