abbrev r_X11_cell : Room := { frames := 2, cells := 1, slots := 6, locals := 46 }
set_option maxHeartbeats 4000000 in
set_option maxRecDepth 100000 in
theorem k_X11_cell (l : Launch) (E : gE) (am : Nat → Nat) (sa : Nat) (M : gS) (ad : Nat → Nat) (S : gS) (x y what : Int) (hM : okM M) (hS : okS S) (hx : (-2147483648 ≤ x ∧ x ≤ 2147483647)) (hy : (-2147483648 ≤ y ∧ y ≤ 2147483647)) (hwhat : (-2147483648 ≤ what ∧ what ≤ 2147483647)) : gK l E yX11_cell cX11_cell 4 (some .int) r_X11_cell [.ref (am 0), .int (iI x), .int (iI y), .int (iI what)] (wM E am (ad 0) sa M ++ (wS E ad S)) (some (.int (iI (if tIn (tC x y) (0 ≤ what ∧ what ≤ 5) = 0 then mCel S (M.2 4).toNat (10 * y + x) what else 0)))) (wM E am (ad 0) sa (setI M 0 (tIn (tC x y) (0 ≤ what ∧ what ≤ 5))) ++ (wS E ad (S))) := by
  refine gK_by RX11 rfl mX11_cell [(0, .ref (am 0)), (1, .int (iI x)), (2, .int (iI y)), (3, .int (iI what))] (Nat.le_of_ble_eq_true rfl) rfl ?_
  intro zp ze zs zm za zb zh zc zA zQ C Z
  refine g_aload_n C dX11_cell_0 rfl 0 rfl ?_
  refine g_iconst C dX11_cell_1 rfl ?_
  refine g_put (T := TX11) (N := 13) (ci := 10) (ws' := wM E am (ad 0) sa (setI M 0 (0)) ++ (wS E ad S)) C in_X11 tyX11 tyX11_ok nmX11 0 rfl rfl 0 (by decide) wd934 (Or.inl rfl) rfl (ty := .int) (by decide +kernel) rfl rfl (Nat.le_of_ble_eq_true rfl) rfl dX11_cell_2 rfl ?_
  refine g_iload_n C dX11_cell_5 rfl 1 rfl ?_
  refine g_iload_n C dX11_cell_6 rfl 2 rfl ?_
  refine g_callS1 (As := [.int (iI x), .int (iI y)]) (rv := some (.int (iI (bI ((0 ≤ x ∧ x ≤ 9) ∧ 0 ≤ y ∧ y ≤ 7))))) (kc' := 0) (ks' := 0) C (k_X11_isCell l E x y (by omega) (by omega)) mX11_isCell wd983 wd982 rfl rfl (Nat.le_of_ble_eq_true rfl) ⟨Nat.le_of_ble_eq_true rfl, Nat.le_of_ble_eq_true rfl⟩ ⟨Nat.le_of_ble_eq_true rfl, Nat.le_of_ble_eq_true rfl⟩ rfl rfl dX11_cell_7 rfl ?_
  have n7 := bI_w ((0 ≤ x ∧ x ≤ 9) ∧ 0 ≤ y ∧ y ≤ 7)
  refine g_if_eq C dX11_cell_10 36 (by decide) rfl (by omega) (fun c10 => ?_) (fun c10 => ?_)
  · skip
    refine g_aload_n C dX11_cell_36 rfl 0 rfl ?_
    refine g_iconst C dX11_cell_37 rfl ?_
    refine g_callVf (As := [.int (iI (1))]) (rv := some (.int (iI (0)))) (w1 := wM E am (ad 0) sa (setI M 0 (1))) (kc' := 0) (ks' := 0) C (wS E ad S) (k_X11_no l E am (ad 0) sa (setI M 0 (0)) (1)) mX11_no iX11_no wd988 0 10 rfl rfl rfl rfl rfl (Nat.le_of_ble_eq_true rfl) ⟨Nat.le_of_ble_eq_true rfl, Nat.le_of_ble_eq_true rfl⟩ ⟨Nat.le_of_ble_eq_true rfl, Nat.le_of_ble_eq_true rfl⟩ rfl rfl rfl dX11_cell_38 rfl ?_
    refine g_widen (kc' := 1) (ks' := 6) (Nat.le_of_ble_eq_true rfl) (Nat.le_of_ble_eq_true rfl) ?_
    exact z_iret C Z rfl dX11_cell_41 (by rw [show tIn (tC x y) (0 ≤ what ∧ what ≤ 5) = (1 : Int) from by unfold tIn tC; repeat (first | (rw [if_pos (by omega)]) | (rw [if_neg (by omega)]) | (rw [if_pos trivial]))] <;> rfl) (by rw [show tIn (tC x y) (0 ≤ what ∧ what ≤ 5) = (1 : Int) from by unfold tIn tC; repeat (first | (rw [if_pos (by omega)]) | (rw [if_neg (by omega)]) | (rw [if_pos trivial]))] <;> rfl)
  · skip
    refine g_iload_n C dX11_cell_13 rfl 3 rfl ?_
    refine g_iconst C dX11_cell_14 rfl ?_
    refine g_iconst C dX11_cell_15 rfl ?_
    refine g_callS1 (As := [.int (iI what), .int (iI (0)), .int (iI (5))]) (rv := some (.int (iI (bI ((0) ≤ what ∧ what ≤ (5)))))) (kc' := 0) (ks' := 0) C (k_X11_isIn l E what (0) (5) (by omega) (by omega) (by omega)) mX11_isIn wd986 wd985 rfl rfl (Nat.le_of_ble_eq_true rfl) ⟨Nat.le_of_ble_eq_true rfl, Nat.le_of_ble_eq_true rfl⟩ ⟨Nat.le_of_ble_eq_true rfl, Nat.le_of_ble_eq_true rfl⟩ rfl rfl dX11_cell_16 rfl ?_
    have n16 := bI_w ((0) ≤ what ∧ what ≤ (5))
    refine g_if_eq C dX11_cell_19 36 (by decide) rfl (by omega) (fun c19 => ?_) (fun c19 => ?_)
    · skip
      refine g_aload_n C dX11_cell_36 rfl 0 rfl ?_
      refine g_iconst C dX11_cell_37 rfl ?_
      refine g_callVf (As := [.int (iI (1))]) (rv := some (.int (iI (0)))) (w1 := wM E am (ad 0) sa (setI M 0 (1))) (kc' := 0) (ks' := 0) C (wS E ad S) (k_X11_no l E am (ad 0) sa (setI M 0 (0)) (1)) mX11_no iX11_no wd988 0 10 rfl rfl rfl rfl rfl (Nat.le_of_ble_eq_true rfl) ⟨Nat.le_of_ble_eq_true rfl, Nat.le_of_ble_eq_true rfl⟩ ⟨Nat.le_of_ble_eq_true rfl, Nat.le_of_ble_eq_true rfl⟩ rfl rfl rfl dX11_cell_38 rfl ?_
      refine g_widen (kc' := 1) (ks' := 6) (Nat.le_of_ble_eq_true rfl) (Nat.le_of_ble_eq_true rfl) ?_
      exact z_iret C Z rfl dX11_cell_41 (by rw [show tIn (tC x y) (0 ≤ what ∧ what ≤ 5) = (1 : Int) from by unfold tIn tC; repeat (first | (rw [if_pos (by omega)]) | (rw [if_neg (by omega)]) | (rw [if_pos trivial]))] <;> rfl) (by rw [show tIn (tC x y) (0 ≤ what ∧ what ≤ 5) = (1 : Int) from by unfold tIn tC; repeat (first | (rw [if_pos (by omega)]) | (rw [if_neg (by omega)]) | (rw [if_pos trivial]))] <;> rfl)
    · skip
      refine g_aload_n C dX11_cell_22 rfl 0 rfl ?_
      refine g_bipush C dX11_cell_23 rfl rfl ?_
      refine g_iload_n C dX11_cell_25 rfl 2 rfl ?_
      refine g_imul C dX11_cell_26 rfl ?_
      refine g_iload_n C dX11_cell_27 rfl 1 rfl ?_
      refine g_iadd C dX11_cell_28 rfl ?_
      refine g_iload_n C dX11_cell_29 rfl 3 rfl ?_
      refine g_callV0 (As := [.int (iI (((10) * y) + x)), .int (iI what)]) (rv := some (.int (iI (mCel S ((M.2 4)).toNat (((10) * y) + x) what)))) (w1 := wM E am (ad 0) sa (setI M 0 (0)) ++ (wS E ad S)) (kc' := 1) (ks' := 6) C (k_X11_cellTold l E am sa (setI M 0 (0)) ad S (((10) * y) + x) what (okM_j0 (S := M) hM) hS (by omega) (by omega)) mX11_cellTold iX11_cellTold wd1034 0 10 rfl rfl rfl rfl rfl (Nat.le_of_ble_eq_true rfl) ⟨Nat.le_of_ble_eq_true rfl, Nat.le_of_ble_eq_true rfl⟩ ⟨Nat.le_of_ble_eq_true rfl, Nat.le_of_ble_eq_true rfl⟩ rfl rfl dX11_cell_30 rfl ?_
      refine g_goto C dX11_cell_33 41 (by decide) ?_
      exact z_iret C Z rfl dX11_cell_41 (by rw [show tIn (tC x y) (0 ≤ what ∧ what ≤ 5) = (0 : Int) from by unfold tIn tC; repeat (first | (rw [if_pos (by omega)]) | (rw [if_neg (by omega)]) | (rw [if_pos trivial]))] <;> rfl) (by rw [show tIn (tC x y) (0 ≤ what ∧ what ≤ 5) = (0 : Int) from by unfold tIn tC; repeat (first | (rw [if_pos (by omega)]) | (rw [if_neg (by omega)]) | (rw [if_pos trivial]))] <;> rfl)
abbrev r_X11_pump : Room := { frames := 1, cells := 0, slots := 0, locals := 22 }
set_option maxHeartbeats 4000000 in
set_option maxRecDepth 100000 in
theorem k_X11_pump (l : Launch) (E : gE) (am : Nat → Nat) (sa : Nat) (M : gS) (ad : Nat → Nat) (S : gS) (a what : Int) (hM : okM M) (hS : okS S) (ha : (-2147483648 ≤ a ∧ a ≤ 2147483647)) (hwhat : (-2147483648 ≤ what ∧ what ≤ 2147483647)) : gK l E yX11_pump cX11_pump 3 (some .int) r_X11_pump [.ref (am 0), .int (iI a), .int (iI what)] (wM E am (ad 0) sa M ++ (wS E ad S)) (some (.int (iI (if tIn (0 ≤ a ∧ a ≤ M.2 1 - 1) (0 ≤ what ∧ what ≤ 5) = 0 then mPmp S a what else 0)))) (wM E am (ad 0) sa (setI M 0 (tIn (0 ≤ a ∧ a ≤ M.2 1 - 1) (0 ≤ what ∧ what ≤ 5))) ++ (wS E ad (S))) := by
  refine gK_by RX11 rfl mX11_pump [(0, .ref (am 0)), (1, .int (iI a)), (2, .int (iI what))] (Nat.le_of_ble_eq_true rfl) rfl ?_
  intro zp ze zs zm za zb zh zc zA zQ C Z
  refine g_aload_n C dX11_pump_0 rfl 0 rfl ?_
  refine g_iconst C dX11_pump_1 rfl ?_
  refine g_put (T := TX11) (N := 13) (ci := 10) (ws' := wM E am (ad 0) sa (setI M 0 (0)) ++ (wS E ad S)) C in_X11 tyX11 tyX11_ok nmX11 0 rfl rfl 0 (by decide) wd934 (Or.inl rfl) rfl (ty := .int) (by decide +kernel) rfl rfl (Nat.le_of_ble_eq_true rfl) rfl dX11_pump_2 rfl ?_
  refine g_iload_n C dX11_pump_5 rfl 1 rfl ?_
  refine g_iconst C dX11_pump_6 rfl ?_
  refine g_aload_n C dX11_pump_7 rfl 0 rfl ?_
  refine g_get (v := .int (iI (M.2 1))) (T := TX11) (N := 13) (ci := 10) C in_X11 0 rfl rfl 2 (by decide) wd936 (Or.inl rfl) rfl dX11_pump_8 rfl ?_
  have f8 := okM_i1 hM
  refine g_iconst C dX11_pump_11 rfl ?_
  refine g_isub C dX11_pump_12 rfl ?_
  refine g_callS1 (As := [.int (iI a), .int (iI (0)), .int (iI ((M.2 1) - (1)))]) (rv := some (.int (iI (bI ((0) ≤ a ∧ a ≤ ((M.2 1) - (1))))))) (kc' := 0) (ks' := 0) C (k_X11_isIn l E a (0) ((M.2 1) - (1)) (by omega) (by omega) (by omega)) mX11_isIn wd986 wd985 rfl rfl (Nat.le_of_ble_eq_true rfl) ⟨Nat.le_of_ble_eq_true rfl, Nat.le_of_ble_eq_true rfl⟩ ⟨Nat.le_of_ble_eq_true rfl, Nat.le_of_ble_eq_true rfl⟩ rfl rfl dX11_pump_13 rfl ?_
  have n13 := bI_w ((0) ≤ a ∧ a ≤ ((M.2 1) - (1)))
  refine g_if_eq C dX11_pump_16 37 (by decide) rfl (by omega) (fun c16 => ?_) (fun c16 => ?_)
  · skip
    refine g_aload_n C dX11_pump_37 rfl 0 rfl ?_
    refine g_iconst C dX11_pump_38 rfl ?_
    refine g_callVf (As := [.int (iI (1))]) (rv := some (.int (iI (0)))) (w1 := wM E am (ad 0) sa (setI M 0 (1))) (kc' := 0) (ks' := 0) C (wS E ad S) (k_X11_no l E am (ad 0) sa (setI M 0 (0)) (1)) mX11_no iX11_no wd988 0 10 rfl rfl rfl rfl rfl (Nat.le_of_ble_eq_true rfl) ⟨Nat.le_of_ble_eq_true rfl, Nat.le_of_ble_eq_true rfl⟩ ⟨Nat.le_of_ble_eq_true rfl, Nat.le_of_ble_eq_true rfl⟩ rfl rfl rfl dX11_pump_39 rfl ?_
    exact z_iret C Z rfl dX11_pump_42 (by rw [show tIn (0 ≤ a ∧ a ≤ M.2 1 - 1) (0 ≤ what ∧ what ≤ 5) = (1 : Int) from by unfold tIn; repeat (first | (rw [if_pos (by omega)]) | (rw [if_neg (by omega)]) | (rw [if_pos trivial]))] <;> rfl) (by rw [show tIn (0 ≤ a ∧ a ≤ M.2 1 - 1) (0 ≤ what ∧ what ≤ 5) = (1 : Int) from by unfold tIn; repeat (first | (rw [if_pos (by omega)]) | (rw [if_neg (by omega)]) | (rw [if_pos trivial]))] <;> rfl)
  · skip
    refine g_iload_n C dX11_pump_19 rfl 2 rfl ?_
    refine g_iconst C dX11_pump_20 rfl ?_
    refine g_iconst C dX11_pump_21 rfl ?_
    refine g_callS1 (As := [.int (iI what), .int (iI (0)), .int (iI (5))]) (rv := some (.int (iI (bI ((0) ≤ what ∧ what ≤ (5)))))) (kc' := 0) (ks' := 0) C (k_X11_isIn l E what (0) (5) (by omega) (by omega) (by omega)) mX11_isIn wd986 wd985 rfl rfl (Nat.le_of_ble_eq_true rfl) ⟨Nat.le_of_ble_eq_true rfl, Nat.le_of_ble_eq_true rfl⟩ ⟨Nat.le_of_ble_eq_true rfl, Nat.le_of_ble_eq_true rfl⟩ rfl rfl dX11_pump_22 rfl ?_
    have n22 := bI_w ((0) ≤ what ∧ what ≤ (5))
    refine g_if_eq C dX11_pump_25 37 (by decide) rfl (by omega) (fun c25 => ?_) (fun c25 => ?_)
    · skip
      refine g_aload_n C dX11_pump_37 rfl 0 rfl ?_
      refine g_iconst C dX11_pump_38 rfl ?_
      refine g_callVf (As := [.int (iI (1))]) (rv := some (.int (iI (0)))) (w1 := wM E am (ad 0) sa (setI M 0 (1))) (kc' := 0) (ks' := 0) C (wS E ad S) (k_X11_no l E am (ad 0) sa (setI M 0 (0)) (1)) mX11_no iX11_no wd988 0 10 rfl rfl rfl rfl rfl (Nat.le_of_ble_eq_true rfl) ⟨Nat.le_of_ble_eq_true rfl, Nat.le_of_ble_eq_true rfl⟩ ⟨Nat.le_of_ble_eq_true rfl, Nat.le_of_ble_eq_true rfl⟩ rfl rfl rfl dX11_pump_39 rfl ?_
      exact z_iret C Z rfl dX11_pump_42 (by rw [show tIn (0 ≤ a ∧ a ≤ M.2 1 - 1) (0 ≤ what ∧ what ≤ 5) = (1 : Int) from by unfold tIn; repeat (first | (rw [if_pos (by omega)]) | (rw [if_neg (by omega)]) | (rw [if_pos trivial]))] <;> rfl) (by rw [show tIn (0 ≤ a ∧ a ≤ M.2 1 - 1) (0 ≤ what ∧ what ≤ 5) = (1 : Int) from by unfold tIn; repeat (first | (rw [if_pos (by omega)]) | (rw [if_neg (by omega)]) | (rw [if_pos trivial]))] <;> rfl)
    · skip
      refine g_aload_n C dX11_pump_28 rfl 0 rfl ?_
      refine g_iload_n C dX11_pump_29 rfl 1 rfl ?_
      refine g_iload_n C dX11_pump_30 rfl 2 rfl ?_
      refine g_callV0 (As := [.int (iI a), .int (iI what)]) (rv := some (.int (iI (mPmp S a what)))) (w1 := wM E am (ad 0) sa (setI M 0 (0)) ++ (wS E ad S)) (kc' := 0) (ks' := 0) C (k_X11_pumpTold l E am sa (setI M 0 (0)) ad S a what (okM_j0 (S := M) hM) hS (by omega) (by omega)) mX11_pumpTold iX11_pumpTold wd1054 0 10 rfl rfl rfl rfl rfl (Nat.le_of_ble_eq_true rfl) ⟨Nat.le_of_ble_eq_true rfl, Nat.le_of_ble_eq_true rfl⟩ ⟨Nat.le_of_ble_eq_true rfl, Nat.le_of_ble_eq_true rfl⟩ rfl rfl dX11_pump_31 rfl ?_
      refine g_goto C dX11_pump_34 42 (by decide) ?_
      exact z_iret C Z rfl dX11_pump_42 (by rw [show tIn (0 ≤ a ∧ a ≤ M.2 1 - 1) (0 ≤ what ∧ what ≤ 5) = (0 : Int) from by unfold tIn; repeat (first | (rw [if_pos (by omega)]) | (rw [if_neg (by omega)]) | (rw [if_pos trivial]))] <;> rfl) (by rw [show tIn (0 ≤ a ∧ a ≤ M.2 1 - 1) (0 ≤ what ∧ what ≤ 5) = (0 : Int) from by unfold tIn; repeat (first | (rw [if_pos (by omega)]) | (rw [if_neg (by omega)]) | (rw [if_pos trivial]))] <;> rfl)
abbrev r_X11_gauge : Room := { frames := 2, cells := 0, slots := 0, locals := 45 }
set_option maxHeartbeats 4000000 in
set_option maxRecDepth 100000 in
theorem k_X11_gauge (l : Launch) (E : gE) (am : Nat → Nat) (sa : Nat) (M : gS) (ad : Nat → Nat) (S : gS) (a what : Int) (hM : okM M) (hS : okS S) (ha : (-2147483648 ≤ a ∧ a ≤ 2147483647)) (hwhat : (-2147483648 ≤ what ∧ what ≤ 2147483647)) : gK l E yX11_gauge cX11_gauge 3 (some .int) r_X11_gauge [.ref (am 0), .int (iI a), .int (iI what)] (wM E am (ad 0) sa M ++ (wS E ad S)) (some (.int (iI (if tIn (0 ≤ a ∧ a ≤ M.2 2 - 1) (0 ≤ what ∧ what ≤ 4) = 0 then mGau S a what else 0)))) (wM E am (ad 0) sa (setI M 0 (tIn (0 ≤ a ∧ a ≤ M.2 2 - 1) (0 ≤ what ∧ what ≤ 4))) ++ (wS E ad (S))) := by
  refine gK_by RX11 rfl mX11_gauge [(0, .ref (am 0)), (1, .int (iI a)), (2, .int (iI what))] (Nat.le_of_ble_eq_true rfl) rfl ?_
  intro zp ze zs zm za zb zh zc zA zQ C Z
  refine g_aload_n C dX11_gauge_0 rfl 0 rfl ?_
  refine g_iconst C dX11_gauge_1 rfl ?_
  refine g_put (T := TX11) (N := 13) (ci := 10) (ws' := wM E am (ad 0) sa (setI M 0 (0)) ++ (wS E ad S)) C in_X11 tyX11 tyX11_ok nmX11 0 rfl rfl 0 (by decide) wd934 (Or.inl rfl) rfl (ty := .int) (by decide +kernel) rfl rfl (Nat.le_of_ble_eq_true rfl) rfl dX11_gauge_2 rfl ?_
  refine g_iload_n C dX11_gauge_5 rfl 1 rfl ?_
  refine g_iconst C dX11_gauge_6 rfl ?_
  refine g_aload_n C dX11_gauge_7 rfl 0 rfl ?_
  refine g_get (v := .int (iI (M.2 2))) (T := TX11) (N := 13) (ci := 10) C in_X11 0 rfl rfl 3 (by decide) wd937 (Or.inl rfl) rfl dX11_gauge_8 rfl ?_
  have f8 := okM_i2 hM
  refine g_iconst C dX11_gauge_11 rfl ?_
  refine g_isub C dX11_gauge_12 rfl ?_
  refine g_callS1 (As := [.int (iI a), .int (iI (0)), .int (iI ((M.2 2) - (1)))]) (rv := some (.int (iI (bI ((0) ≤ a ∧ a ≤ ((M.2 2) - (1))))))) (kc' := 0) (ks' := 0) C (k_X11_isIn l E a (0) ((M.2 2) - (1)) (by omega) (by omega) (by omega)) mX11_isIn wd986 wd985 rfl rfl (Nat.le_of_ble_eq_true rfl) ⟨Nat.le_of_ble_eq_true rfl, Nat.le_of_ble_eq_true rfl⟩ ⟨Nat.le_of_ble_eq_true rfl, Nat.le_of_ble_eq_true rfl⟩ rfl rfl dX11_gauge_13 rfl ?_
  have n13 := bI_w ((0) ≤ a ∧ a ≤ ((M.2 2) - (1)))
  refine g_if_eq C dX11_gauge_16 37 (by decide) rfl (by omega) (fun c16 => ?_) (fun c16 => ?_)
  · skip
    refine g_aload_n C dX11_gauge_37 rfl 0 rfl ?_
    refine g_iconst C dX11_gauge_38 rfl ?_
    refine g_callVf (As := [.int (iI (1))]) (rv := some (.int (iI (0)))) (w1 := wM E am (ad 0) sa (setI M 0 (1))) (kc' := 0) (ks' := 0) C (wS E ad S) (k_X11_no l E am (ad 0) sa (setI M 0 (0)) (1)) mX11_no iX11_no wd988 0 10 rfl rfl rfl rfl rfl (Nat.le_of_ble_eq_true rfl) ⟨Nat.le_of_ble_eq_true rfl, Nat.le_of_ble_eq_true rfl⟩ ⟨Nat.le_of_ble_eq_true rfl, Nat.le_of_ble_eq_true rfl⟩ rfl rfl rfl dX11_gauge_39 rfl ?_
    exact z_iret C Z rfl dX11_gauge_42 (by rw [show tIn (0 ≤ a ∧ a ≤ M.2 2 - 1) (0 ≤ what ∧ what ≤ 4) = (1 : Int) from by unfold tIn; repeat (first | (rw [if_pos (by omega)]) | (rw [if_neg (by omega)]) | (rw [if_pos trivial]))] <;> rfl) (by rw [show tIn (0 ≤ a ∧ a ≤ M.2 2 - 1) (0 ≤ what ∧ what ≤ 4) = (1 : Int) from by unfold tIn; repeat (first | (rw [if_pos (by omega)]) | (rw [if_neg (by omega)]) | (rw [if_pos trivial]))] <;> rfl)
  · skip
    refine g_iload_n C dX11_gauge_19 rfl 2 rfl ?_
    refine g_iconst C dX11_gauge_20 rfl ?_
    refine g_iconst C dX11_gauge_21 rfl ?_
    refine g_callS1 (As := [.int (iI what), .int (iI (0)), .int (iI (4))]) (rv := some (.int (iI (bI ((0) ≤ what ∧ what ≤ (4)))))) (kc' := 0) (ks' := 0) C (k_X11_isIn l E what (0) (4) (by omega) (by omega) (by omega)) mX11_isIn wd986 wd985 rfl rfl (Nat.le_of_ble_eq_true rfl) ⟨Nat.le_of_ble_eq_true rfl, Nat.le_of_ble_eq_true rfl⟩ ⟨Nat.le_of_ble_eq_true rfl, Nat.le_of_ble_eq_true rfl⟩ rfl rfl dX11_gauge_22 rfl ?_
    have n22 := bI_w ((0) ≤ what ∧ what ≤ (4))
    refine g_if_eq C dX11_gauge_25 37 (by decide) rfl (by omega) (fun c25 => ?_) (fun c25 => ?_)
    · skip
      refine g_aload_n C dX11_gauge_37 rfl 0 rfl ?_
      refine g_iconst C dX11_gauge_38 rfl ?_
      refine g_callVf (As := [.int (iI (1))]) (rv := some (.int (iI (0)))) (w1 := wM E am (ad 0) sa (setI M 0 (1))) (kc' := 0) (ks' := 0) C (wS E ad S) (k_X11_no l E am (ad 0) sa (setI M 0 (0)) (1)) mX11_no iX11_no wd988 0 10 rfl rfl rfl rfl rfl (Nat.le_of_ble_eq_true rfl) ⟨Nat.le_of_ble_eq_true rfl, Nat.le_of_ble_eq_true rfl⟩ ⟨Nat.le_of_ble_eq_true rfl, Nat.le_of_ble_eq_true rfl⟩ rfl rfl rfl dX11_gauge_39 rfl ?_
      exact z_iret C Z rfl dX11_gauge_42 (by rw [show tIn (0 ≤ a ∧ a ≤ M.2 2 - 1) (0 ≤ what ∧ what ≤ 4) = (1 : Int) from by unfold tIn; repeat (first | (rw [if_pos (by omega)]) | (rw [if_neg (by omega)]) | (rw [if_pos trivial]))] <;> rfl) (by rw [show tIn (0 ≤ a ∧ a ≤ M.2 2 - 1) (0 ≤ what ∧ what ≤ 4) = (1 : Int) from by unfold tIn; repeat (first | (rw [if_pos (by omega)]) | (rw [if_neg (by omega)]) | (rw [if_pos trivial]))] <;> rfl)
    · skip
      refine g_aload_n C dX11_gauge_28 rfl 0 rfl ?_
      refine g_iload_n C dX11_gauge_29 rfl 1 rfl ?_
      refine g_iload_n C dX11_gauge_30 rfl 2 rfl ?_
      refine g_callV0 (As := [.int (iI a), .int (iI what)]) (rv := some (.int (iI (mGau S a what)))) (w1 := wM E am (ad 0) sa (setI M 0 (0)) ++ (wS E ad S)) (kc' := 0) (ks' := 0) C (k_X11_gaugeTold l E am sa (setI M 0 (0)) ad S a what (okM_j0 (S := M) hM) hS (by omega) (by omega)) mX11_gaugeTold iX11_gaugeTold wd1062 0 10 rfl rfl rfl rfl rfl (Nat.le_of_ble_eq_true rfl) ⟨Nat.le_of_ble_eq_true rfl, Nat.le_of_ble_eq_true rfl⟩ ⟨Nat.le_of_ble_eq_true rfl, Nat.le_of_ble_eq_true rfl⟩ rfl rfl dX11_gauge_31 rfl ?_
      refine g_goto C dX11_gauge_34 42 (by decide) ?_
      exact z_iret C Z rfl dX11_gauge_42 (by rw [show tIn (0 ≤ a ∧ a ≤ M.2 2 - 1) (0 ≤ what ∧ what ≤ 4) = (0 : Int) from by unfold tIn; repeat (first | (rw [if_pos (by omega)]) | (rw [if_neg (by omega)]) | (rw [if_pos trivial]))] <;> rfl) (by rw [show tIn (0 ≤ a ∧ a ≤ M.2 2 - 1) (0 ≤ what ∧ what ≤ 4) = (0 : Int) from by unfold tIn; repeat (first | (rw [if_pos (by omega)]) | (rw [if_neg (by omega)]) | (rw [if_pos trivial]))] <;> rfl)
abbrev r_X11_refuge : Room := { frames := 2, cells := 0, slots := 0, locals := 48 }
set_option maxHeartbeats 4000000 in
set_option maxRecDepth 100000 in
theorem k_X11_refuge (l : Launch) (E : gE) (am : Nat → Nat) (sa : Nat) (M : gS) (ad : Nat → Nat) (S : gS) (a what : Int) (hM : okM M) (hS : okS S) (ha : (-2147483648 ≤ a ∧ a ≤ 2147483647)) (hwhat : (-2147483648 ≤ what ∧ what ≤ 2147483647)) : gK l E yX11_refuge cX11_refuge 3 (some .int) r_X11_refuge [.ref (am 0), .int (iI a), .int (iI what)] (wM E am (ad 0) sa M ++ (wS E ad S)) (some (.int (iI (if tIn (0 ≤ a ∧ a ≤ M.2 3 - 1) (0 ≤ what ∧ what ≤ 4) = 0 then mRef S (M.2 4).toNat a what else 0)))) (wM E am (ad 0) sa (setI M 0 (tIn (0 ≤ a ∧ a ≤ M.2 3 - 1) (0 ≤ what ∧ what ≤ 4))) ++ (wS E ad (S))) := by
  refine gK_by RX11 rfl mX11_refuge [(0, .ref (am 0)), (1, .int (iI a)), (2, .int (iI what))] (Nat.le_of_ble_eq_true rfl) rfl ?_
  intro zp ze zs zm za zb zh zc zA zQ C Z
  refine g_aload_n C dX11_refuge_0 rfl 0 rfl ?_
  refine g_iconst C dX11_refuge_1 rfl ?_
  refine g_put (T := TX11) (N := 13) (ci := 10) (ws' := wM E am (ad 0) sa (setI M 0 (0)) ++ (wS E ad S)) C in_X11 tyX11 tyX11_ok nmX11 0 rfl rfl 0 (by decide) wd934 (Or.inl rfl) rfl (ty := .int) (by decide +kernel) rfl rfl (Nat.le_of_ble_eq_true rfl) rfl dX11_refuge_2 rfl ?_
  refine g_iload_n C dX11_refuge_5 rfl 1 rfl ?_
  refine g_iconst C dX11_refuge_6 rfl ?_
  refine g_aload_n C dX11_refuge_7 rfl 0 rfl ?_
  refine g_get (v := .int (iI (M.2 3))) (T := TX11) (N := 13) (ci := 10) C in_X11 0 rfl rfl 4 (by decide) wd938 (Or.inl rfl) rfl dX11_refuge_8 rfl ?_
  have f8 := okM_i3 hM
  refine g_iconst C dX11_refuge_11 rfl ?_
  refine g_isub C dX11_refuge_12 rfl ?_
  refine g_callS1 (As := [.int (iI a), .int (iI (0)), .int (iI ((M.2 3) - (1)))]) (rv := some (.int (iI (bI ((0) ≤ a ∧ a ≤ ((M.2 3) - (1))))))) (kc' := 0) (ks' := 0) C (k_X11_isIn l E a (0) ((M.2 3) - (1)) (by omega) (by omega) (by omega)) mX11_isIn wd986 wd985 rfl rfl (Nat.le_of_ble_eq_true rfl) ⟨Nat.le_of_ble_eq_true rfl, Nat.le_of_ble_eq_true rfl⟩ ⟨Nat.le_of_ble_eq_true rfl, Nat.le_of_ble_eq_true rfl⟩ rfl rfl dX11_refuge_13 rfl ?_
  have n13 := bI_w ((0) ≤ a ∧ a ≤ ((M.2 3) - (1)))
  refine g_if_eq C dX11_refuge_16 37 (by decide) rfl (by omega) (fun c16 => ?_) (fun c16 => ?_)
  · skip
    refine g_aload_n C dX11_refuge_37 rfl 0 rfl ?_
    refine g_iconst C dX11_refuge_38 rfl ?_
    refine g_callVf (As := [.int (iI (1))]) (rv := some (.int (iI (0)))) (w1 := wM E am (ad 0) sa (setI M 0 (1))) (kc' := 0) (ks' := 0) C (wS E ad S) (k_X11_no l E am (ad 0) sa (setI M 0 (0)) (1)) mX11_no iX11_no wd988 0 10 rfl rfl rfl rfl rfl (Nat.le_of_ble_eq_true rfl) ⟨Nat.le_of_ble_eq_true rfl, Nat.le_of_ble_eq_true rfl⟩ ⟨Nat.le_of_ble_eq_true rfl, Nat.le_of_ble_eq_true rfl⟩ rfl rfl rfl dX11_refuge_39 rfl ?_
    exact z_iret C Z rfl dX11_refuge_42 (by rw [show tIn (0 ≤ a ∧ a ≤ M.2 3 - 1) (0 ≤ what ∧ what ≤ 4) = (1 : Int) from by unfold tIn; repeat (first | (rw [if_pos (by omega)]) | (rw [if_neg (by omega)]) | (rw [if_pos trivial]))] <;> rfl) (by rw [show tIn (0 ≤ a ∧ a ≤ M.2 3 - 1) (0 ≤ what ∧ what ≤ 4) = (1 : Int) from by unfold tIn; repeat (first | (rw [if_pos (by omega)]) | (rw [if_neg (by omega)]) | (rw [if_pos trivial]))] <;> rfl)
  · skip
    refine g_iload_n C dX11_refuge_19 rfl 2 rfl ?_
    refine g_iconst C dX11_refuge_20 rfl ?_
    refine g_iconst C dX11_refuge_21 rfl ?_
    refine g_callS1 (As := [.int (iI what), .int (iI (0)), .int (iI (4))]) (rv := some (.int (iI (bI ((0) ≤ what ∧ what ≤ (4)))))) (kc' := 0) (ks' := 0) C (k_X11_isIn l E what (0) (4) (by omega) (by omega) (by omega)) mX11_isIn wd986 wd985 rfl rfl (Nat.le_of_ble_eq_true rfl) ⟨Nat.le_of_ble_eq_true rfl, Nat.le_of_ble_eq_true rfl⟩ ⟨Nat.le_of_ble_eq_true rfl, Nat.le_of_ble_eq_true rfl⟩ rfl rfl dX11_refuge_22 rfl ?_
    have n22 := bI_w ((0) ≤ what ∧ what ≤ (4))
    refine g_if_eq C dX11_refuge_25 37 (by decide) rfl (by omega) (fun c25 => ?_) (fun c25 => ?_)
    · skip
      refine g_aload_n C dX11_refuge_37 rfl 0 rfl ?_
      refine g_iconst C dX11_refuge_38 rfl ?_
      refine g_callVf (As := [.int (iI (1))]) (rv := some (.int (iI (0)))) (w1 := wM E am (ad 0) sa (setI M 0 (1))) (kc' := 0) (ks' := 0) C (wS E ad S) (k_X11_no l E am (ad 0) sa (setI M 0 (0)) (1)) mX11_no iX11_no wd988 0 10 rfl rfl rfl rfl rfl (Nat.le_of_ble_eq_true rfl) ⟨Nat.le_of_ble_eq_true rfl, Nat.le_of_ble_eq_true rfl⟩ ⟨Nat.le_of_ble_eq_true rfl, Nat.le_of_ble_eq_true rfl⟩ rfl rfl rfl dX11_refuge_39 rfl ?_
      exact z_iret C Z rfl dX11_refuge_42 (by rw [show tIn (0 ≤ a ∧ a ≤ M.2 3 - 1) (0 ≤ what ∧ what ≤ 4) = (1 : Int) from by unfold tIn; repeat (first | (rw [if_pos (by omega)]) | (rw [if_neg (by omega)]) | (rw [if_pos trivial]))] <;> rfl) (by rw [show tIn (0 ≤ a ∧ a ≤ M.2 3 - 1) (0 ≤ what ∧ what ≤ 4) = (1 : Int) from by unfold tIn; repeat (first | (rw [if_pos (by omega)]) | (rw [if_neg (by omega)]) | (rw [if_pos trivial]))] <;> rfl)
    · skip
      refine g_aload_n C dX11_refuge_28 rfl 0 rfl ?_
      refine g_iload_n C dX11_refuge_29 rfl 1 rfl ?_
      refine g_iload_n C dX11_refuge_30 rfl 2 rfl ?_
      refine g_callV0 (As := [.int (iI a), .int (iI what)]) (rv := some (.int (iI (mRef S ((M.2 4)).toNat a what)))) (w1 := wM E am (ad 0) sa (setI M 0 (0)) ++ (wS E ad S)) (kc' := 0) (ks' := 0) C (k_X11_refugeTold l E am sa (setI M 0 (0)) ad S a what (okM_j0 (S := M) hM) hS (by omega) (by omega)) mX11_refugeTold iX11_refugeTold wd1074 0 10 rfl rfl rfl rfl rfl (Nat.le_of_ble_eq_true rfl) ⟨Nat.le_of_ble_eq_true rfl, Nat.le_of_ble_eq_true rfl⟩ ⟨Nat.le_of_ble_eq_true rfl, Nat.le_of_ble_eq_true rfl⟩ rfl rfl dX11_refuge_31 rfl ?_
      refine g_goto C dX11_refuge_34 42 (by decide) ?_
      exact z_iret C Z rfl dX11_refuge_42 (by rw [show tIn (0 ≤ a ∧ a ≤ M.2 3 - 1) (0 ≤ what ∧ what ≤ 4) = (0 : Int) from by unfold tIn; repeat (first | (rw [if_pos (by omega)]) | (rw [if_neg (by omega)]) | (rw [if_pos trivial]))] <;> rfl) (by rw [show tIn (0 ≤ a ∧ a ≤ M.2 3 - 1) (0 ≤ what ∧ what ≤ 4) = (0 : Int) from by unfold tIn; repeat (first | (rw [if_pos (by omega)]) | (rw [if_neg (by omega)]) | (rw [if_pos trivial]))] <;> rfl)
abbrev r_X11_household : Room := { frames := 8, cells := 0, slots := 0, locals := 186 }
set_option maxHeartbeats 4000000 in
set_option maxRecDepth 100000 in
theorem k_X11_household (l : Launch) (E : gE) (am : Nat → Nat) (sa : Nat) (M : gS) (ad : Nat → Nat) (S : gS) (a what : Int) (hM : okM M) (hS : okS S) (ha : (-2147483648 ≤ a ∧ a ≤ 2147483647)) (hwhat : (-2147483648 ≤ what ∧ what ≤ 2147483647)) : gK l E yX11_household cX11_household 3 (some .int) r_X11_household [.ref (am 0), .int (iI a), .int (iI what)] (wM E am (ad 0) sa M ++ (wS E ad S)) (some (.int (iI (if tIn (0 ≤ a ∧ a ≤ M.2 4 - 1) (0 ≤ what ∧ what ≤ 4) = 0 then mHtl (setI M 0 0) S a what else 0)))) (wM E am (ad 0) sa (if tIn (0 ≤ a ∧ a ≤ M.2 4 - 1) (0 ≤ what ∧ what ≤ 4) = 0 then mHtlM (setI M 0 0) S a what else setI M 0 (tIn (0 ≤ a ∧ a ≤ M.2 4 - 1) (0 ≤ what ∧ what ≤ 4))) ++ (wS E ad (S))) := by
  refine gK_by RX11 rfl mX11_household [(0, .ref (am 0)), (1, .int (iI a)), (2, .int (iI what))] (Nat.le_of_ble_eq_true rfl) rfl ?_
  intro zp ze zs zm za zb zh zc zA zQ C Z
  refine g_aload_n C dX11_household_0 rfl 0 rfl ?_
  refine g_iconst C dX11_household_1 rfl ?_
  refine g_put (T := TX11) (N := 13) (ci := 10) (ws' := wM E am (ad 0) sa (setI M 0 (0)) ++ (wS E ad S)) C in_X11 tyX11 tyX11_ok nmX11 0 rfl rfl 0 (by decide) wd934 (Or.inl rfl) rfl (ty := .int) (by decide +kernel) rfl rfl (Nat.le_of_ble_eq_true rfl) rfl dX11_household_2 rfl ?_
  refine g_iload_n C dX11_household_5 rfl 1 rfl ?_
  refine g_iconst C dX11_household_6 rfl ?_
  refine g_aload_n C dX11_household_7 rfl 0 rfl ?_
  refine g_get (v := .int (iI (M.2 4))) (T := TX11) (N := 13) (ci := 10) C in_X11 0 rfl rfl 5 (by decide) wd939 (Or.inl rfl) rfl dX11_household_8 rfl ?_
  have f8 := okM_i4 hM
  refine g_iconst C dX11_household_11 rfl ?_
  refine g_isub C dX11_household_12 rfl ?_
  refine g_callS1 (As := [.int (iI a), .int (iI (0)), .int (iI ((M.2 4) - (1)))]) (rv := some (.int (iI (bI ((0) ≤ a ∧ a ≤ ((M.2 4) - (1))))))) (kc' := 0) (ks' := 0) C (k_X11_isIn l E a (0) ((M.2 4) - (1)) (by omega) (by omega) (by omega)) mX11_isIn wd986 wd985 rfl rfl (Nat.le_of_ble_eq_true rfl) ⟨Nat.le_of_ble_eq_true rfl, Nat.le_of_ble_eq_true rfl⟩ ⟨Nat.le_of_ble_eq_true rfl, Nat.le_of_ble_eq_true rfl⟩ rfl rfl dX11_household_13 rfl ?_
  have n13 := bI_w ((0) ≤ a ∧ a ≤ ((M.2 4) - (1)))
  refine g_if_eq C dX11_household_16 37 (by decide) rfl (by omega) (fun c16 => ?_) (fun c16 => ?_)
  · skip
    refine g_aload_n C dX11_household_37 rfl 0 rfl ?_
    refine g_iconst C dX11_household_38 rfl ?_
    refine g_callVf (As := [.int (iI (1))]) (rv := some (.int (iI (0)))) (w1 := wM E am (ad 0) sa (setI M 0 (1))) (kc' := 0) (ks' := 0) C (wS E ad S) (k_X11_no l E am (ad 0) sa (setI M 0 (0)) (1)) mX11_no iX11_no wd988 0 10 rfl rfl rfl rfl rfl (Nat.le_of_ble_eq_true rfl) ⟨Nat.le_of_ble_eq_true rfl, Nat.le_of_ble_eq_true rfl⟩ ⟨Nat.le_of_ble_eq_true rfl, Nat.le_of_ble_eq_true rfl⟩ rfl rfl rfl dX11_household_39 rfl ?_
    exact z_iret C Z rfl dX11_household_42 (by rw [show tIn (0 ≤ a ∧ a ≤ M.2 4 - 1) (0 ≤ what ∧ what ≤ 4) = (1 : Int) from by unfold tIn; repeat (first | (rw [if_pos (by omega)]) | (rw [if_neg (by omega)]) | (rw [if_pos trivial]))] <;> rfl) (by rw [show tIn (0 ≤ a ∧ a ≤ M.2 4 - 1) (0 ≤ what ∧ what ≤ 4) = (1 : Int) from by unfold tIn; repeat (first | (rw [if_pos (by omega)]) | (rw [if_neg (by omega)]) | (rw [if_pos trivial]))] <;> rfl)
  · skip
    refine g_iload_n C dX11_household_19 rfl 2 rfl ?_
    refine g_iconst C dX11_household_20 rfl ?_
    refine g_iconst C dX11_household_21 rfl ?_
    refine g_callS1 (As := [.int (iI what), .int (iI (0)), .int (iI (4))]) (rv := some (.int (iI (bI ((0) ≤ what ∧ what ≤ (4)))))) (kc' := 0) (ks' := 0) C (k_X11_isIn l E what (0) (4) (by omega) (by omega) (by omega)) mX11_isIn wd986 wd985 rfl rfl (Nat.le_of_ble_eq_true rfl) ⟨Nat.le_of_ble_eq_true rfl, Nat.le_of_ble_eq_true rfl⟩ ⟨Nat.le_of_ble_eq_true rfl, Nat.le_of_ble_eq_true rfl⟩ rfl rfl dX11_household_22 rfl ?_
    have n22 := bI_w ((0) ≤ what ∧ what ≤ (4))
    refine g_if_eq C dX11_household_25 37 (by decide) rfl (by omega) (fun c25 => ?_) (fun c25 => ?_)
    · skip
      refine g_aload_n C dX11_household_37 rfl 0 rfl ?_
      refine g_iconst C dX11_household_38 rfl ?_
      refine g_callVf (As := [.int (iI (1))]) (rv := some (.int (iI (0)))) (w1 := wM E am (ad 0) sa (setI M 0 (1))) (kc' := 0) (ks' := 0) C (wS E ad S) (k_X11_no l E am (ad 0) sa (setI M 0 (0)) (1)) mX11_no iX11_no wd988 0 10 rfl rfl rfl rfl rfl (Nat.le_of_ble_eq_true rfl) ⟨Nat.le_of_ble_eq_true rfl, Nat.le_of_ble_eq_true rfl⟩ ⟨Nat.le_of_ble_eq_true rfl, Nat.le_of_ble_eq_true rfl⟩ rfl rfl rfl dX11_household_39 rfl ?_
      exact z_iret C Z rfl dX11_household_42 (by rw [show tIn (0 ≤ a ∧ a ≤ M.2 4 - 1) (0 ≤ what ∧ what ≤ 4) = (1 : Int) from by unfold tIn; repeat (first | (rw [if_pos (by omega)]) | (rw [if_neg (by omega)]) | (rw [if_pos trivial]))] <;> rfl) (by rw [show tIn (0 ≤ a ∧ a ≤ M.2 4 - 1) (0 ≤ what ∧ what ≤ 4) = (1 : Int) from by unfold tIn; repeat (first | (rw [if_pos (by omega)]) | (rw [if_neg (by omega)]) | (rw [if_pos trivial]))] <;> rfl)
    · skip
      refine g_aload_n C dX11_household_28 rfl 0 rfl ?_
      refine g_iload_n C dX11_household_29 rfl 1 rfl ?_
      refine g_iload_n C dX11_household_30 rfl 2 rfl ?_
      refine g_callV0 (As := [.int (iI a), .int (iI what)]) (rv := some (.int (iI (mHtl (setI M 0 (0)) S a what)))) (w1 := wM E am (ad 0) sa (mHtlM (setI M 0 (0)) S a what) ++ (wS E ad S)) (kc' := 0) (ks' := 0) C (k_X11_houseTold l E am sa (setI M 0 (0)) ad S a what (okM_j0 (S := M) hM) hS (by omega) (by omega)) mX11_houseTold iX11_houseTold wd1086 0 10 rfl rfl rfl rfl rfl (Nat.le_of_ble_eq_true rfl) ⟨Nat.le_of_ble_eq_true rfl, Nat.le_of_ble_eq_true rfl⟩ ⟨Nat.le_of_ble_eq_true rfl, Nat.le_of_ble_eq_true rfl⟩ rfl rfl dX11_household_31 rfl ?_
      refine g_goto C dX11_household_34 42 (by decide) ?_
      exact z_iret C Z rfl dX11_household_42 (by rw [show tIn (0 ≤ a ∧ a ≤ M.2 4 - 1) (0 ≤ what ∧ what ≤ 4) = (0 : Int) from by unfold tIn; repeat (first | (rw [if_pos (by omega)]) | (rw [if_neg (by omega)]) | (rw [if_pos trivial]))] <;> rfl) (by rw [show tIn (0 ≤ a ∧ a ≤ M.2 4 - 1) (0 ≤ what ∧ what ≤ 4) = (0 : Int) from by unfold tIn; repeat (first | (rw [if_pos (by omega)]) | (rw [if_neg (by omega)]) | (rw [if_pos trivial]))] <;> rfl)
abbrev r_X11_caller : Room := { frames := 1, cells := 0, slots := 0, locals := 22 }
set_option maxHeartbeats 4000000 in
set_option maxRecDepth 100000 in
theorem k_X11_caller (l : Launch) (E : gE) (am : Nat → Nat) (sa : Nat) (M : gS) (ad : Nat → Nat) (S : gS) (a what : Int) (hM : okM M) (hS : okS S) (ha : (-2147483648 ≤ a ∧ a ≤ 2147483647)) (hwhat : (-2147483648 ≤ what ∧ what ≤ 2147483647)) : gK l E yX11_caller cX11_caller 3 (some .int) r_X11_caller [.ref (am 0), .int (iI a), .int (iI what)] (wM E am (ad 0) sa M ++ (wS E ad S)) (some (.int (iI (if tIn (0 ≤ a ∧ a ≤ M.2 5 - 1) (0 ≤ what ∧ what ≤ 2) = 0 then mCtl S a what else 0)))) (wM E am (ad 0) sa (setI M 0 (tIn (0 ≤ a ∧ a ≤ M.2 5 - 1) (0 ≤ what ∧ what ≤ 2))) ++ (wS E ad (S))) := by
  refine gK_by RX11 rfl mX11_caller [(0, .ref (am 0)), (1, .int (iI a)), (2, .int (iI what))] (Nat.le_of_ble_eq_true rfl) rfl ?_
  intro zp ze zs zm za zb zh zc zA zQ C Z
  refine g_aload_n C dX11_caller_0 rfl 0 rfl ?_
  refine g_iconst C dX11_caller_1 rfl ?_
  refine g_put (T := TX11) (N := 13) (ci := 10) (ws' := wM E am (ad 0) sa (setI M 0 (0)) ++ (wS E ad S)) C in_X11 tyX11 tyX11_ok nmX11 0 rfl rfl 0 (by decide) wd934 (Or.inl rfl) rfl (ty := .int) (by decide +kernel) rfl rfl (Nat.le_of_ble_eq_true rfl) rfl dX11_caller_2 rfl ?_
  refine g_iload_n C dX11_caller_5 rfl 1 rfl ?_
  refine g_iconst C dX11_caller_6 rfl ?_
  refine g_aload_n C dX11_caller_7 rfl 0 rfl ?_
  refine g_get (v := .int (iI (M.2 5))) (T := TX11) (N := 13) (ci := 10) C in_X11 0 rfl rfl 6 (by decide) wd940 (Or.inl rfl) rfl dX11_caller_8 rfl ?_
  have f8 := okM_i5 hM
  refine g_iconst C dX11_caller_11 rfl ?_
  refine g_isub C dX11_caller_12 rfl ?_
  refine g_callS1 (As := [.int (iI a), .int (iI (0)), .int (iI ((M.2 5) - (1)))]) (rv := some (.int (iI (bI ((0) ≤ a ∧ a ≤ ((M.2 5) - (1))))))) (kc' := 0) (ks' := 0) C (k_X11_isIn l E a (0) ((M.2 5) - (1)) (by omega) (by omega) (by omega)) mX11_isIn wd986 wd985 rfl rfl (Nat.le_of_ble_eq_true rfl) ⟨Nat.le_of_ble_eq_true rfl, Nat.le_of_ble_eq_true rfl⟩ ⟨Nat.le_of_ble_eq_true rfl, Nat.le_of_ble_eq_true rfl⟩ rfl rfl dX11_caller_13 rfl ?_
  have n13 := bI_w ((0) ≤ a ∧ a ≤ ((M.2 5) - (1)))
  refine g_if_eq C dX11_caller_16 37 (by decide) rfl (by omega) (fun c16 => ?_) (fun c16 => ?_)
  · skip
    refine g_aload_n C dX11_caller_37 rfl 0 rfl ?_
    refine g_iconst C dX11_caller_38 rfl ?_
    refine g_callVf (As := [.int (iI (1))]) (rv := some (.int (iI (0)))) (w1 := wM E am (ad 0) sa (setI M 0 (1))) (kc' := 0) (ks' := 0) C (wS E ad S) (k_X11_no l E am (ad 0) sa (setI M 0 (0)) (1)) mX11_no iX11_no wd988 0 10 rfl rfl rfl rfl rfl (Nat.le_of_ble_eq_true rfl) ⟨Nat.le_of_ble_eq_true rfl, Nat.le_of_ble_eq_true rfl⟩ ⟨Nat.le_of_ble_eq_true rfl, Nat.le_of_ble_eq_true rfl⟩ rfl rfl rfl dX11_caller_39 rfl ?_
    exact z_iret C Z rfl dX11_caller_42 (by rw [show tIn (0 ≤ a ∧ a ≤ M.2 5 - 1) (0 ≤ what ∧ what ≤ 2) = (1 : Int) from by unfold tIn; repeat (first | (rw [if_pos (by omega)]) | (rw [if_neg (by omega)]) | (rw [if_pos trivial]))] <;> rfl) (by rw [show tIn (0 ≤ a ∧ a ≤ M.2 5 - 1) (0 ≤ what ∧ what ≤ 2) = (1 : Int) from by unfold tIn; repeat (first | (rw [if_pos (by omega)]) | (rw [if_neg (by omega)]) | (rw [if_pos trivial]))] <;> rfl)
  · skip
    refine g_iload_n C dX11_caller_19 rfl 2 rfl ?_
    refine g_iconst C dX11_caller_20 rfl ?_
    refine g_iconst C dX11_caller_21 rfl ?_
    refine g_callS1 (As := [.int (iI what), .int (iI (0)), .int (iI (2))]) (rv := some (.int (iI (bI ((0) ≤ what ∧ what ≤ (2)))))) (kc' := 0) (ks' := 0) C (k_X11_isIn l E what (0) (2) (by omega) (by omega) (by omega)) mX11_isIn wd986 wd985 rfl rfl (Nat.le_of_ble_eq_true rfl) ⟨Nat.le_of_ble_eq_true rfl, Nat.le_of_ble_eq_true rfl⟩ ⟨Nat.le_of_ble_eq_true rfl, Nat.le_of_ble_eq_true rfl⟩ rfl rfl dX11_caller_22 rfl ?_
    have n22 := bI_w ((0) ≤ what ∧ what ≤ (2))
    refine g_if_eq C dX11_caller_25 37 (by decide) rfl (by omega) (fun c25 => ?_) (fun c25 => ?_)
    · skip
      refine g_aload_n C dX11_caller_37 rfl 0 rfl ?_
      refine g_iconst C dX11_caller_38 rfl ?_
      refine g_callVf (As := [.int (iI (1))]) (rv := some (.int (iI (0)))) (w1 := wM E am (ad 0) sa (setI M 0 (1))) (kc' := 0) (ks' := 0) C (wS E ad S) (k_X11_no l E am (ad 0) sa (setI M 0 (0)) (1)) mX11_no iX11_no wd988 0 10 rfl rfl rfl rfl rfl (Nat.le_of_ble_eq_true rfl) ⟨Nat.le_of_ble_eq_true rfl, Nat.le_of_ble_eq_true rfl⟩ ⟨Nat.le_of_ble_eq_true rfl, Nat.le_of_ble_eq_true rfl⟩ rfl rfl rfl dX11_caller_39 rfl ?_
      exact z_iret C Z rfl dX11_caller_42 (by rw [show tIn (0 ≤ a ∧ a ≤ M.2 5 - 1) (0 ≤ what ∧ what ≤ 2) = (1 : Int) from by unfold tIn; repeat (first | (rw [if_pos (by omega)]) | (rw [if_neg (by omega)]) | (rw [if_pos trivial]))] <;> rfl) (by rw [show tIn (0 ≤ a ∧ a ≤ M.2 5 - 1) (0 ≤ what ∧ what ≤ 2) = (1 : Int) from by unfold tIn; repeat (first | (rw [if_pos (by omega)]) | (rw [if_neg (by omega)]) | (rw [if_pos trivial]))] <;> rfl)
    · skip
      refine g_aload_n C dX11_caller_28 rfl 0 rfl ?_
      refine g_iload_n C dX11_caller_29 rfl 1 rfl ?_
      refine g_iload_n C dX11_caller_30 rfl 2 rfl ?_
      refine g_callV0 (As := [.int (iI a), .int (iI what)]) (rv := some (.int (iI (mCtl S a what)))) (w1 := wM E am (ad 0) sa (setI M 0 (0)) ++ (wS E ad S)) (kc' := 0) (ks' := 0) C (k_X11_callerTold l E am sa (setI M 0 (0)) ad S a what (okM_j0 (S := M) hM) hS (by omega) (by omega)) mX11_callerTold iX11_callerTold wd1121 0 10 rfl rfl rfl rfl rfl (Nat.le_of_ble_eq_true rfl) ⟨Nat.le_of_ble_eq_true rfl, Nat.le_of_ble_eq_true rfl⟩ ⟨Nat.le_of_ble_eq_true rfl, Nat.le_of_ble_eq_true rfl⟩ rfl rfl dX11_caller_31 rfl ?_
      refine g_goto C dX11_caller_34 42 (by decide) ?_
      exact z_iret C Z rfl dX11_caller_42 (by rw [show tIn (0 ≤ a ∧ a ≤ M.2 5 - 1) (0 ≤ what ∧ what ≤ 2) = (0 : Int) from by unfold tIn; repeat (first | (rw [if_pos (by omega)]) | (rw [if_neg (by omega)]) | (rw [if_pos trivial]))] <;> rfl) (by rw [show tIn (0 ≤ a ∧ a ≤ M.2 5 - 1) (0 ≤ what ∧ what ≤ 2) = (0 : Int) from by unfold tIn; repeat (first | (rw [if_pos (by omega)]) | (rw [if_neg (by omega)]) | (rw [if_pos trivial]))] <;> rfl)
abbrev r_X11_count : Room := { frames := 3, cells := 1, slots := 10, locals := 67 }
set_option maxHeartbeats 4000000 in
set_option maxRecDepth 100000 in
theorem k_X11_count (l : Launch) (E : gE) (am : Nat → Nat) (sa : Nat) (M : gS) (ad : Nat → Nat) (S : gS) (what : Int) (hM : okM M) (hS : okS S) (hwhat : (-2147483648 ≤ what ∧ what ≤ 2147483647)) : gK l E yX11_count cX11_count 2 (some .int) r_X11_count [.ref (am 0), .int (iI what)] (wM E am (ad 0) sa M ++ (wS E ad S)) (some (.int (iI (if tIn (0 ≤ what ∧ what ≤ 9) True = 0 then mCnt (setI M 0 0) S what else 0)))) (wM E am (ad 0) sa (setI M 0 (tIn (0 ≤ what ∧ what ≤ 9) True)) ++ (wS E ad (S))) := by
  refine gK_by RX11 rfl mX11_count [(0, .ref (am 0)), (1, .int (iI what))] (Nat.le_of_ble_eq_true rfl) rfl ?_
  intro zp ze zs zm za zb zh zc zA zQ C Z
  refine g_aload_n C dX11_count_0 rfl 0 rfl ?_
  refine g_iconst C dX11_count_1 rfl ?_
  refine g_put (T := TX11) (N := 13) (ci := 10) (ws' := wM E am (ad 0) sa (setI M 0 (0)) ++ (wS E ad S)) C in_X11 tyX11 tyX11_ok nmX11 0 rfl rfl 0 (by decide) wd934 (Or.inl rfl) rfl (ty := .int) (by decide +kernel) rfl rfl (Nat.le_of_ble_eq_true rfl) rfl dX11_count_2 rfl ?_
  refine g_iload_n C dX11_count_5 rfl 1 rfl ?_
  refine g_iconst C dX11_count_6 rfl ?_
  refine g_bipush C dX11_count_7 rfl rfl ?_
  refine g_callS1 (As := [.int (iI what), .int (iI (0)), .int (iI (9))]) (rv := some (.int (iI (bI ((0) ≤ what ∧ what ≤ (9)))))) (kc' := 0) (ks' := 0) C (k_X11_isIn l E what (0) (9) (by omega) (by omega) (by omega)) mX11_isIn wd986 wd985 rfl rfl (Nat.le_of_ble_eq_true rfl) ⟨Nat.le_of_ble_eq_true rfl, Nat.le_of_ble_eq_true rfl⟩ ⟨Nat.le_of_ble_eq_true rfl, Nat.le_of_ble_eq_true rfl⟩ rfl rfl dX11_count_9 rfl ?_
  have n9 := bI_w ((0) ≤ what ∧ what ≤ (9))
  refine g_if_eq C dX11_count_12 23 (by decide) rfl (by omega) (fun c12 => ?_) (fun c12 => ?_)
  · skip
    refine g_aload_n C dX11_count_23 rfl 0 rfl ?_
    refine g_iconst C dX11_count_24 rfl ?_
    refine g_callVf (As := [.int (iI (1))]) (rv := some (.int (iI (0)))) (w1 := wM E am (ad 0) sa (setI M 0 (1))) (kc' := 0) (ks' := 0) C (wS E ad S) (k_X11_no l E am (ad 0) sa (setI M 0 (0)) (1)) mX11_no iX11_no wd988 0 10 rfl rfl rfl rfl rfl (Nat.le_of_ble_eq_true rfl) ⟨Nat.le_of_ble_eq_true rfl, Nat.le_of_ble_eq_true rfl⟩ ⟨Nat.le_of_ble_eq_true rfl, Nat.le_of_ble_eq_true rfl⟩ rfl rfl rfl dX11_count_25 rfl ?_
    refine g_widen (kc' := 1) (ks' := 10) (Nat.le_of_ble_eq_true rfl) (Nat.le_of_ble_eq_true rfl) ?_
    exact z_iret C Z rfl dX11_count_28 (by rw [show tIn (0 ≤ what ∧ what ≤ 9) True = (1 : Int) from by unfold tIn; repeat (first | (rw [if_pos (by omega)]) | (rw [if_neg (by omega)]) | (rw [if_pos trivial]))] <;> rfl) (by rw [show tIn (0 ≤ what ∧ what ≤ 9) True = (1 : Int) from by unfold tIn; repeat (first | (rw [if_pos (by omega)]) | (rw [if_neg (by omega)]) | (rw [if_pos trivial]))] <;> rfl)
  · skip
    refine g_aload_n C dX11_count_15 rfl 0 rfl ?_
    refine g_iload_n C dX11_count_16 rfl 1 rfl ?_
    refine g_callV0 (As := [.int (iI what)]) (rv := some (.int (iI (mCnt (setI M 0 (0)) S what)))) (w1 := wM E am (ad 0) sa (setI M 0 (0)) ++ (wS E ad S)) (kc' := 1) (ks' := 10) C (k_X11_counted l E am sa (setI M 0 (0)) ad S what (okM_j0 (S := M) hM) hS (by omega)) mX11_counted iX11_counted wd1129 0 10 rfl rfl rfl rfl rfl (Nat.le_of_ble_eq_true rfl) ⟨Nat.le_of_ble_eq_true rfl, Nat.le_of_ble_eq_true rfl⟩ ⟨Nat.le_of_ble_eq_true rfl, Nat.le_of_ble_eq_true rfl⟩ rfl rfl dX11_count_17 rfl ?_
    refine g_goto C dX11_count_20 28 (by decide) ?_
    exact z_iret C Z rfl dX11_count_28 (by rw [show tIn (0 ≤ what ∧ what ≤ 9) True = (0 : Int) from by unfold tIn; repeat (first | (rw [if_pos (by omega)]) | (rw [if_neg (by omega)]) | (rw [if_pos trivial]))] <;> rfl) (by rw [show tIn (0 ≤ what ∧ what ≤ 9) True = (0 : Int) from by unfold tIn; repeat (first | (rw [if_pos (by omega)]) | (rw [if_neg (by omega)]) | (rw [if_pos trivial]))] <;> rfl)
