abbrev r_X11_setGround : Room := { frames := 2, cells := 0, slots := 0, locals := 43 }
set_option maxHeartbeats 4000000 in
set_option maxRecDepth 100000 in
theorem k_X11_setGround (l : Launch) (E : gE) (am : Nat → Nat) (sa : Nat) (M : gS) (ad : Nat → Nat) (S : gS) (x y g : Int) (hM : okM M) (hS : okS S) (hx : (-2147483648 ≤ x ∧ x ≤ 2147483647)) (hy : (-2147483648 ≤ y ∧ y ≤ 2147483647)) (hg : (-2147483648 ≤ g ∧ g ≤ 2147483647)) : gK l E yX11_setGround cX11_setGround 5 (some .int) r_X11_setGround [.ref (am 0), .int (iI x), .int (iI y), .int (iI g)] (wM E am (ad 0) sa M ++ (wS E ad S)) (some (.int (iI (if tSG x y g = 0 then S.1 1 (10 * y + x) else 0)))) (wM E am (ad 0) sa (setI M 0 (tSG x y g)) ++ (wS E ad (if tSG x y g = 0 then setA S 1 (fset (S.1 1) (10 * y + x) g) else S))) := by
  refine gK_by RX11 rfl mX11_setGround [(0, .ref (am 0)), (1, .int (iI x)), (2, .int (iI y)), (3, .int (iI g))] (Nat.le_of_ble_eq_true rfl) rfl ?_
  intro zp ze zs zm za zb zh zc zA zQ C Z
  refine g_aload_n C dX11_setGround_0 rfl 0 rfl ?_
  refine g_iconst C dX11_setGround_1 rfl ?_
  refine g_put (T := TX11) (N := 13) (ci := 10) (ws' := wM E am (ad 0) sa (setI M 0 (0)) ++ (wS E ad S)) C in_X11 tyX11 tyX11_ok nmX11 0 rfl rfl 0 (by decide) wd934 (Or.inl rfl) rfl (ty := .int) (by decide +kernel) rfl rfl (Nat.le_of_ble_eq_true rfl) rfl dX11_setGround_2 rfl ?_
  refine g_iload_n C dX11_setGround_5 rfl 1 rfl ?_
  refine g_iload_n C dX11_setGround_6 rfl 2 rfl ?_
  refine g_callS1 (As := [.int (iI x), .int (iI y)]) (rv := some (.int (iI (bI ((0 ≤ x ∧ x ≤ 9) ∧ 0 ≤ y ∧ y ≤ 7))))) (kc' := 0) (ks' := 0) C (k_X11_isCell l E x y (by omega) (by omega)) mX11_isCell wd983 wd982 rfl rfl (Nat.le_of_ble_eq_true rfl) ⟨Nat.le_of_ble_eq_true rfl, Nat.le_of_ble_eq_true rfl⟩ ⟨Nat.le_of_ble_eq_true rfl, Nat.le_of_ble_eq_true rfl⟩ rfl rfl dX11_setGround_7 rfl ?_
  have n7 := bI_w ((0 ≤ x ∧ x ≤ 9) ∧ 0 ≤ y ∧ y ≤ 7)
  refine g_if_ne C dX11_setGround_10 19 (by decide) rfl (by omega) (fun c10 => ?_) (fun c10 => ?_)
  · skip
    refine g_iload_n C dX11_setGround_19 rfl 3 rfl ?_
    refine g_iconst C dX11_setGround_20 rfl ?_
    refine g_bipush C dX11_setGround_21 rfl rfl ?_
    refine g_callS1 (As := [.int (iI g), .int (iI (0)), .int (iI (9))]) (rv := some (.int (iI (bI ((0) ≤ g ∧ g ≤ (9)))))) (kc' := 0) (ks' := 0) C (k_X11_isIn l E g (0) (9) (by omega) (by omega) (by omega)) mX11_isIn wd986 wd985 rfl rfl (Nat.le_of_ble_eq_true rfl) ⟨Nat.le_of_ble_eq_true rfl, Nat.le_of_ble_eq_true rfl⟩ ⟨Nat.le_of_ble_eq_true rfl, Nat.le_of_ble_eq_true rfl⟩ rfl rfl dX11_setGround_23 rfl ?_
    have n23 := bI_w ((0) ≤ g ∧ g ≤ (9))
    refine g_if_ne C dX11_setGround_26 35 (by decide) rfl (by omega) (fun c26 => ?_) (fun c26 => ?_)
    · skip
      refine g_aload_n C dX11_setGround_35 rfl 0 rfl ?_
      refine g_get (v := .ref (ad 0)) (T := TX11) (N := 13) (ci := 10) C in_X11 0 rfl rfl 11 (by decide) wd945 (Or.inl rfl) rfl dX11_setGround_36 rfl ?_
      refine g_getN (v := .ref (ad 1)) (T := TX10) (N := 10) (ci := 9) C rfl in_X10 6 rfl rfl 2 (by decide) (by decide +kernel) rfl rfl dX11_setGround_39 rfl ?_
      refine g_bipush C dX11_setGround_42 rfl rfl ?_
      refine g_iload_n C dX11_setGround_44 rfl 2 rfl ?_
      refine g_imul C dX11_setGround_45 rfl ?_
      refine g_iload_n C dX11_setGround_46 rfl 1 rfl ?_
      refine g_iadd C dX11_setGround_47 rfl ?_
      refine g_iald (f := (S.1 1)) C dX11_setGround_48 rfl 7 rfl (by omega) (by decide) ?_
      have b48 := okS_1 hS (((10) * y) + x)
      refine g_istore (lv' := [(4, .int (iI ((S.1 1) (((10) * y) + x)))), (0, .ref (am 0)), (1, .int (iI x)), (2, .int (iI y)), (3, .int (iI g))]) C dX11_setGround_49 rfl (by decide) rfl ?_
      refine g_aload_n C dX11_setGround_51 rfl 1 rfl ?_
      refine g_get (v := .ref (ad 0)) (T := TX11) (N := 13) (ci := 10) C in_X11 0 rfl rfl 11 (by decide) wd945 (Or.inl rfl) rfl dX11_setGround_52 rfl ?_
      refine g_getN (v := .ref (ad 1)) (T := TX10) (N := 10) (ci := 9) C rfl in_X10 6 rfl rfl 2 (by decide) (by decide +kernel) rfl rfl dX11_setGround_55 rfl ?_
      refine g_bipush C dX11_setGround_58 rfl rfl ?_
      refine g_iload_n C dX11_setGround_60 rfl 3 rfl ?_
      refine g_imul C dX11_setGround_61 rfl ?_
      refine g_iload_n C dX11_setGround_62 rfl 2 rfl ?_
      refine g_iadd C dX11_setGround_63 rfl ?_
      refine g_iload_n C dX11_setGround_64 rfl 4 rfl ?_
      refine g_iast (f := (S.1 1)) (ws' := wM E am (ad 0) sa (setI M 0 (0)) ++ (wS E ad (setA S 1 (fset (S.1 1) (((10) * y) + x) g)))) C dX11_setGround_65 rfl 7 rfl (by omega) (by decide) rfl ?_
      refine g_iload C dX11_setGround_66 rfl 0 rfl ?_
      exact z_iret C Z rfl dX11_setGround_68 (by rw [show tSG x y g = (0 : Int) from by unfold tSG tC; repeat (first | (rw [if_pos (by omega)]) | (rw [if_neg (by omega)]) | (rw [if_pos trivial]))] <;> rfl) (by rw [show tSG x y g = (0 : Int) from by unfold tSG tC; repeat (first | (rw [if_pos (by omega)]) | (rw [if_neg (by omega)]) | (rw [if_pos trivial]))] <;> rfl)
    · skip
      refine g_aload_n C dX11_setGround_29 rfl 0 rfl ?_
      refine g_iconst C dX11_setGround_30 rfl ?_
      refine g_callVf (As := [.int (iI (2))]) (rv := some (.int (iI (0)))) (w1 := wM E am (ad 0) sa (setI M 0 (2))) (kc' := 0) (ks' := 0) C (wS E ad S) (k_X11_no l E am (ad 0) sa (setI M 0 (0)) (2)) mX11_no iX11_no wd988 0 10 rfl rfl rfl rfl rfl (Nat.le_of_ble_eq_true rfl) ⟨Nat.le_of_ble_eq_true rfl, Nat.le_of_ble_eq_true rfl⟩ ⟨Nat.le_of_ble_eq_true rfl, Nat.le_of_ble_eq_true rfl⟩ rfl rfl rfl dX11_setGround_31 rfl ?_
      exact z_iret C Z rfl dX11_setGround_34 (by rw [show tSG x y g = (2 : Int) from by unfold tSG tC; repeat (first | (rw [if_pos (by omega)]) | (rw [if_neg (by omega)]) | (rw [if_pos trivial]))] <;> rfl) (by rw [show tSG x y g = (2 : Int) from by unfold tSG tC; repeat (first | (rw [if_pos (by omega)]) | (rw [if_neg (by omega)]) | (rw [if_pos trivial]))] <;> rfl)
  · skip
    refine g_aload_n C dX11_setGround_13 rfl 0 rfl ?_
    refine g_iconst C dX11_setGround_14 rfl ?_
    refine g_callVf (As := [.int (iI (1))]) (rv := some (.int (iI (0)))) (w1 := wM E am (ad 0) sa (setI M 0 (1))) (kc' := 0) (ks' := 0) C (wS E ad S) (k_X11_no l E am (ad 0) sa (setI M 0 (0)) (1)) mX11_no iX11_no wd988 0 10 rfl rfl rfl rfl rfl (Nat.le_of_ble_eq_true rfl) ⟨Nat.le_of_ble_eq_true rfl, Nat.le_of_ble_eq_true rfl⟩ ⟨Nat.le_of_ble_eq_true rfl, Nat.le_of_ble_eq_true rfl⟩ rfl rfl rfl dX11_setGround_15 rfl ?_
    exact z_iret C Z rfl dX11_setGround_18 (by rw [show tSG x y g = (1 : Int) from by unfold tSG tC; repeat (first | (rw [if_pos (by omega)]) | (rw [if_neg (by omega)]) | (rw [if_pos trivial]))] <;> rfl) (by rw [show tSG x y g = (1 : Int) from by unfold tSG tC; repeat (first | (rw [if_pos (by omega)]) | (rw [if_neg (by omega)]) | (rw [if_pos trivial]))] <;> rfl)
abbrev r_X11_lay : Room := { frames := 2, cells := 0, slots := 0, locals := 43 }
set_option maxHeartbeats 4000000 in
set_option maxRecDepth 100000 in
theorem k_X11_lay (l : Launch) (E : gE) (am : Nat → Nat) (sa : Nat) (M : gS) (ad : Nat → Nat) (S : gS) (x y b : Int) (hM : okM M) (hS : okS S) (hx : (-2147483648 ≤ x ∧ x ≤ 2147483647)) (hy : (-2147483648 ≤ y ∧ y ≤ 2147483647)) (hb : (-2147483648 ≤ b ∧ b ≤ 2147483647)) : gK l E yX11_lay cX11_lay 6 (some .int) r_X11_lay [.ref (am 0), .int (iI x), .int (iI y), .int (iI b)] (wM E am (ad 0) sa M ++ (wS E ad S)) (some (.int (iI (if tLY S x y b = 0 then sumM S (10 * y + x) b else 0)))) (wM E am (ad 0) sa (setI M 0 (tLY S x y b)) ++ (wS E ad (if tLY S x y b = 0 then setA S 2 (fset (S.1 2) (10 * y + x) b) else S))) := by
  refine gK_by RX11 rfl mX11_lay [(0, .ref (am 0)), (1, .int (iI x)), (2, .int (iI y)), (3, .int (iI b))] (Nat.le_of_ble_eq_true rfl) rfl ?_
  intro zp ze zs zm za zb zh zc zA zQ C Z
  refine g_aload_n C dX11_lay_0 rfl 0 rfl ?_
  refine g_iconst C dX11_lay_1 rfl ?_
  refine g_put (T := TX11) (N := 13) (ci := 10) (ws' := wM E am (ad 0) sa (setI M 0 (0)) ++ (wS E ad S)) C in_X11 tyX11 tyX11_ok nmX11 0 rfl rfl 0 (by decide) wd934 (Or.inl rfl) rfl (ty := .int) (by decide +kernel) rfl rfl (Nat.le_of_ble_eq_true rfl) rfl dX11_lay_2 rfl ?_
  refine g_iload_n C dX11_lay_5 rfl 1 rfl ?_
  refine g_iload_n C dX11_lay_6 rfl 2 rfl ?_
  refine g_callS1 (As := [.int (iI x), .int (iI y)]) (rv := some (.int (iI (bI ((0 ≤ x ∧ x ≤ 9) ∧ 0 ≤ y ∧ y ≤ 7))))) (kc' := 0) (ks' := 0) C (k_X11_isCell l E x y (by omega) (by omega)) mX11_isCell wd983 wd982 rfl rfl (Nat.le_of_ble_eq_true rfl) ⟨Nat.le_of_ble_eq_true rfl, Nat.le_of_ble_eq_true rfl⟩ ⟨Nat.le_of_ble_eq_true rfl, Nat.le_of_ble_eq_true rfl⟩ rfl rfl dX11_lay_7 rfl ?_
  have n7 := bI_w ((0 ≤ x ∧ x ≤ 9) ∧ 0 ≤ y ∧ y ≤ 7)
  refine g_if_ne C dX11_lay_10 19 (by decide) rfl (by omega) (fun c10 => ?_) (fun c10 => ?_)
  · skip
    refine g_iload_n C dX11_lay_19 rfl 3 rfl ?_
    refine g_iconst C dX11_lay_20 rfl ?_
    refine g_iconst C dX11_lay_21 rfl ?_
    refine g_callS1 (As := [.int (iI b), .int (iI (0)), .int (iI (5))]) (rv := some (.int (iI (bI ((0) ≤ b ∧ b ≤ (5)))))) (kc' := 0) (ks' := 0) C (k_X11_isIn l E b (0) (5) (by omega) (by omega) (by omega)) mX11_isIn wd986 wd985 rfl rfl (Nat.le_of_ble_eq_true rfl) ⟨Nat.le_of_ble_eq_true rfl, Nat.le_of_ble_eq_true rfl⟩ ⟨Nat.le_of_ble_eq_true rfl, Nat.le_of_ble_eq_true rfl⟩ rfl rfl dX11_lay_22 rfl ?_
    have n22 := bI_w ((0) ≤ b ∧ b ≤ (5))
    refine g_if_ne C dX11_lay_25 34 (by decide) rfl (by omega) (fun c25 => ?_) (fun c25 => ?_)
    · skip
      refine g_bipush C dX11_lay_34 rfl rfl ?_
      refine g_iload_n C dX11_lay_36 rfl 2 rfl ?_
      refine g_imul C dX11_lay_37 rfl ?_
      refine g_iload_n C dX11_lay_38 rfl 1 rfl ?_
      refine g_iadd C dX11_lay_39 rfl ?_
      refine g_istore (lv' := [(4, .int (iI (((10) * y) + x))), (0, .ref (am 0)), (1, .int (iI x)), (2, .int (iI y)), (3, .int (iI b))]) C dX11_lay_40 rfl (by decide) rfl ?_
      refine g_aload_n C dX11_lay_42 rfl 1 rfl ?_
      refine g_get (v := .ref (ad 0)) (T := TX11) (N := 13) (ci := 10) C in_X11 0 rfl rfl 11 (by decide) wd945 (Or.inl rfl) rfl dX11_lay_43 rfl ?_
      refine g_getN (v := .ref (ad 2)) (T := TX10) (N := 10) (ci := 9) C rfl in_X10 6 rfl rfl 3 (by decide) (by decide +kernel) rfl rfl dX11_lay_46 rfl ?_
      refine g_perm (ws1 := wS E ad S ++ (wM E am (ad 0) sa (setI M 0 (0)))) pm_10 ?_
      refine g_callSf (As := [.ref (ad 2)]) (rv := some (.int (iI (sm (S.1 2) 0 80)))) (w1 := wS E ad S) (kc' := 0) (ks' := 0) C (wM E am (ad 0) sa (setI M 0 (0))) (k_X11_all l E ad S) mX11_all wd997 wd996 rfl rfl (Nat.le_of_ble_eq_true rfl) ⟨Nat.le_of_ble_eq_true rfl, Nat.le_of_ble_eq_true rfl⟩ ⟨Nat.le_of_ble_eq_true rfl, Nat.le_of_ble_eq_true rfl⟩ rfl rfl rfl dX11_lay_49 rfl ?_
      refine g_perm (ws1 := wM E am (ad 0) sa (setI M 0 (0)) ++ (wS E ad S)) pm_10 ?_
      have n49 := sm_b (o := 0) (okS_2 hS) 80
      refine g_aload_n C dX11_lay_52 rfl 1 rfl ?_
      refine g_get (v := .ref (ad 0)) (T := TX11) (N := 13) (ci := 10) C in_X11 0 rfl rfl 11 (by decide) wd945 (Or.inl rfl) rfl dX11_lay_53 rfl ?_
      refine g_getN (v := .ref (ad 2)) (T := TX10) (N := 10) (ci := 9) C rfl in_X10 6 rfl rfl 3 (by decide) (by decide +kernel) rfl rfl dX11_lay_56 rfl ?_
      refine g_iload C dX11_lay_59 rfl 0 rfl ?_
      refine g_iald (f := (S.1 2)) C dX11_lay_61 rfl 8 rfl (by omega) (by decide) ?_
      have b61 := okS_2 hS (((10) * y) + x)
      refine g_isub C dX11_lay_62 rfl ?_
      refine g_iload_n C dX11_lay_63 rfl 4 rfl ?_
      refine g_iadd C dX11_lay_64 rfl ?_
      refine g_istore (lv' := [(5, .int (iI (((sm (S.1 2) 0 80) - ((S.1 2) (((10) * y) + x))) + b))), (4, .int (iI (((10) * y) + x))), (0, .ref (am 0)), (1, .int (iI x)), (2, .int (iI y)), (3, .int (iI b))]) C dX11_lay_65 rfl (by decide) rfl ?_
      refine g_iload C dX11_lay_67 rfl 0 rfl ?_
      refine g_bipush C dX11_lay_69 rfl rfl ?_
      refine g_icmp_le C dX11_lay_71 80 (by decide) rfl (by omega) (by omega) (fun c71 => ?_) (fun c71 => ?_)
      · skip
        refine g_aload_n C dX11_lay_80 rfl 2 rfl ?_
        refine g_get (v := .ref (ad 0)) (T := TX11) (N := 13) (ci := 10) C in_X11 0 rfl rfl 11 (by decide) wd945 (Or.inl rfl) rfl dX11_lay_81 rfl ?_
        refine g_getN (v := .ref (ad 2)) (T := TX10) (N := 10) (ci := 9) C rfl in_X10 6 rfl rfl 3 (by decide) (by decide +kernel) rfl rfl dX11_lay_84 rfl ?_
        refine g_iload C dX11_lay_87 rfl 1 rfl ?_
        refine g_iload_n C dX11_lay_89 rfl 5 rfl ?_
        refine g_iast (f := (S.1 2)) (ws' := wM E am (ad 0) sa (setI M 0 (0)) ++ (wS E ad (setA S 2 (fset (S.1 2) (((10) * y) + x) b)))) C dX11_lay_90 rfl 8 rfl (by omega) (by decide) rfl ?_
        refine g_iload C dX11_lay_91 rfl 0 rfl ?_
        exact z_iret C Z rfl dX11_lay_93 (by rw [show tLY S x y b = (0 : Int) from by unfold tLY tC sumM; repeat (first | (rw [if_pos (by omega)]) | (rw [if_neg (by omega)]) | (rw [if_pos trivial]))] <;> rfl) (by rw [show tLY S x y b = (0 : Int) from by unfold tLY tC sumM; repeat (first | (rw [if_pos (by omega)]) | (rw [if_neg (by omega)]) | (rw [if_pos trivial]))] <;> rfl)
      · skip
        refine g_aload_n C dX11_lay_74 rfl 2 rfl ?_
        refine g_iconst C dX11_lay_75 rfl ?_
        refine g_callVf (As := [.int (iI (3))]) (rv := some (.int (iI (0)))) (w1 := wM E am (ad 0) sa (setI M 0 (3))) (kc' := 0) (ks' := 0) C (wS E ad S) (k_X11_no l E am (ad 0) sa (setI M 0 (0)) (3)) mX11_no iX11_no wd988 0 10 rfl rfl rfl rfl rfl (Nat.le_of_ble_eq_true rfl) ⟨Nat.le_of_ble_eq_true rfl, Nat.le_of_ble_eq_true rfl⟩ ⟨Nat.le_of_ble_eq_true rfl, Nat.le_of_ble_eq_true rfl⟩ rfl rfl rfl dX11_lay_76 rfl ?_
        exact z_iret C Z rfl dX11_lay_79 (by rw [show tLY S x y b = (3 : Int) from by unfold tLY tC sumM; repeat (first | (rw [if_pos (by omega)]) | (rw [if_neg (by omega)]) | (rw [if_pos trivial]))] <;> rfl) (by rw [show tLY S x y b = (3 : Int) from by unfold tLY tC sumM; repeat (first | (rw [if_pos (by omega)]) | (rw [if_neg (by omega)]) | (rw [if_pos trivial]))] <;> rfl)
    · skip
      refine g_aload_n C dX11_lay_28 rfl 0 rfl ?_
      refine g_iconst C dX11_lay_29 rfl ?_
      refine g_callVf (As := [.int (iI (2))]) (rv := some (.int (iI (0)))) (w1 := wM E am (ad 0) sa (setI M 0 (2))) (kc' := 0) (ks' := 0) C (wS E ad S) (k_X11_no l E am (ad 0) sa (setI M 0 (0)) (2)) mX11_no iX11_no wd988 0 10 rfl rfl rfl rfl rfl (Nat.le_of_ble_eq_true rfl) ⟨Nat.le_of_ble_eq_true rfl, Nat.le_of_ble_eq_true rfl⟩ ⟨Nat.le_of_ble_eq_true rfl, Nat.le_of_ble_eq_true rfl⟩ rfl rfl rfl dX11_lay_30 rfl ?_
      exact z_iret C Z rfl dX11_lay_33 (by rw [show tLY S x y b = (2 : Int) from by unfold tLY tC sumM; repeat (first | (rw [if_pos (by omega)]) | (rw [if_neg (by omega)]) | (rw [if_pos trivial]))] <;> rfl) (by rw [show tLY S x y b = (2 : Int) from by unfold tLY tC sumM; repeat (first | (rw [if_pos (by omega)]) | (rw [if_neg (by omega)]) | (rw [if_pos trivial]))] <;> rfl)
  · skip
    refine g_aload_n C dX11_lay_13 rfl 0 rfl ?_
    refine g_iconst C dX11_lay_14 rfl ?_
    refine g_callVf (As := [.int (iI (1))]) (rv := some (.int (iI (0)))) (w1 := wM E am (ad 0) sa (setI M 0 (1))) (kc' := 0) (ks' := 0) C (wS E ad S) (k_X11_no l E am (ad 0) sa (setI M 0 (0)) (1)) mX11_no iX11_no wd988 0 10 rfl rfl rfl rfl rfl (Nat.le_of_ble_eq_true rfl) ⟨Nat.le_of_ble_eq_true rfl, Nat.le_of_ble_eq_true rfl⟩ ⟨Nat.le_of_ble_eq_true rfl, Nat.le_of_ble_eq_true rfl⟩ rfl rfl rfl dX11_lay_15 rfl ?_
    exact z_iret C Z rfl dX11_lay_18 (by rw [show tLY S x y b = (1 : Int) from by unfold tLY tC sumM; repeat (first | (rw [if_pos (by omega)]) | (rw [if_neg (by omega)]) | (rw [if_pos trivial]))] <;> rfl) (by rw [show tLY S x y b = (1 : Int) from by unfold tLY tC sumM; repeat (first | (rw [if_pos (by omega)]) | (rw [if_neg (by omega)]) | (rw [if_pos trivial]))] <;> rfl)
abbrev r_X11_setRiver : Room := { frames := 1, cells := 0, slots := 0, locals := 22 }
set_option maxHeartbeats 4000000 in
set_option maxRecDepth 100000 in
theorem k_X11_setRiver (l : Launch) (E : gE) (am : Nat → Nat) (sa : Nat) (M : gS) (ad : Nat → Nat) (S : gS) (h v : Int) (hM : okM M) (hS : okS S) (hh : (-2147483648 ≤ h ∧ h ≤ 2147483647)) (hv : (-2147483648 ≤ v ∧ v ≤ 2147483647)) : gK l E yX11_setRiver cX11_setRiver 4 (some .int) r_X11_setRiver [.ref (am 0), .int (iI h), .int (iI v)] (wM E am (ad 0) sa M ++ (wS E ad S)) (some (.int (iI (if tSR h v = 0 then M.1 1 h else 0)))) (wM E am (ad 0) sa (if tSR h v = 0 then setI (setA M 1 (fset (M.1 1) h v)) 0 0 else setI M 0 (tSR h v)) ++ (wS E ad (S))) := by
  refine gK_by RX11 rfl mX11_setRiver [(0, .ref (am 0)), (1, .int (iI h)), (2, .int (iI v))] (Nat.le_of_ble_eq_true rfl) rfl ?_
  intro zp ze zs zm za zb zh zc zA zQ C Z
  refine g_aload_n C dX11_setRiver_0 rfl 0 rfl ?_
  refine g_iconst C dX11_setRiver_1 rfl ?_
  refine g_put (T := TX11) (N := 13) (ci := 10) (ws' := wM E am (ad 0) sa (setI M 0 (0)) ++ (wS E ad S)) C in_X11 tyX11 tyX11_ok nmX11 0 rfl rfl 0 (by decide) wd934 (Or.inl rfl) rfl (ty := .int) (by decide +kernel) rfl rfl (Nat.le_of_ble_eq_true rfl) rfl dX11_setRiver_2 rfl ?_
  refine g_iload_n C dX11_setRiver_5 rfl 1 rfl ?_
  refine g_iconst C dX11_setRiver_6 rfl ?_
  refine g_bipush C dX11_setRiver_7 rfl rfl ?_
  refine g_callS1 (As := [.int (iI h), .int (iI (0)), .int (iI (11))]) (rv := some (.int (iI (bI ((0) ≤ h ∧ h ≤ (11)))))) (kc' := 0) (ks' := 0) C (k_X11_isIn l E h (0) (11) (by omega) (by omega) (by omega)) mX11_isIn wd986 wd985 rfl rfl (Nat.le_of_ble_eq_true rfl) ⟨Nat.le_of_ble_eq_true rfl, Nat.le_of_ble_eq_true rfl⟩ ⟨Nat.le_of_ble_eq_true rfl, Nat.le_of_ble_eq_true rfl⟩ rfl rfl dX11_setRiver_9 rfl ?_
  have n9 := bI_w ((0) ≤ h ∧ h ≤ (11))
  refine g_if_ne C dX11_setRiver_12 21 (by decide) rfl (by omega) (fun c12 => ?_) (fun c12 => ?_)
  · skip
    refine g_iload_n C dX11_setRiver_21 rfl 2 rfl ?_
    refine g_iconst C dX11_setRiver_22 rfl ?_
    refine g_bipush C dX11_setRiver_23 rfl rfl ?_
    refine g_callS1 (As := [.int (iI v), .int (iI (0)), .int (iI (12))]) (rv := some (.int (iI (bI ((0) ≤ v ∧ v ≤ (12)))))) (kc' := 0) (ks' := 0) C (k_X11_isIn l E v (0) (12) (by omega) (by omega) (by omega)) mX11_isIn wd986 wd985 rfl rfl (Nat.le_of_ble_eq_true rfl) ⟨Nat.le_of_ble_eq_true rfl, Nat.le_of_ble_eq_true rfl⟩ ⟨Nat.le_of_ble_eq_true rfl, Nat.le_of_ble_eq_true rfl⟩ rfl rfl dX11_setRiver_25 rfl ?_
    have n25 := bI_w ((0) ≤ v ∧ v ≤ (12))
    refine g_if_ne C dX11_setRiver_28 37 (by decide) rfl (by omega) (fun c28 => ?_) (fun c28 => ?_)
    · skip
      refine g_aload_n C dX11_setRiver_37 rfl 0 rfl ?_
      refine g_get (v := .ref (am 1)) (T := TX11) (N := 13) (ci := 10) C in_X11 0 rfl rfl 1 (by decide) wd935 (Or.inl rfl) rfl dX11_setRiver_38 rfl ?_
      refine g_iload_n C dX11_setRiver_41 rfl 1 rfl ?_
      refine g_iald (f := (M.1 1)) C dX11_setRiver_42 rfl 1 rfl (by omega) (by decide) ?_
      have b42 := okM_1 hM h
      refine g_istore_n (lv' := [(3, .int (iI ((M.1 1) h))), (0, .ref (am 0)), (1, .int (iI h)), (2, .int (iI v))]) C dX11_setRiver_43 rfl (by decide) rfl ?_
      refine g_aload_n C dX11_setRiver_44 rfl 1 rfl ?_
      refine g_get (v := .ref (am 1)) (T := TX11) (N := 13) (ci := 10) C in_X11 0 rfl rfl 1 (by decide) wd935 (Or.inl rfl) rfl dX11_setRiver_45 rfl ?_
      refine g_iload_n C dX11_setRiver_48 rfl 2 rfl ?_
      refine g_iload_n C dX11_setRiver_49 rfl 3 rfl ?_
      refine g_iast (f := (M.1 1)) (ws' := wM E am (ad 0) sa (setI (setA M 1 (fset (M.1 1) h v)) 0 (0)) ++ (wS E ad S)) C dX11_setRiver_50 rfl 1 rfl (by omega) (by decide) rfl ?_
      refine g_iload_n C dX11_setRiver_51 rfl 0 rfl ?_
      exact z_iret C Z rfl dX11_setRiver_52 (by rw [show tSR h v = (0 : Int) from by unfold tSR; repeat (first | (rw [if_pos (by omega)]) | (rw [if_neg (by omega)]) | (rw [if_pos trivial]))] <;> rfl) (by rw [show tSR h v = (0 : Int) from by unfold tSR; repeat (first | (rw [if_pos (by omega)]) | (rw [if_neg (by omega)]) | (rw [if_pos trivial]))] <;> rfl)
    · skip
      refine g_aload_n C dX11_setRiver_31 rfl 0 rfl ?_
      refine g_iconst C dX11_setRiver_32 rfl ?_
      refine g_callVf (As := [.int (iI (2))]) (rv := some (.int (iI (0)))) (w1 := wM E am (ad 0) sa (setI M 0 (2))) (kc' := 0) (ks' := 0) C (wS E ad S) (k_X11_no l E am (ad 0) sa (setI M 0 (0)) (2)) mX11_no iX11_no wd988 0 10 rfl rfl rfl rfl rfl (Nat.le_of_ble_eq_true rfl) ⟨Nat.le_of_ble_eq_true rfl, Nat.le_of_ble_eq_true rfl⟩ ⟨Nat.le_of_ble_eq_true rfl, Nat.le_of_ble_eq_true rfl⟩ rfl rfl rfl dX11_setRiver_33 rfl ?_
      exact z_iret C Z rfl dX11_setRiver_36 (by rw [show tSR h v = (2 : Int) from by unfold tSR; repeat (first | (rw [if_pos (by omega)]) | (rw [if_neg (by omega)]) | (rw [if_pos trivial]))] <;> rfl) (by rw [show tSR h v = (2 : Int) from by unfold tSR; repeat (first | (rw [if_pos (by omega)]) | (rw [if_neg (by omega)]) | (rw [if_pos trivial]))] <;> rfl)
  · skip
    refine g_aload_n C dX11_setRiver_15 rfl 0 rfl ?_
    refine g_iconst C dX11_setRiver_16 rfl ?_
    refine g_callVf (As := [.int (iI (1))]) (rv := some (.int (iI (0)))) (w1 := wM E am (ad 0) sa (setI M 0 (1))) (kc' := 0) (ks' := 0) C (wS E ad S) (k_X11_no l E am (ad 0) sa (setI M 0 (0)) (1)) mX11_no iX11_no wd988 0 10 rfl rfl rfl rfl rfl (Nat.le_of_ble_eq_true rfl) ⟨Nat.le_of_ble_eq_true rfl, Nat.le_of_ble_eq_true rfl⟩ ⟨Nat.le_of_ble_eq_true rfl, Nat.le_of_ble_eq_true rfl⟩ rfl rfl rfl dX11_setRiver_17 rfl ?_
    exact z_iret C Z rfl dX11_setRiver_20 (by rw [show tSR h v = (1 : Int) from by unfold tSR; repeat (first | (rw [if_pos (by omega)]) | (rw [if_neg (by omega)]) | (rw [if_pos trivial]))] <;> rfl) (by rw [show tSR h v = (1 : Int) from by unfold tSR; repeat (first | (rw [if_pos (by omega)]) | (rw [if_neg (by omega)]) | (rw [if_pos trivial]))] <;> rfl)
abbrev r_X11_addPump : Room := { frames := 2, cells := 0, slots := 0, locals := 43 }
set_option maxHeartbeats 4000000 in
set_option maxRecDepth 100000 in
theorem k_X11_addPump (l : Launch) (E : gE) (am : Nat → Nat) (sa : Nat) (M : gS) (ad : Nat → Nat) (S : gS) (x y p f : Int) (hM : okM M) (hS : okS S) (hx : (-2147483648 ≤ x ∧ x ≤ 2147483647)) (hy : (-2147483648 ≤ y ∧ y ≤ 2147483647)) (hp : (-2147483648 ≤ p ∧ p ≤ 2147483647)) (hf : (-2147483648 ≤ f ∧ f ≤ 2147483647)) : gK l E yX11_addPump cX11_addPump 6 (some .int) r_X11_addPump [.ref (am 0), .int (iI x), .int (iI y), .int (iI p), .int (iI f)] (wM E am (ad 0) sa M ++ (wS E ad S)) (some (.int (iI (if tAP M S x y p f = 0 then M.2 1 + 1 - 1 else 0)))) (wM E am (ad 0) sa (if tAP M S x y p f = 0 then setI (setI M 0 0) 1 (M.2 1 + 1) else setI M 0 (tAP M S x y p f)) ++ (wS E ad (if tAP M S x y p f = 0 then sAP M S x y p f else S))) := by
  refine gK_by RX11 rfl mX11_addPump [(0, .ref (am 0)), (1, .int (iI x)), (2, .int (iI y)), (3, .int (iI p)), (4, .int (iI f))] (Nat.le_of_ble_eq_true rfl) rfl ?_
  intro zp ze zs zm za zb zh zc zA zQ C Z
  refine g_aload_n C dX11_addPump_0 rfl 0 rfl ?_
  refine g_iconst C dX11_addPump_1 rfl ?_
  refine g_put (T := TX11) (N := 13) (ci := 10) (ws' := wM E am (ad 0) sa (setI M 0 (0)) ++ (wS E ad S)) C in_X11 tyX11 tyX11_ok nmX11 0 rfl rfl 0 (by decide) wd934 (Or.inl rfl) rfl (ty := .int) (by decide +kernel) rfl rfl (Nat.le_of_ble_eq_true rfl) rfl dX11_addPump_2 rfl ?_
  refine g_iload_n C dX11_addPump_5 rfl 1 rfl ?_
  refine g_iload_n C dX11_addPump_6 rfl 2 rfl ?_
  refine g_callS1 (As := [.int (iI x), .int (iI y)]) (rv := some (.int (iI (bI ((0 ≤ x ∧ x ≤ 9) ∧ 0 ≤ y ∧ y ≤ 7))))) (kc' := 0) (ks' := 0) C (k_X11_isCell l E x y (by omega) (by omega)) mX11_isCell wd983 wd982 rfl rfl (Nat.le_of_ble_eq_true rfl) ⟨Nat.le_of_ble_eq_true rfl, Nat.le_of_ble_eq_true rfl⟩ ⟨Nat.le_of_ble_eq_true rfl, Nat.le_of_ble_eq_true rfl⟩ rfl rfl dX11_addPump_7 rfl ?_
  have n7 := bI_w ((0 ≤ x ∧ x ≤ 9) ∧ 0 ≤ y ∧ y ≤ 7)
  refine g_if_ne C dX11_addPump_10 19 (by decide) rfl (by omega) (fun c10 => ?_) (fun c10 => ?_)
  · skip
    refine g_iload_n C dX11_addPump_19 rfl 3 rfl ?_
    refine g_iconst C dX11_addPump_20 rfl ?_
    refine g_iconst C dX11_addPump_21 rfl ?_
    refine g_callS1 (As := [.int (iI p), .int (iI (1)), .int (iI (5))]) (rv := some (.int (iI (bI ((1) ≤ p ∧ p ≤ (5)))))) (kc' := 0) (ks' := 0) C (k_X11_isIn l E p (1) (5) (by omega) (by omega) (by omega)) mX11_isIn wd986 wd985 rfl rfl (Nat.le_of_ble_eq_true rfl) ⟨Nat.le_of_ble_eq_true rfl, Nat.le_of_ble_eq_true rfl⟩ ⟨Nat.le_of_ble_eq_true rfl, Nat.le_of_ble_eq_true rfl⟩ rfl rfl dX11_addPump_22 rfl ?_
    have n22 := bI_w ((1) ≤ p ∧ p ≤ (5))
    refine g_if_eq C dX11_addPump_25 39 (by decide) rfl (by omega) (fun c25 => ?_) (fun c25 => ?_)
    · skip
      refine g_aload_n C dX11_addPump_39 rfl 0 rfl ?_
      refine g_iconst C dX11_addPump_40 rfl ?_
      refine g_callVf (As := [.int (iI (2))]) (rv := some (.int (iI (0)))) (w1 := wM E am (ad 0) sa (setI M 0 (2))) (kc' := 0) (ks' := 0) C (wS E ad S) (k_X11_no l E am (ad 0) sa (setI M 0 (0)) (2)) mX11_no iX11_no wd988 0 10 rfl rfl rfl rfl rfl (Nat.le_of_ble_eq_true rfl) ⟨Nat.le_of_ble_eq_true rfl, Nat.le_of_ble_eq_true rfl⟩ ⟨Nat.le_of_ble_eq_true rfl, Nat.le_of_ble_eq_true rfl⟩ rfl rfl rfl dX11_addPump_41 rfl ?_
      exact z_iret C Z rfl dX11_addPump_44 (by rw [show tAP M S x y p f = (2 : Int) from by unfold tAP tC; repeat (first | (rw [if_pos (by omega)]) | (rw [if_neg (by omega)]) | (rw [if_pos trivial]))] <;> rfl) (by rw [show tAP M S x y p f = (2 : Int) from by unfold tAP tC; repeat (first | (rw [if_pos (by omega)]) | (rw [if_neg (by omega)]) | (rw [if_pos trivial]))] <;> rfl)
    · skip
      refine g_iload C dX11_addPump_28 rfl 4 rfl ?_
      refine g_iconst C dX11_addPump_30 rfl ?_
      refine g_bipush C dX11_addPump_31 rfl rfl ?_
      refine g_callS1 (As := [.int (iI f), .int (iI (0)), .int (iI (30))]) (rv := some (.int (iI (bI ((0) ≤ f ∧ f ≤ (30)))))) (kc' := 0) (ks' := 0) C (k_X11_isIn l E f (0) (30) (by omega) (by omega) (by omega)) mX11_isIn wd986 wd985 rfl rfl (Nat.le_of_ble_eq_true rfl) ⟨Nat.le_of_ble_eq_true rfl, Nat.le_of_ble_eq_true rfl⟩ ⟨Nat.le_of_ble_eq_true rfl, Nat.le_of_ble_eq_true rfl⟩ rfl rfl dX11_addPump_33 rfl ?_
      have n33 := bI_w ((0) ≤ f ∧ f ≤ (30))
      refine g_if_ne C dX11_addPump_36 45 (by decide) rfl (by omega) (fun c36 => ?_) (fun c36 => ?_)
      · skip
        refine g_bipush C dX11_addPump_45 rfl rfl ?_
        refine g_iload_n C dX11_addPump_47 rfl 2 rfl ?_
        refine g_imul C dX11_addPump_48 rfl ?_
        refine g_iload_n C dX11_addPump_49 rfl 1 rfl ?_
        refine g_iadd C dX11_addPump_50 rfl ?_
        refine g_istore (lv' := [(5, .int (iI (((10) * y) + x))), (0, .ref (am 0)), (1, .int (iI x)), (2, .int (iI y)), (3, .int (iI p)), (4, .int (iI f))]) C dX11_addPump_51 rfl (by decide) rfl ?_
        refine g_aload_n C dX11_addPump_53 rfl 1 rfl ?_
        refine g_get (v := .int (iI (M.2 1))) (T := TX11) (N := 13) (ci := 10) C in_X11 0 rfl rfl 2 (by decide) wd936 (Or.inl rfl) rfl dX11_addPump_54 rfl ?_
        have f54 := okM_i1 hM
        refine g_iconst C dX11_addPump_57 rfl ?_
        refine g_icmp_eq C dX11_addPump_58 82 (by decide) rfl (by omega) (by omega) (fun c58 => ?_) (fun c58 => ?_)
        · skip
          refine g_aload_n C dX11_addPump_82 rfl 1 rfl ?_
          refine g_iconst C dX11_addPump_83 rfl ?_
          refine g_callVf (As := [.int (iI (3))]) (rv := some (.int (iI (0)))) (w1 := wM E am (ad 0) sa (setI M 0 (3))) (kc' := 0) (ks' := 0) C (wS E ad S) (k_X11_no l E am (ad 0) sa (setI M 0 (0)) (3)) mX11_no iX11_no wd988 0 10 rfl rfl rfl rfl rfl (Nat.le_of_ble_eq_true rfl) ⟨Nat.le_of_ble_eq_true rfl, Nat.le_of_ble_eq_true rfl⟩ ⟨Nat.le_of_ble_eq_true rfl, Nat.le_of_ble_eq_true rfl⟩ rfl rfl rfl dX11_addPump_84 rfl ?_
          exact z_iret C Z rfl dX11_addPump_87 (by rw [show tAP M S x y p f = (3 : Int) from by unfold tAP tC; repeat (first | (rw [if_pos (by omega)]) | (rw [if_neg (by omega)]) | (rw [if_pos trivial]))] <;> rfl) (by rw [show tAP M S x y p f = (3 : Int) from by unfold tAP tC; repeat (first | (rw [if_pos (by omega)]) | (rw [if_neg (by omega)]) | (rw [if_pos trivial]))] <;> rfl)
        · skip
          refine g_aload_n C dX11_addPump_61 rfl 1 rfl ?_
          refine g_get (v := .ref (ad 0)) (T := TX11) (N := 13) (ci := 10) C in_X11 0 rfl rfl 11 (by decide) wd945 (Or.inl rfl) rfl dX11_addPump_62 rfl ?_
          refine g_getN (v := .ref (ad 4)) (T := TX10) (N := 10) (ci := 9) C rfl in_X10 6 rfl rfl 5 (by decide) (by decide +kernel) rfl rfl dX11_addPump_65 rfl ?_
          refine g_iconst C dX11_addPump_68 rfl ?_
          refine g_aload_n C dX11_addPump_69 rfl 1 rfl ?_
          refine g_get (v := .int (iI (M.2 1))) (T := TX11) (N := 13) (ci := 10) C in_X11 0 rfl rfl 2 (by decide) wd936 (Or.inl rfl) rfl dX11_addPump_70 rfl ?_
          have f70 := okM_i1 hM
          refine g_iload C dX11_addPump_73 rfl 0 rfl ?_
          rw [show ((M.2 1) : Int) = (((M.2 1)).toNat : Int) from by omega]
          refine g_perm (ws1 := wS E ad S ++ (wM E am (ad 0) sa (setI M 0 (0)))) pm_10 ?_
          refine g_callSf (As := [.ref (ad 4), .int (iI (5)), .int (iI (((M.2 1)).toNat : Int)), .int (iI (((10) * y) + x))]) (rv := some (.int (iI (fstI (fun j => (S.1 4) (5 * j)) (((10) * y) + x) ((M.2 1)).toNat)))) (w1 := wS E ad S) (kc' := 0) (ks' := 0) C (wM E am (ad 0) sa (setI M 0 (0))) (k_X11_placeOf_pump l E ad S ((M.2 1)).toNat (((10) * y) + x) hS (by omega) (by omega)) mX11_placeOf wd1008 wd1007 rfl rfl (Nat.le_of_ble_eq_true rfl) ⟨Nat.le_of_ble_eq_true rfl, Nat.le_of_ble_eq_true rfl⟩ ⟨Nat.le_of_ble_eq_true rfl, Nat.le_of_ble_eq_true rfl⟩ rfl rfl rfl dX11_addPump_75 rfl ?_
          refine g_perm (ws1 := wM E am (ad 0) sa (setI M 0 (0)) ++ (wS E ad S)) pm_10 ?_
          have n75 := fst_b (fun j => (S.1 4) (5 * j)) (((10) * y) + x) ((M.2 1)).toNat
          refine g_iconst C dX11_addPump_78 rfl ?_
          refine g_icmp_eq C dX11_addPump_79 88 (by decide) rfl (by omega) (by omega) (fun c79 => ?_) (fun c79 => ?_)
          · skip
            refine g_aload_n C dX11_addPump_88 rfl 1 rfl ?_
            refine g_get (v := .ref (ad 0)) (T := TX11) (N := 13) (ci := 10) C in_X11 0 rfl rfl 11 (by decide) wd945 (Or.inl rfl) rfl dX11_addPump_89 rfl ?_
            refine g_getN (v := .ref (ad 4)) (T := TX10) (N := 10) (ci := 9) C rfl in_X10 6 rfl rfl 5 (by decide) (by decide +kernel) rfl rfl dX11_addPump_92 rfl ?_
            refine g_iconst C dX11_addPump_95 rfl ?_
            refine g_aload_n C dX11_addPump_96 rfl 1 rfl ?_
            refine g_get (v := .int (iI (M.2 1))) (T := TX11) (N := 13) (ci := 10) C in_X11 0 rfl rfl 2 (by decide) wd936 (Or.inl rfl) rfl dX11_addPump_97 rfl ?_
            have f97 := okM_i1 hM
            refine g_imul C dX11_addPump_100 rfl ?_
            refine g_iload C dX11_addPump_101 rfl 0 rfl ?_
            refine g_iast (f := (S.1 4)) (ws' := wM E am (ad 0) sa (setI M 0 (0)) ++ (wS E ad (setA S 4 (fset (S.1 4) ((5) * (M.2 1)) (((10) * y) + x))))) C dX11_addPump_103 rfl 10 rfl (by omega) (by decide) rfl ?_
            refine g_aload_n C dX11_addPump_104 rfl 1 rfl ?_
            refine g_get (v := .ref (ad 0)) (T := TX11) (N := 13) (ci := 10) C in_X11 0 rfl rfl 11 (by decide) wd945 (Or.inl rfl) rfl dX11_addPump_105 rfl ?_
            refine g_getN (v := .ref (ad 4)) (T := TX10) (N := 10) (ci := 9) C rfl in_X10 6 rfl rfl 5 (by decide) (by decide +kernel) rfl rfl dX11_addPump_108 rfl ?_
            refine g_iconst C dX11_addPump_111 rfl ?_
            refine g_aload_n C dX11_addPump_112 rfl 1 rfl ?_
            refine g_get (v := .int (iI (M.2 1))) (T := TX11) (N := 13) (ci := 10) C in_X11 0 rfl rfl 2 (by decide) wd936 (Or.inl rfl) rfl dX11_addPump_113 rfl ?_
            have f113 := okM_i1 hM
            refine g_imul C dX11_addPump_116 rfl ?_
            refine g_iconst C dX11_addPump_117 rfl ?_
            refine g_iadd C dX11_addPump_118 rfl ?_
            refine g_iload_n C dX11_addPump_119 rfl 4 rfl ?_
            refine g_iast (f := (fset (S.1 4) ((5) * (M.2 1)) (((10) * y) + x))) (ws' := wM E am (ad 0) sa (setI M 0 (0)) ++ (wS E ad (setA S 4 (fset (fset (S.1 4) ((5) * (M.2 1)) (((10) * y) + x)) (((5) * (M.2 1)) + (1)) p)))) C dX11_addPump_120 rfl 10 rfl (by omega) (by decide) rfl ?_
            refine g_aload_n C dX11_addPump_121 rfl 1 rfl ?_
            refine g_get (v := .ref (ad 0)) (T := TX11) (N := 13) (ci := 10) C in_X11 0 rfl rfl 11 (by decide) wd945 (Or.inl rfl) rfl dX11_addPump_122 rfl ?_
            refine g_getN (v := .ref (ad 4)) (T := TX10) (N := 10) (ci := 9) C rfl in_X10 6 rfl rfl 5 (by decide) (by decide +kernel) rfl rfl dX11_addPump_125 rfl ?_
            refine g_iconst C dX11_addPump_128 rfl ?_
            refine g_aload_n C dX11_addPump_129 rfl 1 rfl ?_
            refine g_get (v := .int (iI (M.2 1))) (T := TX11) (N := 13) (ci := 10) C in_X11 0 rfl rfl 2 (by decide) wd936 (Or.inl rfl) rfl dX11_addPump_130 rfl ?_
            have f130 := okM_i1 hM
            refine g_imul C dX11_addPump_133 rfl ?_
            refine g_iconst C dX11_addPump_134 rfl ?_
            refine g_iadd C dX11_addPump_135 rfl ?_
            refine g_iload C dX11_addPump_136 rfl 5 rfl ?_
            refine g_iast (f := (fset (fset (S.1 4) ((5) * (M.2 1)) (((10) * y) + x)) (((5) * (M.2 1)) + (1)) p)) (ws' := wM E am (ad 0) sa (setI M 0 (0)) ++ (wS E ad (setA S 4 (fset (fset (fset (S.1 4) ((5) * (M.2 1)) (((10) * y) + x)) (((5) * (M.2 1)) + (1)) p) (((5) * (M.2 1)) + (2)) f)))) C dX11_addPump_138 rfl 10 rfl (by omega) (by decide) rfl ?_
            refine g_aload_n C dX11_addPump_139 rfl 1 rfl ?_
            refine g_get (v := .ref (ad 0)) (T := TX11) (N := 13) (ci := 10) C in_X11 0 rfl rfl 11 (by decide) wd945 (Or.inl rfl) rfl dX11_addPump_140 rfl ?_
            refine g_getN (v := .ref (ad 4)) (T := TX10) (N := 10) (ci := 9) C rfl in_X10 6 rfl rfl 5 (by decide) (by decide +kernel) rfl rfl dX11_addPump_143 rfl ?_
            refine g_iconst C dX11_addPump_146 rfl ?_
            refine g_aload_n C dX11_addPump_147 rfl 1 rfl ?_
            refine g_get (v := .int (iI (M.2 1))) (T := TX11) (N := 13) (ci := 10) C in_X11 0 rfl rfl 2 (by decide) wd936 (Or.inl rfl) rfl dX11_addPump_148 rfl ?_
            have f148 := okM_i1 hM
            refine g_imul C dX11_addPump_151 rfl ?_
            refine g_iconst C dX11_addPump_152 rfl ?_
            refine g_iadd C dX11_addPump_153 rfl ?_
            refine g_iconst C dX11_addPump_154 rfl ?_
            refine g_iast (f := (fset (fset (fset (S.1 4) ((5) * (M.2 1)) (((10) * y) + x)) (((5) * (M.2 1)) + (1)) p) (((5) * (M.2 1)) + (2)) f)) (ws' := wM E am (ad 0) sa (setI M 0 (0)) ++ (wS E ad (setA S 4 (fset (fset (fset (fset (S.1 4) ((5) * (M.2 1)) (((10) * y) + x)) (((5) * (M.2 1)) + (1)) p) (((5) * (M.2 1)) + (2)) f) (((5) * (M.2 1)) + (3)) (1))))) C dX11_addPump_155 rfl 10 rfl (by omega) (by decide) rfl ?_
            refine g_aload_n C dX11_addPump_156 rfl 1 rfl ?_
            refine g_dup C dX11_addPump_157 rfl rfl ?_
            refine g_get (v := .int (iI (M.2 1))) (T := TX11) (N := 13) (ci := 10) C in_X11 0 rfl rfl 2 (by decide) wd936 (Or.inl rfl) rfl dX11_addPump_158 rfl ?_
            have f158 := okM_i1 hM
            refine g_iconst C dX11_addPump_161 rfl ?_
            refine g_iadd C dX11_addPump_162 rfl ?_
            refine g_put (T := TX11) (N := 13) (ci := 10) (ws' := wM E am (ad 0) sa (setI (setI M 0 (0)) 1 ((M.2 1) + (1))) ++ (wS E ad (setA S 4 (fset (fset (fset (fset (S.1 4) ((5) * (M.2 1)) (((10) * y) + x)) (((5) * (M.2 1)) + (1)) p) (((5) * (M.2 1)) + (2)) f) (((5) * (M.2 1)) + (3)) (1))))) C in_X11 tyX11 tyX11_ok nmX11 0 rfl rfl 2 (by decide) wd936 (Or.inl rfl) rfl (ty := .int) (by decide +kernel) rfl rfl (Nat.le_of_ble_eq_true rfl) rfl dX11_addPump_163 rfl ?_
            refine g_aload_n C dX11_addPump_166 rfl 1 rfl ?_
            refine g_get (v := .int (iI ((M.2 1) + (1)))) (T := TX11) (N := 13) (ci := 10) C in_X11 0 rfl rfl 2 (by decide) wd936 (Or.inl rfl) rfl dX11_addPump_167 rfl ?_
            refine g_iconst C dX11_addPump_170 rfl ?_
            refine g_isub C dX11_addPump_171 rfl ?_
            exact z_iret C Z rfl dX11_addPump_172 (by rw [show tAP M S x y p f = (0 : Int) from by unfold tAP tC; repeat (first | (rw [if_pos (by omega)]) | (rw [if_neg (by omega)]) | (rw [if_pos trivial]))] <;> rfl) (by rw [show tAP M S x y p f = (0 : Int) from by unfold tAP tC; repeat (first | (rw [if_pos (by omega)]) | (rw [if_neg (by omega)]) | (rw [if_pos trivial]))] <;> rfl)
          · skip
            refine g_aload_n C dX11_addPump_82 rfl 1 rfl ?_
            refine g_iconst C dX11_addPump_83 rfl ?_
            refine g_callVf (As := [.int (iI (3))]) (rv := some (.int (iI (0)))) (w1 := wM E am (ad 0) sa (setI M 0 (3))) (kc' := 0) (ks' := 0) C (wS E ad S) (k_X11_no l E am (ad 0) sa (setI M 0 (0)) (3)) mX11_no iX11_no wd988 0 10 rfl rfl rfl rfl rfl (Nat.le_of_ble_eq_true rfl) ⟨Nat.le_of_ble_eq_true rfl, Nat.le_of_ble_eq_true rfl⟩ ⟨Nat.le_of_ble_eq_true rfl, Nat.le_of_ble_eq_true rfl⟩ rfl rfl rfl dX11_addPump_84 rfl ?_
            exact z_iret C Z rfl dX11_addPump_87 (by rw [show tAP M S x y p f = (3 : Int) from by unfold tAP tC; repeat (first | (rw [if_pos (by omega)]) | (rw [if_neg (by omega)]) | (rw [if_pos trivial]))] <;> rfl) (by rw [show tAP M S x y p f = (3 : Int) from by unfold tAP tC; repeat (first | (rw [if_pos (by omega)]) | (rw [if_neg (by omega)]) | (rw [if_pos trivial]))] <;> rfl)
      · skip
        refine g_aload_n C dX11_addPump_39 rfl 0 rfl ?_
        refine g_iconst C dX11_addPump_40 rfl ?_
        refine g_callVf (As := [.int (iI (2))]) (rv := some (.int (iI (0)))) (w1 := wM E am (ad 0) sa (setI M 0 (2))) (kc' := 0) (ks' := 0) C (wS E ad S) (k_X11_no l E am (ad 0) sa (setI M 0 (0)) (2)) mX11_no iX11_no wd988 0 10 rfl rfl rfl rfl rfl (Nat.le_of_ble_eq_true rfl) ⟨Nat.le_of_ble_eq_true rfl, Nat.le_of_ble_eq_true rfl⟩ ⟨Nat.le_of_ble_eq_true rfl, Nat.le_of_ble_eq_true rfl⟩ rfl rfl rfl dX11_addPump_41 rfl ?_
        exact z_iret C Z rfl dX11_addPump_44 (by rw [show tAP M S x y p f = (2 : Int) from by unfold tAP tC; repeat (first | (rw [if_pos (by omega)]) | (rw [if_neg (by omega)]) | (rw [if_pos trivial]))] <;> rfl) (by rw [show tAP M S x y p f = (2 : Int) from by unfold tAP tC; repeat (first | (rw [if_pos (by omega)]) | (rw [if_neg (by omega)]) | (rw [if_pos trivial]))] <;> rfl)
  · skip
    refine g_aload_n C dX11_addPump_13 rfl 0 rfl ?_
    refine g_iconst C dX11_addPump_14 rfl ?_
    refine g_callVf (As := [.int (iI (1))]) (rv := some (.int (iI (0)))) (w1 := wM E am (ad 0) sa (setI M 0 (1))) (kc' := 0) (ks' := 0) C (wS E ad S) (k_X11_no l E am (ad 0) sa (setI M 0 (0)) (1)) mX11_no iX11_no wd988 0 10 rfl rfl rfl rfl rfl (Nat.le_of_ble_eq_true rfl) ⟨Nat.le_of_ble_eq_true rfl, Nat.le_of_ble_eq_true rfl⟩ ⟨Nat.le_of_ble_eq_true rfl, Nat.le_of_ble_eq_true rfl⟩ rfl rfl rfl dX11_addPump_15 rfl ?_
    exact z_iret C Z rfl dX11_addPump_18 (by rw [show tAP M S x y p f = (1 : Int) from by unfold tAP tC; repeat (first | (rw [if_pos (by omega)]) | (rw [if_neg (by omega)]) | (rw [if_pos trivial]))] <;> rfl) (by rw [show tAP M S x y p f = (1 : Int) from by unfold tAP tC; repeat (first | (rw [if_pos (by omega)]) | (rw [if_neg (by omega)]) | (rw [if_pos trivial]))] <;> rfl)
abbrev r_X11_run : Room := { frames := 1, cells := 0, slots := 0, locals := 22 }
set_option maxHeartbeats 4000000 in
set_option maxRecDepth 100000 in
theorem k_X11_run (l : Launch) (E : gE) (am : Nat → Nat) (sa : Nat) (M : gS) (ad : Nat → Nat) (S : gS) (p : Int) (hM : okM M) (hS : okS S) (hp : (-2147483648 ≤ p ∧ p ≤ 2147483647)) : gK l E yX11_run cX11_run 2 (some .boolean) r_X11_run [.ref (am 0), .int (iI p)] (wM E am (ad 0) sa M ++ (wS E ad S)) (some (.int (iI (if tRN M p = 0 then bI (1 - S.1 4 (5 * p + 3) = 1) else 0)))) (wM E am (ad 0) sa (setI M 0 (tRN M p)) ++ (wS E ad (if tRN M p = 0 then sRN S p else S))) := by
  refine gK_by RX11 rfl mX11_run [(0, .ref (am 0)), (1, .int (iI p))] (Nat.le_of_ble_eq_true rfl) rfl ?_
  intro zp ze zs zm za zb zh zc zA zQ C Z
  refine g_aload_n C dX11_run_0 rfl 0 rfl ?_
  refine g_iconst C dX11_run_1 rfl ?_
  refine g_put (T := TX11) (N := 13) (ci := 10) (ws' := wM E am (ad 0) sa (setI M 0 (0)) ++ (wS E ad S)) C in_X11 tyX11 tyX11_ok nmX11 0 rfl rfl 0 (by decide) wd934 (Or.inl rfl) rfl (ty := .int) (by decide +kernel) rfl rfl (Nat.le_of_ble_eq_true rfl) rfl dX11_run_2 rfl ?_
  refine g_iload_n C dX11_run_5 rfl 1 rfl ?_
  refine g_iconst C dX11_run_6 rfl ?_
  refine g_aload_n C dX11_run_7 rfl 0 rfl ?_
  refine g_get (v := .int (iI (M.2 1))) (T := TX11) (N := 13) (ci := 10) C in_X11 0 rfl rfl 2 (by decide) wd936 (Or.inl rfl) rfl dX11_run_8 rfl ?_
  have f8 := okM_i1 hM
  refine g_iconst C dX11_run_11 rfl ?_
  refine g_isub C dX11_run_12 rfl ?_
  refine g_callS1 (As := [.int (iI p), .int (iI (0)), .int (iI ((M.2 1) - (1)))]) (rv := some (.int (iI (bI ((0) ≤ p ∧ p ≤ ((M.2 1) - (1))))))) (kc' := 0) (ks' := 0) C (k_X11_isIn l E p (0) ((M.2 1) - (1)) (by omega) (by omega) (by omega)) mX11_isIn wd986 wd985 rfl rfl (Nat.le_of_ble_eq_true rfl) ⟨Nat.le_of_ble_eq_true rfl, Nat.le_of_ble_eq_true rfl⟩ ⟨Nat.le_of_ble_eq_true rfl, Nat.le_of_ble_eq_true rfl⟩ rfl rfl dX11_run_13 rfl ?_
  have n13 := bI_w ((0) ≤ p ∧ p ≤ ((M.2 1) - (1)))
  refine g_if_ne C dX11_run_16 34 (by decide) rfl (by omega) (fun c16 => ?_) (fun c16 => ?_)
  · skip
    refine g_aload_n C dX11_run_34 rfl 0 rfl ?_
    refine g_get (v := .ref (ad 0)) (T := TX11) (N := 13) (ci := 10) C in_X11 0 rfl rfl 11 (by decide) wd945 (Or.inl rfl) rfl dX11_run_35 rfl ?_
    refine g_getN (v := .ref (ad 4)) (T := TX10) (N := 10) (ci := 9) C rfl in_X10 6 rfl rfl 5 (by decide) (by decide +kernel) rfl rfl dX11_run_38 rfl ?_
    refine g_iconst C dX11_run_41 rfl ?_
    refine g_iload_n C dX11_run_42 rfl 1 rfl ?_
    refine g_imul C dX11_run_43 rfl ?_
    refine g_iconst C dX11_run_44 rfl ?_
    refine g_iadd C dX11_run_45 rfl ?_
    refine g_iconst C dX11_run_46 rfl ?_
    refine g_aload_n C dX11_run_47 rfl 0 rfl ?_
    refine g_get (v := .ref (ad 0)) (T := TX11) (N := 13) (ci := 10) C in_X11 0 rfl rfl 11 (by decide) wd945 (Or.inl rfl) rfl dX11_run_48 rfl ?_
    refine g_getN (v := .ref (ad 4)) (T := TX10) (N := 10) (ci := 9) C rfl in_X10 6 rfl rfl 5 (by decide) (by decide +kernel) rfl rfl dX11_run_51 rfl ?_
    refine g_iconst C dX11_run_54 rfl ?_
    refine g_iload_n C dX11_run_55 rfl 1 rfl ?_
    refine g_imul C dX11_run_56 rfl ?_
    refine g_iconst C dX11_run_57 rfl ?_
    refine g_iadd C dX11_run_58 rfl ?_
    refine g_iald (f := (S.1 4)) C dX11_run_59 rfl 10 rfl (by omega) (by decide) ?_
    have b59 := okS_43 hS p
    refine g_isub C dX11_run_60 rfl ?_
    refine g_iast (f := (S.1 4)) (ws' := wM E am (ad 0) sa (setI M 0 (0)) ++ (wS E ad (setA S 4 (fset (S.1 4) (((5) * p) + (3)) ((1) - ((S.1 4) (((5) * p) + (3)))))))) C dX11_run_61 rfl 10 rfl (by omega) (by decide) rfl ?_
    refine g_aload_n C dX11_run_62 rfl 0 rfl ?_
    refine g_get (v := .ref (ad 0)) (T := TX11) (N := 13) (ci := 10) C in_X11 0 rfl rfl 11 (by decide) wd945 (Or.inl rfl) rfl dX11_run_63 rfl ?_
    refine g_getN (v := .ref (ad 4)) (T := TX10) (N := 10) (ci := 9) C rfl in_X10 6 rfl rfl 5 (by decide) (by decide +kernel) rfl rfl dX11_run_66 rfl ?_
    refine g_iconst C dX11_run_69 rfl ?_
    refine g_iload_n C dX11_run_70 rfl 1 rfl ?_
    refine g_imul C dX11_run_71 rfl ?_
    refine g_iconst C dX11_run_72 rfl ?_
    refine g_iadd C dX11_run_73 rfl ?_
    refine g_iald (f := (fset (S.1 4) (((5) * p) + (3)) ((1) - ((S.1 4) (((5) * p) + (3)))))) C dX11_run_74 rfl 10 rfl (by omega) (by decide) ?_
    have e75 : fset (S.1 4) (5 * p + 3) (1 - S.1 4 (5 * p + 3)) (5 * p + 3) = 1 - S.1 4 (5 * p + 3) := fset_same _ _ _
    refine g_iconst C dX11_run_75 rfl ?_
    refine g_icmp_ne C dX11_run_76 83 (by decide) rfl (by omega) (by omega) (fun c76 => ?_) (fun c76 => ?_)
    · skip
      refine g_iconst C dX11_run_83 rfl ?_
      exact z_iret C Z (z_nar (by omega)) dX11_run_84 (by rw [show tRN M p = (0 : Int) from by unfold tRN; repeat (first | (rw [if_pos (by omega)]) | (rw [if_neg (by omega)]) | (rw [if_pos trivial]))] <;> first | rfl | (rw [if_pos rfl]; first | (rw [bI_t (by omega)]) | (rw [bI_f (by omega)]))) (by rw [show tRN M p = (0 : Int) from by unfold tRN; repeat (first | (rw [if_pos (by omega)]) | (rw [if_neg (by omega)]) | (rw [if_pos trivial]))] <;> rfl)
    · skip
      refine g_iconst C dX11_run_79 rfl ?_
      refine g_goto C dX11_run_80 84 (by decide) ?_
      exact z_iret C Z (z_nar (by omega)) dX11_run_84 (by rw [show tRN M p = (0 : Int) from by unfold tRN; repeat (first | (rw [if_pos (by omega)]) | (rw [if_neg (by omega)]) | (rw [if_pos trivial]))] <;> first | rfl | (rw [if_pos rfl]; first | (rw [bI_t (by omega)]) | (rw [bI_f (by omega)]))) (by rw [show tRN M p = (0 : Int) from by unfold tRN; repeat (first | (rw [if_pos (by omega)]) | (rw [if_neg (by omega)]) | (rw [if_pos trivial]))] <;> rfl)
  · skip
    refine g_aload_n C dX11_run_19 rfl 0 rfl ?_
    refine g_iconst C dX11_run_20 rfl ?_
    refine g_callVf (As := [.int (iI (1))]) (rv := some (.int (iI (0)))) (w1 := wM E am (ad 0) sa (setI M 0 (1))) (kc' := 0) (ks' := 0) C (wS E ad S) (k_X11_no l E am (ad 0) sa (setI M 0 (0)) (1)) mX11_no iX11_no wd988 0 10 rfl rfl rfl rfl rfl (Nat.le_of_ble_eq_true rfl) ⟨Nat.le_of_ble_eq_true rfl, Nat.le_of_ble_eq_true rfl⟩ ⟨Nat.le_of_ble_eq_true rfl, Nat.le_of_ble_eq_true rfl⟩ rfl rfl rfl dX11_run_21 rfl ?_
    refine g_iconst C dX11_run_24 rfl ?_
    refine g_icmp_ne C dX11_run_25 32 (by decide) rfl (by omega) (by omega) (fun _ => ?_) (fun z => absurd z (by omega))
    refine g_iconst C dX11_run_32 rfl ?_
    exact z_iret C Z (z_nar (by omega)) dX11_run_33 (by rw [show tRN M p = (1 : Int) from by unfold tRN; repeat (first | (rw [if_pos (by omega)]) | (rw [if_neg (by omega)]) | (rw [if_pos trivial]))] <;> first | rfl | (rw [if_pos rfl]; first | (rw [bI_t (by omega)]) | (rw [bI_f (by omega)]))) (by rw [show tRN M p = (1 : Int) from by unfold tRN; repeat (first | (rw [if_pos (by omega)]) | (rw [if_neg (by omega)]) | (rw [if_pos trivial]))] <;> rfl)
abbrev r_X11_addGauge : Room := { frames := 2, cells := 0, slots := 0, locals := 43 }
set_option maxHeartbeats 4000000 in
set_option maxRecDepth 100000 in
theorem k_X11_addGauge (l : Launch) (E : gE) (am : Nat → Nat) (sa : Nat) (M : gS) (ad : Nat → Nat) (S : gS) (x y mk : Int) (hM : okM M) (hS : okS S) (hx : (-2147483648 ≤ x ∧ x ≤ 2147483647)) (hy : (-2147483648 ≤ y ∧ y ≤ 2147483647)) (hmk : (-2147483648 ≤ mk ∧ mk ≤ 2147483647)) : gK l E yX11_addGauge cX11_addGauge 5 (some .int) r_X11_addGauge [.ref (am 0), .int (iI x), .int (iI y), .int (iI mk)] (wM E am (ad 0) sa M ++ (wS E ad S)) (some (.int (iI (if tAG M S x y mk = 0 then M.2 2 + 1 - 1 else 0)))) (wM E am (ad 0) sa (if tAG M S x y mk = 0 then setI (setI M 0 0) 2 (M.2 2 + 1) else setI M 0 (tAG M S x y mk)) ++ (wS E ad (if tAG M S x y mk = 0 then sAG M S x y mk else S))) := by
  refine gK_by RX11 rfl mX11_addGauge [(0, .ref (am 0)), (1, .int (iI x)), (2, .int (iI y)), (3, .int (iI mk))] (Nat.le_of_ble_eq_true rfl) rfl ?_
  intro zp ze zs zm za zb zh zc zA zQ C Z
  refine g_aload_n C dX11_addGauge_0 rfl 0 rfl ?_
  refine g_iconst C dX11_addGauge_1 rfl ?_
  refine g_put (T := TX11) (N := 13) (ci := 10) (ws' := wM E am (ad 0) sa (setI M 0 (0)) ++ (wS E ad S)) C in_X11 tyX11 tyX11_ok nmX11 0 rfl rfl 0 (by decide) wd934 (Or.inl rfl) rfl (ty := .int) (by decide +kernel) rfl rfl (Nat.le_of_ble_eq_true rfl) rfl dX11_addGauge_2 rfl ?_
  refine g_iload_n C dX11_addGauge_5 rfl 1 rfl ?_
  refine g_iload_n C dX11_addGauge_6 rfl 2 rfl ?_
  refine g_callS1 (As := [.int (iI x), .int (iI y)]) (rv := some (.int (iI (bI ((0 ≤ x ∧ x ≤ 9) ∧ 0 ≤ y ∧ y ≤ 7))))) (kc' := 0) (ks' := 0) C (k_X11_isCell l E x y (by omega) (by omega)) mX11_isCell wd983 wd982 rfl rfl (Nat.le_of_ble_eq_true rfl) ⟨Nat.le_of_ble_eq_true rfl, Nat.le_of_ble_eq_true rfl⟩ ⟨Nat.le_of_ble_eq_true rfl, Nat.le_of_ble_eq_true rfl⟩ rfl rfl dX11_addGauge_7 rfl ?_
  have n7 := bI_w ((0 ≤ x ∧ x ≤ 9) ∧ 0 ≤ y ∧ y ≤ 7)
  refine g_if_ne C dX11_addGauge_10 19 (by decide) rfl (by omega) (fun c10 => ?_) (fun c10 => ?_)
  · skip
    refine g_iload_n C dX11_addGauge_19 rfl 3 rfl ?_
    refine g_iconst C dX11_addGauge_20 rfl ?_
    refine g_bipush C dX11_addGauge_21 rfl rfl ?_
    refine g_callS1 (As := [.int (iI mk), .int (iI (1)), .int (iI (20))]) (rv := some (.int (iI (bI ((1) ≤ mk ∧ mk ≤ (20)))))) (kc' := 0) (ks' := 0) C (k_X11_isIn l E mk (1) (20) (by omega) (by omega) (by omega)) mX11_isIn wd986 wd985 rfl rfl (Nat.le_of_ble_eq_true rfl) ⟨Nat.le_of_ble_eq_true rfl, Nat.le_of_ble_eq_true rfl⟩ ⟨Nat.le_of_ble_eq_true rfl, Nat.le_of_ble_eq_true rfl⟩ rfl rfl dX11_addGauge_23 rfl ?_
    have n23 := bI_w ((1) ≤ mk ∧ mk ≤ (20))
    refine g_if_ne C dX11_addGauge_26 35 (by decide) rfl (by omega) (fun c26 => ?_) (fun c26 => ?_)
    · skip
      refine g_bipush C dX11_addGauge_35 rfl rfl ?_
      refine g_iload_n C dX11_addGauge_37 rfl 2 rfl ?_
      refine g_imul C dX11_addGauge_38 rfl ?_
      refine g_iload_n C dX11_addGauge_39 rfl 1 rfl ?_
      refine g_iadd C dX11_addGauge_40 rfl ?_
      refine g_istore (lv' := [(4, .int (iI (((10) * y) + x))), (0, .ref (am 0)), (1, .int (iI x)), (2, .int (iI y)), (3, .int (iI mk))]) C dX11_addGauge_41 rfl (by decide) rfl ?_
      refine g_aload_n C dX11_addGauge_43 rfl 1 rfl ?_
      refine g_get (v := .int (iI (M.2 2))) (T := TX11) (N := 13) (ci := 10) C in_X11 0 rfl rfl 3 (by decide) wd937 (Or.inl rfl) rfl dX11_addGauge_44 rfl ?_
      have f44 := okM_i2 hM
      refine g_iconst C dX11_addGauge_47 rfl ?_
      refine g_icmp_eq C dX11_addGauge_48 72 (by decide) rfl (by omega) (by omega) (fun c48 => ?_) (fun c48 => ?_)
      · skip
        refine g_aload_n C dX11_addGauge_72 rfl 1 rfl ?_
        refine g_iconst C dX11_addGauge_73 rfl ?_
        refine g_callVf (As := [.int (iI (3))]) (rv := some (.int (iI (0)))) (w1 := wM E am (ad 0) sa (setI M 0 (3))) (kc' := 0) (ks' := 0) C (wS E ad S) (k_X11_no l E am (ad 0) sa (setI M 0 (0)) (3)) mX11_no iX11_no wd988 0 10 rfl rfl rfl rfl rfl (Nat.le_of_ble_eq_true rfl) ⟨Nat.le_of_ble_eq_true rfl, Nat.le_of_ble_eq_true rfl⟩ ⟨Nat.le_of_ble_eq_true rfl, Nat.le_of_ble_eq_true rfl⟩ rfl rfl rfl dX11_addGauge_74 rfl ?_
        exact z_iret C Z rfl dX11_addGauge_77 (by rw [show tAG M S x y mk = (3 : Int) from by unfold tAG tC; repeat (first | (rw [if_pos (by omega)]) | (rw [if_neg (by omega)]) | (rw [if_pos trivial]))] <;> rfl) (by rw [show tAG M S x y mk = (3 : Int) from by unfold tAG tC; repeat (first | (rw [if_pos (by omega)]) | (rw [if_neg (by omega)]) | (rw [if_pos trivial]))] <;> rfl)
      · skip
        refine g_aload_n C dX11_addGauge_51 rfl 1 rfl ?_
        refine g_get (v := .ref (ad 0)) (T := TX11) (N := 13) (ci := 10) C in_X11 0 rfl rfl 11 (by decide) wd945 (Or.inl rfl) rfl dX11_addGauge_52 rfl ?_
        refine g_getN (v := .ref (ad 5)) (T := TX10) (N := 10) (ci := 9) C rfl in_X10 6 rfl rfl 6 (by decide) (by decide +kernel) rfl rfl dX11_addGauge_55 rfl ?_
        refine g_iconst C dX11_addGauge_58 rfl ?_
        refine g_aload_n C dX11_addGauge_59 rfl 1 rfl ?_
        refine g_get (v := .int (iI (M.2 2))) (T := TX11) (N := 13) (ci := 10) C in_X11 0 rfl rfl 3 (by decide) wd937 (Or.inl rfl) rfl dX11_addGauge_60 rfl ?_
        have f60 := okM_i2 hM
        refine g_iload C dX11_addGauge_63 rfl 0 rfl ?_
        rw [show ((M.2 2) : Int) = (((M.2 2)).toNat : Int) from by omega]
        refine g_perm (ws1 := wS E ad S ++ (wM E am (ad 0) sa (setI M 0 (0)))) pm_10 ?_
        refine g_callSf (As := [.ref (ad 5), .int (iI (2)), .int (iI (((M.2 2)).toNat : Int)), .int (iI (((10) * y) + x))]) (rv := some (.int (iI (fstI (fun j => (S.1 5) (2 * j)) (((10) * y) + x) ((M.2 2)).toNat)))) (w1 := wS E ad S) (kc' := 0) (ks' := 0) C (wM E am (ad 0) sa (setI M 0 (0))) (k_X11_placeOf_gauge l E ad S ((M.2 2)).toNat (((10) * y) + x) hS (by omega) (by omega)) mX11_placeOf wd1008 wd1007 rfl rfl (Nat.le_of_ble_eq_true rfl) ⟨Nat.le_of_ble_eq_true rfl, Nat.le_of_ble_eq_true rfl⟩ ⟨Nat.le_of_ble_eq_true rfl, Nat.le_of_ble_eq_true rfl⟩ rfl rfl rfl dX11_addGauge_65 rfl ?_
        refine g_perm (ws1 := wM E am (ad 0) sa (setI M 0 (0)) ++ (wS E ad S)) pm_10 ?_
        have n65 := fst_b (fun j => (S.1 5) (2 * j)) (((10) * y) + x) ((M.2 2)).toNat
        refine g_iconst C dX11_addGauge_68 rfl ?_
        refine g_icmp_eq C dX11_addGauge_69 78 (by decide) rfl (by omega) (by omega) (fun c69 => ?_) (fun c69 => ?_)
        · skip
          refine g_aload_n C dX11_addGauge_78 rfl 1 rfl ?_
          refine g_get (v := .ref (ad 0)) (T := TX11) (N := 13) (ci := 10) C in_X11 0 rfl rfl 11 (by decide) wd945 (Or.inl rfl) rfl dX11_addGauge_79 rfl ?_
          refine g_getN (v := .ref (ad 5)) (T := TX10) (N := 10) (ci := 9) C rfl in_X10 6 rfl rfl 6 (by decide) (by decide +kernel) rfl rfl dX11_addGauge_82 rfl ?_
          refine g_iconst C dX11_addGauge_85 rfl ?_
          refine g_aload_n C dX11_addGauge_86 rfl 1 rfl ?_
          refine g_get (v := .int (iI (M.2 2))) (T := TX11) (N := 13) (ci := 10) C in_X11 0 rfl rfl 3 (by decide) wd937 (Or.inl rfl) rfl dX11_addGauge_87 rfl ?_
          have f87 := okM_i2 hM
          refine g_imul C dX11_addGauge_90 rfl ?_
          refine g_iload C dX11_addGauge_91 rfl 0 rfl ?_
          refine g_iast (f := (S.1 5)) (ws' := wM E am (ad 0) sa (setI M 0 (0)) ++ (wS E ad (setA S 5 (fset (S.1 5) ((2) * (M.2 2)) (((10) * y) + x))))) C dX11_addGauge_93 rfl 11 rfl (by omega) (by decide) rfl ?_
          refine g_aload_n C dX11_addGauge_94 rfl 1 rfl ?_
          refine g_get (v := .ref (ad 0)) (T := TX11) (N := 13) (ci := 10) C in_X11 0 rfl rfl 11 (by decide) wd945 (Or.inl rfl) rfl dX11_addGauge_95 rfl ?_
          refine g_getN (v := .ref (ad 5)) (T := TX10) (N := 10) (ci := 9) C rfl in_X10 6 rfl rfl 6 (by decide) (by decide +kernel) rfl rfl dX11_addGauge_98 rfl ?_
          refine g_iconst C dX11_addGauge_101 rfl ?_
          refine g_aload_n C dX11_addGauge_102 rfl 1 rfl ?_
          refine g_get (v := .int (iI (M.2 2))) (T := TX11) (N := 13) (ci := 10) C in_X11 0 rfl rfl 3 (by decide) wd937 (Or.inl rfl) rfl dX11_addGauge_103 rfl ?_
          have f103 := okM_i2 hM
          refine g_imul C dX11_addGauge_106 rfl ?_
          refine g_iconst C dX11_addGauge_107 rfl ?_
          refine g_iadd C dX11_addGauge_108 rfl ?_
          refine g_iload_n C dX11_addGauge_109 rfl 4 rfl ?_
          refine g_iast (f := (fset (S.1 5) ((2) * (M.2 2)) (((10) * y) + x))) (ws' := wM E am (ad 0) sa (setI M 0 (0)) ++ (wS E ad (setA S 5 (fset (fset (S.1 5) ((2) * (M.2 2)) (((10) * y) + x)) (((2) * (M.2 2)) + (1)) mk)))) C dX11_addGauge_110 rfl 11 rfl (by omega) (by decide) rfl ?_
          refine g_aload_n C dX11_addGauge_111 rfl 1 rfl ?_
          refine g_dup C dX11_addGauge_112 rfl rfl ?_
          refine g_get (v := .int (iI (M.2 2))) (T := TX11) (N := 13) (ci := 10) C in_X11 0 rfl rfl 3 (by decide) wd937 (Or.inl rfl) rfl dX11_addGauge_113 rfl ?_
          have f113 := okM_i2 hM
          refine g_iconst C dX11_addGauge_116 rfl ?_
          refine g_iadd C dX11_addGauge_117 rfl ?_
          refine g_put (T := TX11) (N := 13) (ci := 10) (ws' := wM E am (ad 0) sa (setI (setI M 0 (0)) 2 ((M.2 2) + (1))) ++ (wS E ad (setA S 5 (fset (fset (S.1 5) ((2) * (M.2 2)) (((10) * y) + x)) (((2) * (M.2 2)) + (1)) mk)))) C in_X11 tyX11 tyX11_ok nmX11 0 rfl rfl 3 (by decide) wd937 (Or.inl rfl) rfl (ty := .int) (by decide +kernel) rfl rfl (Nat.le_of_ble_eq_true rfl) rfl dX11_addGauge_118 rfl ?_
          refine g_aload_n C dX11_addGauge_121 rfl 1 rfl ?_
          refine g_get (v := .int (iI ((M.2 2) + (1)))) (T := TX11) (N := 13) (ci := 10) C in_X11 0 rfl rfl 3 (by decide) wd937 (Or.inl rfl) rfl dX11_addGauge_122 rfl ?_
          refine g_iconst C dX11_addGauge_125 rfl ?_
          refine g_isub C dX11_addGauge_126 rfl ?_
          exact z_iret C Z rfl dX11_addGauge_127 (by rw [show tAG M S x y mk = (0 : Int) from by unfold tAG tC; repeat (first | (rw [if_pos (by omega)]) | (rw [if_neg (by omega)]) | (rw [if_pos trivial]))] <;> rfl) (by rw [show tAG M S x y mk = (0 : Int) from by unfold tAG tC; repeat (first | (rw [if_pos (by omega)]) | (rw [if_neg (by omega)]) | (rw [if_pos trivial]))] <;> rfl)
        · skip
          refine g_aload_n C dX11_addGauge_72 rfl 1 rfl ?_
          refine g_iconst C dX11_addGauge_73 rfl ?_
          refine g_callVf (As := [.int (iI (3))]) (rv := some (.int (iI (0)))) (w1 := wM E am (ad 0) sa (setI M 0 (3))) (kc' := 0) (ks' := 0) C (wS E ad S) (k_X11_no l E am (ad 0) sa (setI M 0 (0)) (3)) mX11_no iX11_no wd988 0 10 rfl rfl rfl rfl rfl (Nat.le_of_ble_eq_true rfl) ⟨Nat.le_of_ble_eq_true rfl, Nat.le_of_ble_eq_true rfl⟩ ⟨Nat.le_of_ble_eq_true rfl, Nat.le_of_ble_eq_true rfl⟩ rfl rfl rfl dX11_addGauge_74 rfl ?_
          exact z_iret C Z rfl dX11_addGauge_77 (by rw [show tAG M S x y mk = (3 : Int) from by unfold tAG tC; repeat (first | (rw [if_pos (by omega)]) | (rw [if_neg (by omega)]) | (rw [if_pos trivial]))] <;> rfl) (by rw [show tAG M S x y mk = (3 : Int) from by unfold tAG tC; repeat (first | (rw [if_pos (by omega)]) | (rw [if_neg (by omega)]) | (rw [if_pos trivial]))] <;> rfl)
    · skip
      refine g_aload_n C dX11_addGauge_29 rfl 0 rfl ?_
      refine g_iconst C dX11_addGauge_30 rfl ?_
      refine g_callVf (As := [.int (iI (2))]) (rv := some (.int (iI (0)))) (w1 := wM E am (ad 0) sa (setI M 0 (2))) (kc' := 0) (ks' := 0) C (wS E ad S) (k_X11_no l E am (ad 0) sa (setI M 0 (0)) (2)) mX11_no iX11_no wd988 0 10 rfl rfl rfl rfl rfl (Nat.le_of_ble_eq_true rfl) ⟨Nat.le_of_ble_eq_true rfl, Nat.le_of_ble_eq_true rfl⟩ ⟨Nat.le_of_ble_eq_true rfl, Nat.le_of_ble_eq_true rfl⟩ rfl rfl rfl dX11_addGauge_31 rfl ?_
      exact z_iret C Z rfl dX11_addGauge_34 (by rw [show tAG M S x y mk = (2 : Int) from by unfold tAG tC; repeat (first | (rw [if_pos (by omega)]) | (rw [if_neg (by omega)]) | (rw [if_pos trivial]))] <;> rfl) (by rw [show tAG M S x y mk = (2 : Int) from by unfold tAG tC; repeat (first | (rw [if_pos (by omega)]) | (rw [if_neg (by omega)]) | (rw [if_pos trivial]))] <;> rfl)
  · skip
    refine g_aload_n C dX11_addGauge_13 rfl 0 rfl ?_
    refine g_iconst C dX11_addGauge_14 rfl ?_
    refine g_callVf (As := [.int (iI (1))]) (rv := some (.int (iI (0)))) (w1 := wM E am (ad 0) sa (setI M 0 (1))) (kc' := 0) (ks' := 0) C (wS E ad S) (k_X11_no l E am (ad 0) sa (setI M 0 (0)) (1)) mX11_no iX11_no wd988 0 10 rfl rfl rfl rfl rfl (Nat.le_of_ble_eq_true rfl) ⟨Nat.le_of_ble_eq_true rfl, Nat.le_of_ble_eq_true rfl⟩ ⟨Nat.le_of_ble_eq_true rfl, Nat.le_of_ble_eq_true rfl⟩ rfl rfl rfl dX11_addGauge_15 rfl ?_
    exact z_iret C Z rfl dX11_addGauge_18 (by rw [show tAG M S x y mk = (1 : Int) from by unfold tAG tC; repeat (first | (rw [if_pos (by omega)]) | (rw [if_neg (by omega)]) | (rw [if_pos trivial]))] <;> rfl) (by rw [show tAG M S x y mk = (1 : Int) from by unfold tAG tC; repeat (first | (rw [if_pos (by omega)]) | (rw [if_neg (by omega)]) | (rw [if_pos trivial]))] <;> rfl)
abbrev r_X11_addRefuge : Room := { frames := 2, cells := 0, slots := 0, locals := 43 }
set_option maxHeartbeats 4000000 in
set_option maxRecDepth 100000 in
theorem k_X11_addRefuge (l : Launch) (E : gE) (am : Nat → Nat) (sa : Nat) (M : gS) (ad : Nat → Nat) (S : gS) (x y rm : Int) (hM : okM M) (hS : okS S) (hx : (-2147483648 ≤ x ∧ x ≤ 2147483647)) (hy : (-2147483648 ≤ y ∧ y ≤ 2147483647)) (hrm : (-2147483648 ≤ rm ∧ rm ≤ 2147483647)) : gK l E yX11_addRefuge cX11_addRefuge 5 (some .int) r_X11_addRefuge [.ref (am 0), .int (iI x), .int (iI y), .int (iI rm)] (wM E am (ad 0) sa M ++ (wS E ad S)) (some (.int (iI (if tAR M S x y rm = 0 then M.2 3 + 1 - 1 else 0)))) (wM E am (ad 0) sa (if tAR M S x y rm = 0 then setI (setI M 0 0) 3 (M.2 3 + 1) else setI M 0 (tAR M S x y rm)) ++ (wS E ad (if tAR M S x y rm = 0 then sAR M S x y rm else S))) := by
  refine gK_by RX11 rfl mX11_addRefuge [(0, .ref (am 0)), (1, .int (iI x)), (2, .int (iI y)), (3, .int (iI rm))] (Nat.le_of_ble_eq_true rfl) rfl ?_
  intro zp ze zs zm za zb zh zc zA zQ C Z
  refine g_aload_n C dX11_addRefuge_0 rfl 0 rfl ?_
  refine g_iconst C dX11_addRefuge_1 rfl ?_
  refine g_put (T := TX11) (N := 13) (ci := 10) (ws' := wM E am (ad 0) sa (setI M 0 (0)) ++ (wS E ad S)) C in_X11 tyX11 tyX11_ok nmX11 0 rfl rfl 0 (by decide) wd934 (Or.inl rfl) rfl (ty := .int) (by decide +kernel) rfl rfl (Nat.le_of_ble_eq_true rfl) rfl dX11_addRefuge_2 rfl ?_
  refine g_iload_n C dX11_addRefuge_5 rfl 1 rfl ?_
  refine g_iload_n C dX11_addRefuge_6 rfl 2 rfl ?_
  refine g_callS1 (As := [.int (iI x), .int (iI y)]) (rv := some (.int (iI (bI ((0 ≤ x ∧ x ≤ 9) ∧ 0 ≤ y ∧ y ≤ 7))))) (kc' := 0) (ks' := 0) C (k_X11_isCell l E x y (by omega) (by omega)) mX11_isCell wd983 wd982 rfl rfl (Nat.le_of_ble_eq_true rfl) ⟨Nat.le_of_ble_eq_true rfl, Nat.le_of_ble_eq_true rfl⟩ ⟨Nat.le_of_ble_eq_true rfl, Nat.le_of_ble_eq_true rfl⟩ rfl rfl dX11_addRefuge_7 rfl ?_
  have n7 := bI_w ((0 ≤ x ∧ x ≤ 9) ∧ 0 ≤ y ∧ y ≤ 7)
  refine g_if_ne C dX11_addRefuge_10 19 (by decide) rfl (by omega) (fun c10 => ?_) (fun c10 => ?_)
  · skip
    refine g_iload_n C dX11_addRefuge_19 rfl 3 rfl ?_
    refine g_iconst C dX11_addRefuge_20 rfl ?_
    refine g_bipush C dX11_addRefuge_21 rfl rfl ?_
    refine g_callS1 (As := [.int (iI rm), .int (iI (1)), .int (iI (20))]) (rv := some (.int (iI (bI ((1) ≤ rm ∧ rm ≤ (20)))))) (kc' := 0) (ks' := 0) C (k_X11_isIn l E rm (1) (20) (by omega) (by omega) (by omega)) mX11_isIn wd986 wd985 rfl rfl (Nat.le_of_ble_eq_true rfl) ⟨Nat.le_of_ble_eq_true rfl, Nat.le_of_ble_eq_true rfl⟩ ⟨Nat.le_of_ble_eq_true rfl, Nat.le_of_ble_eq_true rfl⟩ rfl rfl dX11_addRefuge_23 rfl ?_
    have n23 := bI_w ((1) ≤ rm ∧ rm ≤ (20))
    refine g_if_ne C dX11_addRefuge_26 35 (by decide) rfl (by omega) (fun c26 => ?_) (fun c26 => ?_)
    · skip
      refine g_bipush C dX11_addRefuge_35 rfl rfl ?_
      refine g_iload_n C dX11_addRefuge_37 rfl 2 rfl ?_
      refine g_imul C dX11_addRefuge_38 rfl ?_
      refine g_iload_n C dX11_addRefuge_39 rfl 1 rfl ?_
      refine g_iadd C dX11_addRefuge_40 rfl ?_
      refine g_istore (lv' := [(4, .int (iI (((10) * y) + x))), (0, .ref (am 0)), (1, .int (iI x)), (2, .int (iI y)), (3, .int (iI rm))]) C dX11_addRefuge_41 rfl (by decide) rfl ?_
      refine g_aload_n C dX11_addRefuge_43 rfl 1 rfl ?_
      refine g_get (v := .int (iI (M.2 3))) (T := TX11) (N := 13) (ci := 10) C in_X11 0 rfl rfl 4 (by decide) wd938 (Or.inl rfl) rfl dX11_addRefuge_44 rfl ?_
      have f44 := okM_i3 hM
      refine g_iconst C dX11_addRefuge_47 rfl ?_
      refine g_icmp_eq C dX11_addRefuge_48 72 (by decide) rfl (by omega) (by omega) (fun c48 => ?_) (fun c48 => ?_)
      · skip
        refine g_aload_n C dX11_addRefuge_72 rfl 1 rfl ?_
        refine g_iconst C dX11_addRefuge_73 rfl ?_
        refine g_callVf (As := [.int (iI (3))]) (rv := some (.int (iI (0)))) (w1 := wM E am (ad 0) sa (setI M 0 (3))) (kc' := 0) (ks' := 0) C (wS E ad S) (k_X11_no l E am (ad 0) sa (setI M 0 (0)) (3)) mX11_no iX11_no wd988 0 10 rfl rfl rfl rfl rfl (Nat.le_of_ble_eq_true rfl) ⟨Nat.le_of_ble_eq_true rfl, Nat.le_of_ble_eq_true rfl⟩ ⟨Nat.le_of_ble_eq_true rfl, Nat.le_of_ble_eq_true rfl⟩ rfl rfl rfl dX11_addRefuge_74 rfl ?_
        exact z_iret C Z rfl dX11_addRefuge_77 (by rw [show tAR M S x y rm = (3 : Int) from by unfold tAR tC; repeat (first | (rw [if_pos (by omega)]) | (rw [if_neg (by omega)]) | (rw [if_pos trivial]))] <;> rfl) (by rw [show tAR M S x y rm = (3 : Int) from by unfold tAR tC; repeat (first | (rw [if_pos (by omega)]) | (rw [if_neg (by omega)]) | (rw [if_pos trivial]))] <;> rfl)
      · skip
        refine g_aload_n C dX11_addRefuge_51 rfl 1 rfl ?_
        refine g_get (v := .ref (ad 0)) (T := TX11) (N := 13) (ci := 10) C in_X11 0 rfl rfl 11 (by decide) wd945 (Or.inl rfl) rfl dX11_addRefuge_52 rfl ?_
        refine g_getN (v := .ref (ad 6)) (T := TX10) (N := 10) (ci := 9) C rfl in_X10 6 rfl rfl 7 (by decide) (by decide +kernel) rfl rfl dX11_addRefuge_55 rfl ?_
        refine g_iconst C dX11_addRefuge_58 rfl ?_
        refine g_aload_n C dX11_addRefuge_59 rfl 1 rfl ?_
        refine g_get (v := .int (iI (M.2 3))) (T := TX11) (N := 13) (ci := 10) C in_X11 0 rfl rfl 4 (by decide) wd938 (Or.inl rfl) rfl dX11_addRefuge_60 rfl ?_
        have f60 := okM_i3 hM
        refine g_iload C dX11_addRefuge_63 rfl 0 rfl ?_
        rw [show ((M.2 3) : Int) = (((M.2 3)).toNat : Int) from by omega]
        refine g_perm (ws1 := wS E ad S ++ (wM E am (ad 0) sa (setI M 0 (0)))) pm_10 ?_
        refine g_callSf (As := [.ref (ad 6), .int (iI (2)), .int (iI (((M.2 3)).toNat : Int)), .int (iI (((10) * y) + x))]) (rv := some (.int (iI (fstI (fun j => (S.1 6) (2 * j)) (((10) * y) + x) ((M.2 3)).toNat)))) (w1 := wS E ad S) (kc' := 0) (ks' := 0) C (wM E am (ad 0) sa (setI M 0 (0))) (k_X11_placeOf_refuge l E ad S ((M.2 3)).toNat (((10) * y) + x) hS (by omega) (by omega)) mX11_placeOf wd1008 wd1007 rfl rfl (Nat.le_of_ble_eq_true rfl) ⟨Nat.le_of_ble_eq_true rfl, Nat.le_of_ble_eq_true rfl⟩ ⟨Nat.le_of_ble_eq_true rfl, Nat.le_of_ble_eq_true rfl⟩ rfl rfl rfl dX11_addRefuge_65 rfl ?_
        refine g_perm (ws1 := wM E am (ad 0) sa (setI M 0 (0)) ++ (wS E ad S)) pm_10 ?_
        have n65 := fst_b (fun j => (S.1 6) (2 * j)) (((10) * y) + x) ((M.2 3)).toNat
        refine g_iconst C dX11_addRefuge_68 rfl ?_
        refine g_icmp_eq C dX11_addRefuge_69 78 (by decide) rfl (by omega) (by omega) (fun c69 => ?_) (fun c69 => ?_)
        · skip
          refine g_aload_n C dX11_addRefuge_78 rfl 1 rfl ?_
          refine g_get (v := .ref (ad 0)) (T := TX11) (N := 13) (ci := 10) C in_X11 0 rfl rfl 11 (by decide) wd945 (Or.inl rfl) rfl dX11_addRefuge_79 rfl ?_
          refine g_getN (v := .ref (ad 6)) (T := TX10) (N := 10) (ci := 9) C rfl in_X10 6 rfl rfl 7 (by decide) (by decide +kernel) rfl rfl dX11_addRefuge_82 rfl ?_
          refine g_iconst C dX11_addRefuge_85 rfl ?_
          refine g_aload_n C dX11_addRefuge_86 rfl 1 rfl ?_
          refine g_get (v := .int (iI (M.2 3))) (T := TX11) (N := 13) (ci := 10) C in_X11 0 rfl rfl 4 (by decide) wd938 (Or.inl rfl) rfl dX11_addRefuge_87 rfl ?_
          have f87 := okM_i3 hM
          refine g_imul C dX11_addRefuge_90 rfl ?_
          refine g_iload C dX11_addRefuge_91 rfl 0 rfl ?_
          refine g_iast (f := (S.1 6)) (ws' := wM E am (ad 0) sa (setI M 0 (0)) ++ (wS E ad (setA S 6 (fset (S.1 6) ((2) * (M.2 3)) (((10) * y) + x))))) C dX11_addRefuge_93 rfl 12 rfl (by omega) (by decide) rfl ?_
          refine g_aload_n C dX11_addRefuge_94 rfl 1 rfl ?_
          refine g_get (v := .ref (ad 0)) (T := TX11) (N := 13) (ci := 10) C in_X11 0 rfl rfl 11 (by decide) wd945 (Or.inl rfl) rfl dX11_addRefuge_95 rfl ?_
          refine g_getN (v := .ref (ad 6)) (T := TX10) (N := 10) (ci := 9) C rfl in_X10 6 rfl rfl 7 (by decide) (by decide +kernel) rfl rfl dX11_addRefuge_98 rfl ?_
          refine g_iconst C dX11_addRefuge_101 rfl ?_
          refine g_aload_n C dX11_addRefuge_102 rfl 1 rfl ?_
          refine g_get (v := .int (iI (M.2 3))) (T := TX11) (N := 13) (ci := 10) C in_X11 0 rfl rfl 4 (by decide) wd938 (Or.inl rfl) rfl dX11_addRefuge_103 rfl ?_
          have f103 := okM_i3 hM
          refine g_imul C dX11_addRefuge_106 rfl ?_
          refine g_iconst C dX11_addRefuge_107 rfl ?_
          refine g_iadd C dX11_addRefuge_108 rfl ?_
          refine g_iload_n C dX11_addRefuge_109 rfl 4 rfl ?_
          refine g_iast (f := (fset (S.1 6) ((2) * (M.2 3)) (((10) * y) + x))) (ws' := wM E am (ad 0) sa (setI M 0 (0)) ++ (wS E ad (setA S 6 (fset (fset (S.1 6) ((2) * (M.2 3)) (((10) * y) + x)) (((2) * (M.2 3)) + (1)) rm)))) C dX11_addRefuge_110 rfl 12 rfl (by omega) (by decide) rfl ?_
          refine g_aload_n C dX11_addRefuge_111 rfl 1 rfl ?_
          refine g_dup C dX11_addRefuge_112 rfl rfl ?_
          refine g_get (v := .int (iI (M.2 3))) (T := TX11) (N := 13) (ci := 10) C in_X11 0 rfl rfl 4 (by decide) wd938 (Or.inl rfl) rfl dX11_addRefuge_113 rfl ?_
          have f113 := okM_i3 hM
          refine g_iconst C dX11_addRefuge_116 rfl ?_
          refine g_iadd C dX11_addRefuge_117 rfl ?_
          refine g_put (T := TX11) (N := 13) (ci := 10) (ws' := wM E am (ad 0) sa (setI (setI M 0 (0)) 3 ((M.2 3) + (1))) ++ (wS E ad (setA S 6 (fset (fset (S.1 6) ((2) * (M.2 3)) (((10) * y) + x)) (((2) * (M.2 3)) + (1)) rm)))) C in_X11 tyX11 tyX11_ok nmX11 0 rfl rfl 4 (by decide) wd938 (Or.inl rfl) rfl (ty := .int) (by decide +kernel) rfl rfl (Nat.le_of_ble_eq_true rfl) rfl dX11_addRefuge_118 rfl ?_
          refine g_aload_n C dX11_addRefuge_121 rfl 1 rfl ?_
          refine g_get (v := .int (iI ((M.2 3) + (1)))) (T := TX11) (N := 13) (ci := 10) C in_X11 0 rfl rfl 4 (by decide) wd938 (Or.inl rfl) rfl dX11_addRefuge_122 rfl ?_
          refine g_iconst C dX11_addRefuge_125 rfl ?_
          refine g_isub C dX11_addRefuge_126 rfl ?_
          exact z_iret C Z rfl dX11_addRefuge_127 (by rw [show tAR M S x y rm = (0 : Int) from by unfold tAR tC; repeat (first | (rw [if_pos (by omega)]) | (rw [if_neg (by omega)]) | (rw [if_pos trivial]))] <;> rfl) (by rw [show tAR M S x y rm = (0 : Int) from by unfold tAR tC; repeat (first | (rw [if_pos (by omega)]) | (rw [if_neg (by omega)]) | (rw [if_pos trivial]))] <;> rfl)
        · skip
          refine g_aload_n C dX11_addRefuge_72 rfl 1 rfl ?_
          refine g_iconst C dX11_addRefuge_73 rfl ?_
          refine g_callVf (As := [.int (iI (3))]) (rv := some (.int (iI (0)))) (w1 := wM E am (ad 0) sa (setI M 0 (3))) (kc' := 0) (ks' := 0) C (wS E ad S) (k_X11_no l E am (ad 0) sa (setI M 0 (0)) (3)) mX11_no iX11_no wd988 0 10 rfl rfl rfl rfl rfl (Nat.le_of_ble_eq_true rfl) ⟨Nat.le_of_ble_eq_true rfl, Nat.le_of_ble_eq_true rfl⟩ ⟨Nat.le_of_ble_eq_true rfl, Nat.le_of_ble_eq_true rfl⟩ rfl rfl rfl dX11_addRefuge_74 rfl ?_
          exact z_iret C Z rfl dX11_addRefuge_77 (by rw [show tAR M S x y rm = (3 : Int) from by unfold tAR tC; repeat (first | (rw [if_pos (by omega)]) | (rw [if_neg (by omega)]) | (rw [if_pos trivial]))] <;> rfl) (by rw [show tAR M S x y rm = (3 : Int) from by unfold tAR tC; repeat (first | (rw [if_pos (by omega)]) | (rw [if_neg (by omega)]) | (rw [if_pos trivial]))] <;> rfl)
    · skip
      refine g_aload_n C dX11_addRefuge_29 rfl 0 rfl ?_
      refine g_iconst C dX11_addRefuge_30 rfl ?_
      refine g_callVf (As := [.int (iI (2))]) (rv := some (.int (iI (0)))) (w1 := wM E am (ad 0) sa (setI M 0 (2))) (kc' := 0) (ks' := 0) C (wS E ad S) (k_X11_no l E am (ad 0) sa (setI M 0 (0)) (2)) mX11_no iX11_no wd988 0 10 rfl rfl rfl rfl rfl (Nat.le_of_ble_eq_true rfl) ⟨Nat.le_of_ble_eq_true rfl, Nat.le_of_ble_eq_true rfl⟩ ⟨Nat.le_of_ble_eq_true rfl, Nat.le_of_ble_eq_true rfl⟩ rfl rfl rfl dX11_addRefuge_31 rfl ?_
      exact z_iret C Z rfl dX11_addRefuge_34 (by rw [show tAR M S x y rm = (2 : Int) from by unfold tAR tC; repeat (first | (rw [if_pos (by omega)]) | (rw [if_neg (by omega)]) | (rw [if_pos trivial]))] <;> rfl) (by rw [show tAR M S x y rm = (2 : Int) from by unfold tAR tC; repeat (first | (rw [if_pos (by omega)]) | (rw [if_neg (by omega)]) | (rw [if_pos trivial]))] <;> rfl)
  · skip
    refine g_aload_n C dX11_addRefuge_13 rfl 0 rfl ?_
    refine g_iconst C dX11_addRefuge_14 rfl ?_
    refine g_callVf (As := [.int (iI (1))]) (rv := some (.int (iI (0)))) (w1 := wM E am (ad 0) sa (setI M 0 (1))) (kc' := 0) (ks' := 0) C (wS E ad S) (k_X11_no l E am (ad 0) sa (setI M 0 (0)) (1)) mX11_no iX11_no wd988 0 10 rfl rfl rfl rfl rfl (Nat.le_of_ble_eq_true rfl) ⟨Nat.le_of_ble_eq_true rfl, Nat.le_of_ble_eq_true rfl⟩ ⟨Nat.le_of_ble_eq_true rfl, Nat.le_of_ble_eq_true rfl⟩ rfl rfl rfl dX11_addRefuge_15 rfl ?_
    exact z_iret C Z rfl dX11_addRefuge_18 (by rw [show tAR M S x y rm = (1 : Int) from by unfold tAR tC; repeat (first | (rw [if_pos (by omega)]) | (rw [if_neg (by omega)]) | (rw [if_pos trivial]))] <;> rfl) (by rw [show tAR M S x y rm = (1 : Int) from by unfold tAR tC; repeat (first | (rw [if_pos (by omega)]) | (rw [if_neg (by omega)]) | (rw [if_pos trivial]))] <;> rfl)
abbrev r_X11_settle : Room := { frames := 2, cells := 0, slots := 0, locals := 43 }
set_option maxHeartbeats 4000000 in
set_option maxRecDepth 100000 in
theorem k_X11_settle (l : Launch) (E : gE) (am : Nat → Nat) (sa : Nat) (M : gS) (ad : Nat → Nat) (S : gS) (x y n : Int) (hM : okM M) (hS : okS S) (hx : (-2147483648 ≤ x ∧ x ≤ 2147483647)) (hy : (-2147483648 ≤ y ∧ y ≤ 2147483647)) (hn : (-2147483648 ≤ n ∧ n ≤ 2147483647)) : gK l E yX11_settle cX11_settle 5 (some .int) r_X11_settle [.ref (am 0), .int (iI x), .int (iI y), .int (iI n)] (wM E am (ad 0) sa M ++ (wS E ad S)) (some (.int (iI (if tSE M x y n = 0 then M.2 4 + 1 - 1 else 0)))) (wM E am (ad 0) sa (if tSE M x y n = 0 then setI (setI M 0 0) 4 (M.2 4 + 1) else setI M 0 (tSE M x y n)) ++ (wS E ad (if tSE M x y n = 0 then sSE M S x y n else S))) := by
  refine gK_by RX11 rfl mX11_settle [(0, .ref (am 0)), (1, .int (iI x)), (2, .int (iI y)), (3, .int (iI n))] (Nat.le_of_ble_eq_true rfl) rfl ?_
  intro zp ze zs zm za zb zh zc zA zQ C Z
  refine g_aload_n C dX11_settle_0 rfl 0 rfl ?_
  refine g_iconst C dX11_settle_1 rfl ?_
  refine g_put (T := TX11) (N := 13) (ci := 10) (ws' := wM E am (ad 0) sa (setI M 0 (0)) ++ (wS E ad S)) C in_X11 tyX11 tyX11_ok nmX11 0 rfl rfl 0 (by decide) wd934 (Or.inl rfl) rfl (ty := .int) (by decide +kernel) rfl rfl (Nat.le_of_ble_eq_true rfl) rfl dX11_settle_2 rfl ?_
  refine g_iload_n C dX11_settle_5 rfl 1 rfl ?_
  refine g_iload_n C dX11_settle_6 rfl 2 rfl ?_
  refine g_callS1 (As := [.int (iI x), .int (iI y)]) (rv := some (.int (iI (bI ((0 ≤ x ∧ x ≤ 9) ∧ 0 ≤ y ∧ y ≤ 7))))) (kc' := 0) (ks' := 0) C (k_X11_isCell l E x y (by omega) (by omega)) mX11_isCell wd983 wd982 rfl rfl (Nat.le_of_ble_eq_true rfl) ⟨Nat.le_of_ble_eq_true rfl, Nat.le_of_ble_eq_true rfl⟩ ⟨Nat.le_of_ble_eq_true rfl, Nat.le_of_ble_eq_true rfl⟩ rfl rfl dX11_settle_7 rfl ?_
  have n7 := bI_w ((0 ≤ x ∧ x ≤ 9) ∧ 0 ≤ y ∧ y ≤ 7)
  refine g_if_ne C dX11_settle_10 19 (by decide) rfl (by omega) (fun c10 => ?_) (fun c10 => ?_)
  · skip
    refine g_iload_n C dX11_settle_19 rfl 3 rfl ?_
    refine g_iconst C dX11_settle_20 rfl ?_
    refine g_bipush C dX11_settle_21 rfl rfl ?_
    refine g_callS1 (As := [.int (iI n), .int (iI (1)), .int (iI (6))]) (rv := some (.int (iI (bI ((1) ≤ n ∧ n ≤ (6)))))) (kc' := 0) (ks' := 0) C (k_X11_isIn l E n (1) (6) (by omega) (by omega) (by omega)) mX11_isIn wd986 wd985 rfl rfl (Nat.le_of_ble_eq_true rfl) ⟨Nat.le_of_ble_eq_true rfl, Nat.le_of_ble_eq_true rfl⟩ ⟨Nat.le_of_ble_eq_true rfl, Nat.le_of_ble_eq_true rfl⟩ rfl rfl dX11_settle_23 rfl ?_
    have n23 := bI_w ((1) ≤ n ∧ n ≤ (6))
    refine g_if_ne C dX11_settle_26 35 (by decide) rfl (by omega) (fun c26 => ?_) (fun c26 => ?_)
    · skip
      refine g_aload_n C dX11_settle_35 rfl 0 rfl ?_
      refine g_get (v := .int (iI (M.2 4))) (T := TX11) (N := 13) (ci := 10) C in_X11 0 rfl rfl 5 (by decide) wd939 (Or.inl rfl) rfl dX11_settle_36 rfl ?_
      have f36 := okM_i4 hM
      refine g_bipush C dX11_settle_39 rfl rfl ?_
      refine g_icmp_ne C dX11_settle_41 50 (by decide) rfl (by omega) (by omega) (fun c41 => ?_) (fun c41 => ?_)
      · skip
        refine g_iconst C dX11_settle_50 rfl ?_
        refine g_aload_n C dX11_settle_51 rfl 0 rfl ?_
        refine g_get (v := .int (iI (M.2 4))) (T := TX11) (N := 13) (ci := 10) C in_X11 0 rfl rfl 5 (by decide) wd939 (Or.inl rfl) rfl dX11_settle_52 rfl ?_
        have f52 := okM_i4 hM
        refine g_imul C dX11_settle_55 rfl ?_
        refine g_istore (lv' := [(4, .int (iI ((4) * (M.2 4)))), (0, .ref (am 0)), (1, .int (iI x)), (2, .int (iI y)), (3, .int (iI n))]) C dX11_settle_56 rfl (by decide) rfl ?_
        refine g_aload_n C dX11_settle_58 rfl 1 rfl ?_
        refine g_get (v := .ref (ad 0)) (T := TX11) (N := 13) (ci := 10) C in_X11 0 rfl rfl 11 (by decide) wd945 (Or.inl rfl) rfl dX11_settle_59 rfl ?_
        refine g_getN (v := .ref (ad 7)) (T := TX10) (N := 10) (ci := 9) C rfl in_X10 6 rfl rfl 8 (by decide) (by decide +kernel) rfl rfl dX11_settle_62 rfl ?_
        refine g_iload C dX11_settle_65 rfl 0 rfl ?_
        refine g_bipush C dX11_settle_67 rfl rfl ?_
        refine g_iload_n C dX11_settle_69 rfl 3 rfl ?_
        refine g_imul C dX11_settle_70 rfl ?_
        refine g_iload_n C dX11_settle_71 rfl 2 rfl ?_
        refine g_iadd C dX11_settle_72 rfl ?_
        refine g_iast (f := (S.1 7)) (ws' := wM E am (ad 0) sa (setI M 0 (0)) ++ (wS E ad (setA S 7 (fset (S.1 7) ((4) * (M.2 4)) (((10) * y) + x))))) C dX11_settle_73 rfl 13 rfl (by omega) (by decide) rfl ?_
        refine g_aload_n C dX11_settle_74 rfl 1 rfl ?_
        refine g_get (v := .ref (ad 0)) (T := TX11) (N := 13) (ci := 10) C in_X11 0 rfl rfl 11 (by decide) wd945 (Or.inl rfl) rfl dX11_settle_75 rfl ?_
        refine g_getN (v := .ref (ad 7)) (T := TX10) (N := 10) (ci := 9) C rfl in_X10 6 rfl rfl 8 (by decide) (by decide +kernel) rfl rfl dX11_settle_78 rfl ?_
        refine g_iload C dX11_settle_81 rfl 0 rfl ?_
        refine g_iconst C dX11_settle_83 rfl ?_
        refine g_iadd C dX11_settle_84 rfl ?_
        refine g_iload_n C dX11_settle_85 rfl 4 rfl ?_
        refine g_iast (f := (fset (S.1 7) ((4) * (M.2 4)) (((10) * y) + x))) (ws' := wM E am (ad 0) sa (setI M 0 (0)) ++ (wS E ad (setA S 7 (fset (fset (S.1 7) ((4) * (M.2 4)) (((10) * y) + x)) (((4) * (M.2 4)) + (1)) n)))) C dX11_settle_86 rfl 13 rfl (by omega) (by decide) rfl ?_
        refine g_aload_n C dX11_settle_87 rfl 1 rfl ?_
        refine g_get (v := .ref (ad 0)) (T := TX11) (N := 13) (ci := 10) C in_X11 0 rfl rfl 11 (by decide) wd945 (Or.inl rfl) rfl dX11_settle_88 rfl ?_
        refine g_getN (v := .ref (ad 7)) (T := TX10) (N := 10) (ci := 9) C rfl in_X10 6 rfl rfl 8 (by decide) (by decide +kernel) rfl rfl dX11_settle_91 rfl ?_
        refine g_iload C dX11_settle_94 rfl 0 rfl ?_
        refine g_iconst C dX11_settle_96 rfl ?_
        refine g_iadd C dX11_settle_97 rfl ?_
        refine g_iconst C dX11_settle_98 rfl ?_
        refine g_iast (f := (fset (fset (S.1 7) ((4) * (M.2 4)) (((10) * y) + x)) (((4) * (M.2 4)) + (1)) n)) (ws' := wM E am (ad 0) sa (setI M 0 (0)) ++ (wS E ad (setA S 7 (fset (fset (fset (S.1 7) ((4) * (M.2 4)) (((10) * y) + x)) (((4) * (M.2 4)) + (1)) n) (((4) * (M.2 4)) + (2)) (0))))) C dX11_settle_99 rfl 13 rfl (by omega) (by decide) rfl ?_
        refine g_aload_n C dX11_settle_100 rfl 1 rfl ?_
        refine g_get (v := .ref (ad 0)) (T := TX11) (N := 13) (ci := 10) C in_X11 0 rfl rfl 11 (by decide) wd945 (Or.inl rfl) rfl dX11_settle_101 rfl ?_
        refine g_getN (v := .ref (ad 7)) (T := TX10) (N := 10) (ci := 9) C rfl in_X10 6 rfl rfl 8 (by decide) (by decide +kernel) rfl rfl dX11_settle_104 rfl ?_
        refine g_iload C dX11_settle_107 rfl 0 rfl ?_
        refine g_iconst C dX11_settle_109 rfl ?_
        refine g_iadd C dX11_settle_110 rfl ?_
        refine g_iconst C dX11_settle_111 rfl ?_
        refine g_iast (f := (fset (fset (fset (S.1 7) ((4) * (M.2 4)) (((10) * y) + x)) (((4) * (M.2 4)) + (1)) n) (((4) * (M.2 4)) + (2)) (0))) (ws' := wM E am (ad 0) sa (setI M 0 (0)) ++ (wS E ad (setA S 7 (fset (fset (fset (fset (S.1 7) ((4) * (M.2 4)) (((10) * y) + x)) (((4) * (M.2 4)) + (1)) n) (((4) * (M.2 4)) + (2)) (0)) (((4) * (M.2 4)) + (3)) (-1))))) C dX11_settle_112 rfl 13 rfl (by omega) (by decide) rfl ?_
        refine g_aload_n C dX11_settle_113 rfl 1 rfl ?_
        refine g_dup C dX11_settle_114 rfl rfl ?_
        refine g_get (v := .int (iI (M.2 4))) (T := TX11) (N := 13) (ci := 10) C in_X11 0 rfl rfl 5 (by decide) wd939 (Or.inl rfl) rfl dX11_settle_115 rfl ?_
        have f115 := okM_i4 hM
        refine g_iconst C dX11_settle_118 rfl ?_
        refine g_iadd C dX11_settle_119 rfl ?_
        refine g_put (T := TX11) (N := 13) (ci := 10) (ws' := wM E am (ad 0) sa (setI (setI M 0 (0)) 4 ((M.2 4) + (1))) ++ (wS E ad (setA S 7 (fset (fset (fset (fset (S.1 7) ((4) * (M.2 4)) (((10) * y) + x)) (((4) * (M.2 4)) + (1)) n) (((4) * (M.2 4)) + (2)) (0)) (((4) * (M.2 4)) + (3)) (-1))))) C in_X11 tyX11 tyX11_ok nmX11 0 rfl rfl 5 (by decide) wd939 (Or.inl rfl) rfl (ty := .int) (by decide +kernel) rfl rfl (Nat.le_of_ble_eq_true rfl) rfl dX11_settle_120 rfl ?_
        refine g_aload_n C dX11_settle_123 rfl 1 rfl ?_
        refine g_get (v := .int (iI ((M.2 4) + (1)))) (T := TX11) (N := 13) (ci := 10) C in_X11 0 rfl rfl 5 (by decide) wd939 (Or.inl rfl) rfl dX11_settle_124 rfl ?_
        refine g_iconst C dX11_settle_127 rfl ?_
        refine g_isub C dX11_settle_128 rfl ?_
        exact z_iret C Z rfl dX11_settle_129 (by rw [show tSE M x y n = (0 : Int) from by unfold tSE tC; repeat (first | (rw [if_pos (by omega)]) | (rw [if_neg (by omega)]) | (rw [if_pos trivial]))] <;> rfl) (by rw [show tSE M x y n = (0 : Int) from by unfold tSE tC; repeat (first | (rw [if_pos (by omega)]) | (rw [if_neg (by omega)]) | (rw [if_pos trivial]))] <;> rfl)
      · skip
        refine g_aload_n C dX11_settle_44 rfl 0 rfl ?_
        refine g_iconst C dX11_settle_45 rfl ?_
        refine g_callVf (As := [.int (iI (3))]) (rv := some (.int (iI (0)))) (w1 := wM E am (ad 0) sa (setI M 0 (3))) (kc' := 0) (ks' := 0) C (wS E ad S) (k_X11_no l E am (ad 0) sa (setI M 0 (0)) (3)) mX11_no iX11_no wd988 0 10 rfl rfl rfl rfl rfl (Nat.le_of_ble_eq_true rfl) ⟨Nat.le_of_ble_eq_true rfl, Nat.le_of_ble_eq_true rfl⟩ ⟨Nat.le_of_ble_eq_true rfl, Nat.le_of_ble_eq_true rfl⟩ rfl rfl rfl dX11_settle_46 rfl ?_
        exact z_iret C Z rfl dX11_settle_49 (by rw [show tSE M x y n = (3 : Int) from by unfold tSE tC; repeat (first | (rw [if_pos (by omega)]) | (rw [if_neg (by omega)]) | (rw [if_pos trivial]))] <;> rfl) (by rw [show tSE M x y n = (3 : Int) from by unfold tSE tC; repeat (first | (rw [if_pos (by omega)]) | (rw [if_neg (by omega)]) | (rw [if_pos trivial]))] <;> rfl)
    · skip
      refine g_aload_n C dX11_settle_29 rfl 0 rfl ?_
      refine g_iconst C dX11_settle_30 rfl ?_
      refine g_callVf (As := [.int (iI (2))]) (rv := some (.int (iI (0)))) (w1 := wM E am (ad 0) sa (setI M 0 (2))) (kc' := 0) (ks' := 0) C (wS E ad S) (k_X11_no l E am (ad 0) sa (setI M 0 (0)) (2)) mX11_no iX11_no wd988 0 10 rfl rfl rfl rfl rfl (Nat.le_of_ble_eq_true rfl) ⟨Nat.le_of_ble_eq_true rfl, Nat.le_of_ble_eq_true rfl⟩ ⟨Nat.le_of_ble_eq_true rfl, Nat.le_of_ble_eq_true rfl⟩ rfl rfl rfl dX11_settle_31 rfl ?_
      exact z_iret C Z rfl dX11_settle_34 (by rw [show tSE M x y n = (2 : Int) from by unfold tSE tC; repeat (first | (rw [if_pos (by omega)]) | (rw [if_neg (by omega)]) | (rw [if_pos trivial]))] <;> rfl) (by rw [show tSE M x y n = (2 : Int) from by unfold tSE tC; repeat (first | (rw [if_pos (by omega)]) | (rw [if_neg (by omega)]) | (rw [if_pos trivial]))] <;> rfl)
  · skip
    refine g_aload_n C dX11_settle_13 rfl 0 rfl ?_
    refine g_iconst C dX11_settle_14 rfl ?_
    refine g_callVf (As := [.int (iI (1))]) (rv := some (.int (iI (0)))) (w1 := wM E am (ad 0) sa (setI M 0 (1))) (kc' := 0) (ks' := 0) C (wS E ad S) (k_X11_no l E am (ad 0) sa (setI M 0 (0)) (1)) mX11_no iX11_no wd988 0 10 rfl rfl rfl rfl rfl (Nat.le_of_ble_eq_true rfl) ⟨Nat.le_of_ble_eq_true rfl, Nat.le_of_ble_eq_true rfl⟩ ⟨Nat.le_of_ble_eq_true rfl, Nat.le_of_ble_eq_true rfl⟩ rfl rfl rfl dX11_settle_15 rfl ?_
    exact z_iret C Z rfl dX11_settle_18 (by rw [show tSE M x y n = (1 : Int) from by unfold tSE tC; repeat (first | (rw [if_pos (by omega)]) | (rw [if_neg (by omega)]) | (rw [if_pos trivial]))] <;> rfl) (by rw [show tSE M x y n = (1 : Int) from by unfold tSE tC; repeat (first | (rw [if_pos (by omega)]) | (rw [if_neg (by omega)]) | (rw [if_pos trivial]))] <;> rfl)
abbrev r_X11_addCaller : Room := { frames := 2, cells := 0, slots := 0, locals := 43 }
set_option maxHeartbeats 4000000 in
set_option maxRecDepth 100000 in
theorem k_X11_addCaller (l : Launch) (E : gE) (am : Nat → Nat) (sa : Nat) (M : gS) (ad : Nat → Nat) (S : gS) (x y : Int) (hM : okM M) (hS : okS S) (hx : (-2147483648 ≤ x ∧ x ≤ 2147483647)) (hy : (-2147483648 ≤ y ∧ y ≤ 2147483647)) : gK l E yX11_addCaller cX11_addCaller 3 (some .int) r_X11_addCaller [.ref (am 0), .int (iI x), .int (iI y)] (wM E am (ad 0) sa M ++ (wS E ad S)) (some (.int (iI (if tAC M x y = 0 then M.2 5 + 1 - 1 else 0)))) (wM E am (ad 0) sa (if tAC M x y = 0 then setI (setI M 0 0) 5 (M.2 5 + 1) else setI M 0 (tAC M x y)) ++ (wS E ad (if tAC M x y = 0 then sAC M S x y else S))) := by
  refine gK_by RX11 rfl mX11_addCaller [(0, .ref (am 0)), (1, .int (iI x)), (2, .int (iI y))] (Nat.le_of_ble_eq_true rfl) rfl ?_
  intro zp ze zs zm za zb zh zc zA zQ C Z
  refine g_aload_n C dX11_addCaller_0 rfl 0 rfl ?_
  refine g_iconst C dX11_addCaller_1 rfl ?_
  refine g_put (T := TX11) (N := 13) (ci := 10) (ws' := wM E am (ad 0) sa (setI M 0 (0)) ++ (wS E ad S)) C in_X11 tyX11 tyX11_ok nmX11 0 rfl rfl 0 (by decide) wd934 (Or.inl rfl) rfl (ty := .int) (by decide +kernel) rfl rfl (Nat.le_of_ble_eq_true rfl) rfl dX11_addCaller_2 rfl ?_
  refine g_iload_n C dX11_addCaller_5 rfl 1 rfl ?_
  refine g_iload_n C dX11_addCaller_6 rfl 2 rfl ?_
  refine g_callS1 (As := [.int (iI x), .int (iI y)]) (rv := some (.int (iI (bI ((0 ≤ x ∧ x ≤ 9) ∧ 0 ≤ y ∧ y ≤ 7))))) (kc' := 0) (ks' := 0) C (k_X11_isCell l E x y (by omega) (by omega)) mX11_isCell wd983 wd982 rfl rfl (Nat.le_of_ble_eq_true rfl) ⟨Nat.le_of_ble_eq_true rfl, Nat.le_of_ble_eq_true rfl⟩ ⟨Nat.le_of_ble_eq_true rfl, Nat.le_of_ble_eq_true rfl⟩ rfl rfl dX11_addCaller_7 rfl ?_
  have n7 := bI_w ((0 ≤ x ∧ x ≤ 9) ∧ 0 ≤ y ∧ y ≤ 7)
  refine g_if_ne C dX11_addCaller_10 19 (by decide) rfl (by omega) (fun c10 => ?_) (fun c10 => ?_)
  · skip
    refine g_aload_n C dX11_addCaller_19 rfl 0 rfl ?_
    refine g_get (v := .int (iI (M.2 5))) (T := TX11) (N := 13) (ci := 10) C in_X11 0 rfl rfl 6 (by decide) wd940 (Or.inl rfl) rfl dX11_addCaller_20 rfl ?_
    have f20 := okM_i5 hM
    refine g_iconst C dX11_addCaller_23 rfl ?_
    refine g_icmp_ne C dX11_addCaller_24 33 (by decide) rfl (by omega) (by omega) (fun c24 => ?_) (fun c24 => ?_)
    · skip
      refine g_aload_n C dX11_addCaller_33 rfl 0 rfl ?_
      refine g_get (v := .ref (ad 0)) (T := TX11) (N := 13) (ci := 10) C in_X11 0 rfl rfl 11 (by decide) wd945 (Or.inl rfl) rfl dX11_addCaller_34 rfl ?_
      refine g_getN (v := .ref (ad 8)) (T := TX10) (N := 10) (ci := 9) C rfl in_X10 6 rfl rfl 9 (by decide) (by decide +kernel) rfl rfl dX11_addCaller_37 rfl ?_
      refine g_iconst C dX11_addCaller_40 rfl ?_
      refine g_aload_n C dX11_addCaller_41 rfl 0 rfl ?_
      refine g_get (v := .int (iI (M.2 5))) (T := TX11) (N := 13) (ci := 10) C in_X11 0 rfl rfl 6 (by decide) wd940 (Or.inl rfl) rfl dX11_addCaller_42 rfl ?_
      have f42 := okM_i5 hM
      refine g_imul C dX11_addCaller_45 rfl ?_
      refine g_bipush C dX11_addCaller_46 rfl rfl ?_
      refine g_iload_n C dX11_addCaller_48 rfl 2 rfl ?_
      refine g_imul C dX11_addCaller_49 rfl ?_
      refine g_iload_n C dX11_addCaller_50 rfl 1 rfl ?_
      refine g_iadd C dX11_addCaller_51 rfl ?_
      refine g_iast (f := (S.1 8)) (ws' := wM E am (ad 0) sa (setI M 0 (0)) ++ (wS E ad (setA S 8 (fset (S.1 8) ((2) * (M.2 5)) (((10) * y) + x))))) C dX11_addCaller_52 rfl 14 rfl (by omega) (by decide) rfl ?_
      refine g_aload_n C dX11_addCaller_53 rfl 0 rfl ?_
      refine g_get (v := .ref (ad 0)) (T := TX11) (N := 13) (ci := 10) C in_X11 0 rfl rfl 11 (by decide) wd945 (Or.inl rfl) rfl dX11_addCaller_54 rfl ?_
      refine g_getN (v := .ref (ad 8)) (T := TX10) (N := 10) (ci := 9) C rfl in_X10 6 rfl rfl 9 (by decide) (by decide +kernel) rfl rfl dX11_addCaller_57 rfl ?_
      refine g_iconst C dX11_addCaller_60 rfl ?_
      refine g_aload_n C dX11_addCaller_61 rfl 0 rfl ?_
      refine g_get (v := .int (iI (M.2 5))) (T := TX11) (N := 13) (ci := 10) C in_X11 0 rfl rfl 6 (by decide) wd940 (Or.inl rfl) rfl dX11_addCaller_62 rfl ?_
      have f62 := okM_i5 hM
      refine g_imul C dX11_addCaller_65 rfl ?_
      refine g_iconst C dX11_addCaller_66 rfl ?_
      refine g_iadd C dX11_addCaller_67 rfl ?_
      refine g_iconst C dX11_addCaller_68 rfl ?_
      refine g_iast (f := (fset (S.1 8) ((2) * (M.2 5)) (((10) * y) + x))) (ws' := wM E am (ad 0) sa (setI M 0 (0)) ++ (wS E ad (setA S 8 (fset (fset (S.1 8) ((2) * (M.2 5)) (((10) * y) + x)) (((2) * (M.2 5)) + (1)) (0))))) C dX11_addCaller_69 rfl 14 rfl (by omega) (by decide) rfl ?_
      refine g_aload_n C dX11_addCaller_70 rfl 0 rfl ?_
      refine g_dup C dX11_addCaller_71 rfl rfl ?_
      refine g_get (v := .int (iI (M.2 5))) (T := TX11) (N := 13) (ci := 10) C in_X11 0 rfl rfl 6 (by decide) wd940 (Or.inl rfl) rfl dX11_addCaller_72 rfl ?_
      have f72 := okM_i5 hM
      refine g_iconst C dX11_addCaller_75 rfl ?_
      refine g_iadd C dX11_addCaller_76 rfl ?_
      refine g_put (T := TX11) (N := 13) (ci := 10) (ws' := wM E am (ad 0) sa (setI (setI M 0 (0)) 5 ((M.2 5) + (1))) ++ (wS E ad (setA S 8 (fset (fset (S.1 8) ((2) * (M.2 5)) (((10) * y) + x)) (((2) * (M.2 5)) + (1)) (0))))) C in_X11 tyX11 tyX11_ok nmX11 0 rfl rfl 6 (by decide) wd940 (Or.inl rfl) rfl (ty := .int) (by decide +kernel) rfl rfl (Nat.le_of_ble_eq_true rfl) rfl dX11_addCaller_77 rfl ?_
      refine g_aload_n C dX11_addCaller_80 rfl 0 rfl ?_
      refine g_get (v := .int (iI ((M.2 5) + (1)))) (T := TX11) (N := 13) (ci := 10) C in_X11 0 rfl rfl 6 (by decide) wd940 (Or.inl rfl) rfl dX11_addCaller_81 rfl ?_
      refine g_iconst C dX11_addCaller_84 rfl ?_
      refine g_isub C dX11_addCaller_85 rfl ?_
      exact z_iret C Z rfl dX11_addCaller_86 (by rw [show tAC M x y = (0 : Int) from by unfold tAC tC; repeat (first | (rw [if_pos (by omega)]) | (rw [if_neg (by omega)]) | (rw [if_pos trivial]))] <;> rfl) (by rw [show tAC M x y = (0 : Int) from by unfold tAC tC; repeat (first | (rw [if_pos (by omega)]) | (rw [if_neg (by omega)]) | (rw [if_pos trivial]))] <;> rfl)
    · skip
      refine g_aload_n C dX11_addCaller_27 rfl 0 rfl ?_
      refine g_iconst C dX11_addCaller_28 rfl ?_
      refine g_callVf (As := [.int (iI (2))]) (rv := some (.int (iI (0)))) (w1 := wM E am (ad 0) sa (setI M 0 (2))) (kc' := 0) (ks' := 0) C (wS E ad S) (k_X11_no l E am (ad 0) sa (setI M 0 (0)) (2)) mX11_no iX11_no wd988 0 10 rfl rfl rfl rfl rfl (Nat.le_of_ble_eq_true rfl) ⟨Nat.le_of_ble_eq_true rfl, Nat.le_of_ble_eq_true rfl⟩ ⟨Nat.le_of_ble_eq_true rfl, Nat.le_of_ble_eq_true rfl⟩ rfl rfl rfl dX11_addCaller_29 rfl ?_
      exact z_iret C Z rfl dX11_addCaller_32 (by rw [show tAC M x y = (2 : Int) from by unfold tAC tC; repeat (first | (rw [if_pos (by omega)]) | (rw [if_neg (by omega)]) | (rw [if_pos trivial]))] <;> rfl) (by rw [show tAC M x y = (2 : Int) from by unfold tAC tC; repeat (first | (rw [if_pos (by omega)]) | (rw [if_neg (by omega)]) | (rw [if_pos trivial]))] <;> rfl)
  · skip
    refine g_aload_n C dX11_addCaller_13 rfl 0 rfl ?_
    refine g_iconst C dX11_addCaller_14 rfl ?_
    refine g_callVf (As := [.int (iI (1))]) (rv := some (.int (iI (0)))) (w1 := wM E am (ad 0) sa (setI M 0 (1))) (kc' := 0) (ks' := 0) C (wS E ad S) (k_X11_no l E am (ad 0) sa (setI M 0 (0)) (1)) mX11_no iX11_no wd988 0 10 rfl rfl rfl rfl rfl (Nat.le_of_ble_eq_true rfl) ⟨Nat.le_of_ble_eq_true rfl, Nat.le_of_ble_eq_true rfl⟩ ⟨Nat.le_of_ble_eq_true rfl, Nat.le_of_ble_eq_true rfl⟩ rfl rfl rfl dX11_addCaller_15 rfl ?_
    exact z_iret C Z rfl dX11_addCaller_18 (by rw [show tAC M x y = (1 : Int) from by unfold tAC tC; repeat (first | (rw [if_pos (by omega)]) | (rw [if_neg (by omega)]) | (rw [if_pos trivial]))] <;> rfl) (by rw [show tAC M x y = (1 : Int) from by unfold tAC tC; repeat (first | (rw [if_pos (by omega)]) | (rw [if_neg (by omega)]) | (rw [if_pos trivial]))] <;> rfl)
