abbrev r_X3_copyFrom : Room := { frames := 1, cells := 0, slots := 0, locals := 18 }
set_option maxHeartbeats 4000000 in
set_option maxRecDepth 100000 in
theorem k_X3_copyFrom (l : Launch) (E : gE) (ad ad2 : Nat → Nat) (S S2 : gS) (hS : okT S) (hS2 : okT S2) : gK l E yX3_copyFrom cX3_copyFrom 2 none r_X3_copyFrom [.ref (ad 1), .ref (ad2 1)] (wT E ad S ++ (wT E ad2 S2)) (none) (wT E ad (landC S S2) ++ (wT E ad2 S2)) := by
  refine gK_by RX3 rfl mX3_copyFrom [(0, .ref (ad 1)), (1, .ref (ad2 1))] (Nat.le_of_ble_eq_true rfl) rfl ?_
  intro zp ze zs zm za zb zh zc zA zQ C Z
  refine g_aload_n C dX3_copyFrom_0 rfl 1 rfl ?_
  refine g_get (v := .ref (ad2 2)) (T := TX3) (N := 5) (ci := 3) C in_X3 33 rfl rfl 0 (by decide) wd41 (Or.inl rfl) rfl dX3_copyFrom_1 rfl ?_
  refine g_iconst C dX3_copyFrom_4 rfl ?_
  refine g_aload_n C dX3_copyFrom_5 rfl 0 rfl ?_
  refine g_get (v := .ref (ad 2)) (T := TX3) (N := 5) (ci := 3) C in_X3 1 rfl rfl 0 (by decide) wd41 (Or.inl rfl) rfl dX3_copyFrom_6 rfl ?_
  refine g_iconst C dX3_copyFrom_9 rfl ?_
  refine g_bipush C dX3_copyFrom_10 rfl rfl ?_
  refine g_copy (f := (S2.1 2)) (g := (S.1 2)) (ws' := wT E ad (setA S 2 (fcpy (S2.1 2) (S.1 2) (80))) ++ (wT E ad2 S2)) C wd741 ⟨wd743, wd742, wd20⟩ 34 2 rfl rfl (by omega) rfl (Nat.le_of_ble_eq_true rfl) (Nat.le_of_ble_eq_true rfl) dX3_copyFrom_12 rfl ?_
  refine g_aload_n C dX3_copyFrom_15 rfl 1 rfl ?_
  refine g_get (v := .ref (ad2 3)) (T := TX3) (N := 5) (ci := 3) C in_X3 33 rfl rfl 1 (by decide) wd44 (Or.inl rfl) rfl dX3_copyFrom_16 rfl ?_
  refine g_iconst C dX3_copyFrom_19 rfl ?_
  refine g_aload_n C dX3_copyFrom_20 rfl 0 rfl ?_
  refine g_get (v := .ref (ad 3)) (T := TX3) (N := 5) (ci := 3) C in_X3 1 rfl rfl 1 (by decide) wd44 (Or.inl rfl) rfl dX3_copyFrom_21 rfl ?_
  refine g_iconst C dX3_copyFrom_24 rfl ?_
  refine g_bipush C dX3_copyFrom_25 rfl rfl ?_
  refine g_copy (f := (S2.1 3)) (g := (S.1 3)) (ws' := wT E ad (setA (setA S 2 (fcpy (S2.1 2) (S.1 2) (80))) 3 (fcpy (S2.1 3) (S.1 3) (80))) ++ (wT E ad2 S2)) C wd741 ⟨wd743, wd742, wd20⟩ 35 3 rfl rfl (by omega) rfl (Nat.le_of_ble_eq_true rfl) (Nat.le_of_ble_eq_true rfl) dX3_copyFrom_27 rfl ?_
  refine g_aload_n C dX3_copyFrom_30 rfl 1 rfl ?_
  refine g_get (v := .ref (ad2 4)) (T := TX3) (N := 5) (ci := 3) C in_X3 33 rfl rfl 2 (by decide) wd47 (Or.inl rfl) rfl dX3_copyFrom_31 rfl ?_
  refine g_iconst C dX3_copyFrom_34 rfl ?_
  refine g_aload_n C dX3_copyFrom_35 rfl 0 rfl ?_
  refine g_get (v := .ref (ad 4)) (T := TX3) (N := 5) (ci := 3) C in_X3 1 rfl rfl 2 (by decide) wd47 (Or.inl rfl) rfl dX3_copyFrom_36 rfl ?_
  refine g_iconst C dX3_copyFrom_39 rfl ?_
  refine g_bipush C dX3_copyFrom_40 rfl rfl ?_
  refine g_copy (f := (S2.1 4)) (g := (S.1 4)) (ws' := wT E ad (setA (setA (setA S 2 (fcpy (S2.1 2) (S.1 2) (80))) 3 (fcpy (S2.1 3) (S.1 3) (80))) 4 (fcpy (S2.1 4) (S.1 4) (80))) ++ (wT E ad2 S2)) C wd741 ⟨wd743, wd742, wd20⟩ 36 4 rfl rfl (by omega) rfl (Nat.le_of_ble_eq_true rfl) (Nat.le_of_ble_eq_true rfl) dX3_copyFrom_42 rfl ?_
  refine g_aload_n C dX3_copyFrom_45 rfl 1 rfl ?_
  refine g_get (v := .ref (ad2 6)) (T := TX3) (N := 5) (ci := 3) C in_X3 33 rfl rfl 4 (by decide) wd53 (Or.inl rfl) rfl dX3_copyFrom_46 rfl ?_
  refine g_iconst C dX3_copyFrom_49 rfl ?_
  refine g_aload_n C dX3_copyFrom_50 rfl 0 rfl ?_
  refine g_get (v := .ref (ad 6)) (T := TX3) (N := 5) (ci := 3) C in_X3 1 rfl rfl 4 (by decide) wd53 (Or.inl rfl) rfl dX3_copyFrom_51 rfl ?_
  refine g_iconst C dX3_copyFrom_54 rfl ?_
  refine g_bipush C dX3_copyFrom_55 rfl rfl ?_
  refine g_copy (f := (S2.1 6)) (g := (S.1 6)) (ws' := wT E ad (setA (setA (setA (setA S 2 (fcpy (S2.1 2) (S.1 2) (80))) 3 (fcpy (S2.1 3) (S.1 3) (80))) 4 (fcpy (S2.1 4) (S.1 4) (80))) 6 (fcpy (S2.1 6) (S.1 6) (12))) ++ (wT E ad2 S2)) C wd741 ⟨wd743, wd742, wd20⟩ 38 6 rfl rfl (by omega) rfl (Nat.le_of_ble_eq_true rfl) (Nat.le_of_ble_eq_true rfl) dX3_copyFrom_57 rfl ?_
  exact z_vret C Z dX3_copyFrom_60 rfl rfl
abbrev r_X4_copyCells : Room := { frames := 0, cells := 0, slots := 0, locals := 0 }
set_option maxHeartbeats 4000000 in
set_option maxRecDepth 100000 in
theorem k_X4_copyCells_X5 (l : Launch) (E : gE) (ad ad2 : Nat → Nat) (S S2 : gS) (hS : okT S) (hS2 : okT S2) : gK l E yX4_copyCells cX4_copyCells 3 none r_X4_copyCells [.ref (ad 7), .ref (ad2 7)] (wT E ad S ++ (wT E ad2 S2)) (none) (wT E ad (setI (setA S 8 (cpI (S.1 8) (S2.1 8) (S2.2 1).toNat)) 1 (S2.2 1)) ++ (wT E ad2 S2)) := by
  refine gK_by RX4 rfl mX4_copyCells [(0, .ref (ad 7)), (1, .ref (ad2 7))] (Nat.le_of_ble_eq_true rfl) rfl ?_
  intro zp ze zs zm za zb zh zc zA zQ C Z
  refine g_aload_n C dX4_copyCells_0 rfl 0 rfl ?_
  refine g_aload_n C dX4_copyCells_1 rfl 1 rfl ?_
  refine g_get (v := .int (iI (S2.2 1))) (T := TX5) (N := 6) (ci := 4) C in_X5 39 rfl rfl 1 (by decide) wd96 (Or.inl rfl) rfl dX4_copyCells_2 rfl ?_
  have f2 := okT_i1 hS2
  refine g_put (T := TX5) (N := 6) (ci := 4) (ws' := wT E ad (setI S 1 (S2.2 1)) ++ (wT E ad2 S2)) C in_X5 tyX5 tyX5_ok nmX5 7 rfl rfl 1 (by decide) wd96 (Or.inl rfl) rfl (ty := .int) (by decide +kernel) rfl rfl (Nat.le_of_ble_eq_true rfl) rfl dX4_copyCells_5 rfl ?_
  refine g_iconst C dX4_copyCells_8 rfl ?_
  refine g_istore_n (lv' := [(2, .int (iI (0))), (0, .ref (ad 7)), (1, .ref (ad2 7))]) C dX4_copyCells_9 rfl (by decide) rfl ?_
  have L10 : ∀ k9 : Nat, k9 ≤ (S2.2 1).toNat → gG E zp l ze r_X4_copyCells zs zm za zb zh zc zA 3 0 0 zQ (wT E ad (setI (setA S 8 (cpI (S.1 8) (S2.1 8) k9)) 1 (S2.2 1)) ++ (wT E ad2 S2)) 10 [(2, .int (iI (k9 : Int))), (0, .ref (ad 7)), (1, .ref (ad2 7))] [] := by
    refine g_up ((S2.2 1).toNat) _ ?_
    intro k9 ih10 hk10
    have ff := okT_i1 hS2
    refine g_iload_n C dX4_copyCells_10 rfl 0 rfl ?_
    refine g_aload_n C dX4_copyCells_11 rfl 1 rfl ?_
    refine g_get (v := .int (iI (S2.2 1))) (T := TX5) (N := 6) (ci := 4) C in_X5 7 rfl rfl 1 (by decide) wd96 (Or.inl rfl) rfl dX4_copyCells_12 rfl ?_
    refine g_icmp_ge C dX4_copyCells_15 36 (by decide) rfl (by omega) (by omega) (fun c15 => ?_) (fun c15 => ?_)
    · skip
      exact z_vret C Z dX4_copyCells_36 rfl (by rw [show (S2.2 1).toNat = k9 from by omega] <;> rfl)
    · skip
      refine g_aload_n C dX4_copyCells_18 rfl 1 rfl ?_
      refine g_get (v := .ref (ad 8)) (T := TX5) (N := 6) (ci := 4) C in_X5 7 rfl rfl 0 (by decide) wd81 (Or.inl rfl) rfl dX4_copyCells_19 rfl ?_
      refine g_iload_n C dX4_copyCells_22 rfl 0 rfl ?_
      refine g_aload_n C dX4_copyCells_23 rfl 2 rfl ?_
      refine g_get (v := .ref (ad2 8)) (T := TX5) (N := 6) (ci := 4) C in_X5 39 rfl rfl 0 (by decide) wd81 (Or.inl rfl) rfl dX4_copyCells_24 rfl ?_
      refine g_iload_n C dX4_copyCells_27 rfl 0 rfl ?_
      refine g_iald (f := (S2.1 8)) C dX4_copyCells_28 rfl 40 rfl (by omega) (by decide) ?_
      have b28 := okT_8 hS2 (k9 : Int)
      refine g_iast (f := (cpI (S.1 8) (S2.1 8) k9)) (ws' := wT E ad (setI (setA S 8 (fset (cpI (S.1 8) (S2.1 8) k9) (k9 : Int) ((S2.1 8) (k9 : Int)))) 1 (S2.2 1)) ++ (wT E ad2 S2)) C dX4_copyCells_29 rfl 8 rfl (by omega) (by decide) rfl ?_
      refine g_iinc (lv' := [(2, .int (iI ((k9 : Int) + 1))), (0, .ref (ad 7)), (1, .ref (ad2 7))]) C dX4_copyCells_30 rfl 0 rfl (by decide) rfl ?_
      refine g_goto C dX4_copyCells_33 10 (by decide) ?_
      exact g_to [0, 1, 2] (ih10 (by omega)) rfl rfl rfl
  refine g_to [0, 1, 2] (L10 0 (by omega)) rfl rfl rfl
set_option maxHeartbeats 4000000 in
set_option maxRecDepth 100000 in
theorem k_X4_copyCells_X1 (l : Launch) (E : gE) (ad ad2 : Nat → Nat) (S S2 : gS) (hS : okT S) (hS2 : okT S2) : gK l E yX4_copyCells cX4_copyCells 3 none r_X4_copyCells [.ref (ad 13), .ref (ad2 13)] (wT E ad S ++ (wT E ad2 S2)) (none) (wT E ad (setI (setA S 14 (cpI (S.1 14) (S2.1 14) (S2.2 2).toNat)) 2 (S2.2 2)) ++ (wT E ad2 S2)) := by
  refine gK_by RX4 rfl mX4_copyCells [(0, .ref (ad 13)), (1, .ref (ad2 13))] (Nat.le_of_ble_eq_true rfl) rfl ?_
  intro zp ze zs zm za zb zh zc zA zQ C Z
  refine g_aload_n C dX4_copyCells_0 rfl 0 rfl ?_
  refine g_aload_n C dX4_copyCells_1 rfl 1 rfl ?_
  refine g_get (v := .int (iI (S2.2 2))) (T := TX1) (N := 3) (ci := 1) C in_X1 45 rfl rfl 1 (by decide) wd96 (Or.inl rfl) rfl dX4_copyCells_2 rfl ?_
  have f2 := okT_i2 hS2
  refine g_put (T := TX1) (N := 3) (ci := 1) (ws' := wT E ad (setI S 2 (S2.2 2)) ++ (wT E ad2 S2)) C in_X1 tyX1 tyX1_ok nmX1 13 rfl rfl 1 (by decide) wd96 (Or.inl rfl) rfl (ty := .int) (by decide +kernel) rfl rfl (Nat.le_of_ble_eq_true rfl) rfl dX4_copyCells_5 rfl ?_
  refine g_iconst C dX4_copyCells_8 rfl ?_
  refine g_istore_n (lv' := [(2, .int (iI (0))), (0, .ref (ad 13)), (1, .ref (ad2 13))]) C dX4_copyCells_9 rfl (by decide) rfl ?_
  have L10 : ∀ k9 : Nat, k9 ≤ (S2.2 2).toNat → gG E zp l ze r_X4_copyCells zs zm za zb zh zc zA 3 0 0 zQ (wT E ad (setI (setA S 14 (cpI (S.1 14) (S2.1 14) k9)) 2 (S2.2 2)) ++ (wT E ad2 S2)) 10 [(2, .int (iI (k9 : Int))), (0, .ref (ad 13)), (1, .ref (ad2 13))] [] := by
    refine g_up ((S2.2 2).toNat) _ ?_
    intro k9 ih10 hk10
    have ff := okT_i2 hS2
    refine g_iload_n C dX4_copyCells_10 rfl 0 rfl ?_
    refine g_aload_n C dX4_copyCells_11 rfl 1 rfl ?_
    refine g_get (v := .int (iI (S2.2 2))) (T := TX1) (N := 3) (ci := 1) C in_X1 13 rfl rfl 1 (by decide) wd96 (Or.inl rfl) rfl dX4_copyCells_12 rfl ?_
    refine g_icmp_ge C dX4_copyCells_15 36 (by decide) rfl (by omega) (by omega) (fun c15 => ?_) (fun c15 => ?_)
    · skip
      exact z_vret C Z dX4_copyCells_36 rfl (by rw [show (S2.2 2).toNat = k9 from by omega] <;> rfl)
    · skip
      refine g_aload_n C dX4_copyCells_18 rfl 1 rfl ?_
      refine g_get (v := .ref (ad 14)) (T := TX1) (N := 3) (ci := 1) C in_X1 13 rfl rfl 0 (by decide) wd81 (Or.inl rfl) rfl dX4_copyCells_19 rfl ?_
      refine g_iload_n C dX4_copyCells_22 rfl 0 rfl ?_
      refine g_aload_n C dX4_copyCells_23 rfl 2 rfl ?_
      refine g_get (v := .ref (ad2 14)) (T := TX1) (N := 3) (ci := 1) C in_X1 45 rfl rfl 0 (by decide) wd81 (Or.inl rfl) rfl dX4_copyCells_24 rfl ?_
      refine g_iload_n C dX4_copyCells_27 rfl 0 rfl ?_
      refine g_iald (f := (S2.1 14)) C dX4_copyCells_28 rfl 46 rfl (by omega) (by decide) ?_
      have b28 := okT_14 hS2 (k9 : Int)
      refine g_iast (f := (cpI (S.1 14) (S2.1 14) k9)) (ws' := wT E ad (setI (setA S 14 (fset (cpI (S.1 14) (S2.1 14) k9) (k9 : Int) ((S2.1 14) (k9 : Int)))) 2 (S2.2 2)) ++ (wT E ad2 S2)) C dX4_copyCells_29 rfl 14 rfl (by omega) (by decide) rfl ?_
      refine g_iinc (lv' := [(2, .int (iI ((k9 : Int) + 1))), (0, .ref (ad 13)), (1, .ref (ad2 13))]) C dX4_copyCells_30 rfl 0 rfl (by decide) rfl ?_
      refine g_goto C dX4_copyCells_33 10 (by decide) ?_
      exact g_to [0, 1, 2] (ih10 (by omega)) rfl rfl rfl
  refine g_to [0, 1, 2] (L10 0 (by omega)) rfl rfl rfl
set_option maxHeartbeats 4000000 in
set_option maxRecDepth 100000 in
theorem k_X4_copyCells_X6 (l : Launch) (E : gE) (ad ad2 : Nat → Nat) (S S2 : gS) (hS : okT S) (hS2 : okT S2) : gK l E yX4_copyCells cX4_copyCells 3 none r_X4_copyCells [.ref (ad 16), .ref (ad2 16)] (wT E ad S ++ (wT E ad2 S2)) (none) (wT E ad (setI (setA S 17 (cpI (S.1 17) (S2.1 17) (S2.2 3).toNat)) 3 (S2.2 3)) ++ (wT E ad2 S2)) := by
  refine gK_by RX4 rfl mX4_copyCells [(0, .ref (ad 16)), (1, .ref (ad2 16))] (Nat.le_of_ble_eq_true rfl) rfl ?_
  intro zp ze zs zm za zb zh zc zA zQ C Z
  refine g_aload_n C dX4_copyCells_0 rfl 0 rfl ?_
  refine g_aload_n C dX4_copyCells_1 rfl 1 rfl ?_
  refine g_get (v := .int (iI (S2.2 3))) (T := TX6) (N := 5) (ci := 5) C in_X6 48 rfl rfl 1 (by decide) wd96 (Or.inl rfl) rfl dX4_copyCells_2 rfl ?_
  have f2 := okT_i3 hS2
  refine g_put (T := TX6) (N := 5) (ci := 5) (ws' := wT E ad (setI S 3 (S2.2 3)) ++ (wT E ad2 S2)) C in_X6 tyX6 tyX6_ok nmX6 16 rfl rfl 1 (by decide) wd96 (Or.inl rfl) rfl (ty := .int) (by decide +kernel) rfl rfl (Nat.le_of_ble_eq_true rfl) rfl dX4_copyCells_5 rfl ?_
  refine g_iconst C dX4_copyCells_8 rfl ?_
  refine g_istore_n (lv' := [(2, .int (iI (0))), (0, .ref (ad 16)), (1, .ref (ad2 16))]) C dX4_copyCells_9 rfl (by decide) rfl ?_
  have L10 : ∀ k9 : Nat, k9 ≤ (S2.2 3).toNat → gG E zp l ze r_X4_copyCells zs zm za zb zh zc zA 3 0 0 zQ (wT E ad (setI (setA S 17 (cpI (S.1 17) (S2.1 17) k9)) 3 (S2.2 3)) ++ (wT E ad2 S2)) 10 [(2, .int (iI (k9 : Int))), (0, .ref (ad 16)), (1, .ref (ad2 16))] [] := by
    refine g_up ((S2.2 3).toNat) _ ?_
    intro k9 ih10 hk10
    have ff := okT_i3 hS2
    refine g_iload_n C dX4_copyCells_10 rfl 0 rfl ?_
    refine g_aload_n C dX4_copyCells_11 rfl 1 rfl ?_
    refine g_get (v := .int (iI (S2.2 3))) (T := TX6) (N := 5) (ci := 5) C in_X6 16 rfl rfl 1 (by decide) wd96 (Or.inl rfl) rfl dX4_copyCells_12 rfl ?_
    refine g_icmp_ge C dX4_copyCells_15 36 (by decide) rfl (by omega) (by omega) (fun c15 => ?_) (fun c15 => ?_)
    · skip
      exact z_vret C Z dX4_copyCells_36 rfl (by rw [show (S2.2 3).toNat = k9 from by omega] <;> rfl)
    · skip
      refine g_aload_n C dX4_copyCells_18 rfl 1 rfl ?_
      refine g_get (v := .ref (ad 17)) (T := TX6) (N := 5) (ci := 5) C in_X6 16 rfl rfl 0 (by decide) wd81 (Or.inl rfl) rfl dX4_copyCells_19 rfl ?_
      refine g_iload_n C dX4_copyCells_22 rfl 0 rfl ?_
      refine g_aload_n C dX4_copyCells_23 rfl 2 rfl ?_
      refine g_get (v := .ref (ad2 17)) (T := TX6) (N := 5) (ci := 5) C in_X6 48 rfl rfl 0 (by decide) wd81 (Or.inl rfl) rfl dX4_copyCells_24 rfl ?_
      refine g_iload_n C dX4_copyCells_27 rfl 0 rfl ?_
      refine g_iald (f := (S2.1 17)) C dX4_copyCells_28 rfl 49 rfl (by omega) (by decide) ?_
      have b28 := okT_17 hS2 (k9 : Int)
      refine g_iast (f := (cpI (S.1 17) (S2.1 17) k9)) (ws' := wT E ad (setI (setA S 17 (fset (cpI (S.1 17) (S2.1 17) k9) (k9 : Int) ((S2.1 17) (k9 : Int)))) 3 (S2.2 3)) ++ (wT E ad2 S2)) C dX4_copyCells_29 rfl 17 rfl (by omega) (by decide) rfl ?_
      refine g_iinc (lv' := [(2, .int (iI ((k9 : Int) + 1))), (0, .ref (ad 16)), (1, .ref (ad2 16))]) C dX4_copyCells_30 rfl 0 rfl (by decide) rfl ?_
      refine g_goto C dX4_copyCells_33 10 (by decide) ?_
      exact g_to [0, 1, 2] (ih10 (by omega)) rfl rfl rfl
  refine g_to [0, 1, 2] (L10 0 (by omega)) rfl rfl rfl
set_option maxHeartbeats 4000000 in
set_option maxRecDepth 100000 in
theorem k_X4_copyCells_X2 (l : Launch) (E : gE) (ad ad2 : Nat → Nat) (S S2 : gS) (hS : okT S) (hS2 : okT S2) : gK l E yX4_copyCells cX4_copyCells 3 none r_X4_copyCells [.ref (ad 21), .ref (ad2 21)] (wT E ad S ++ (wT E ad2 S2)) (none) (wT E ad (setI (setA S 22 (cpI (S.1 22) (S2.1 22) (S2.2 4).toNat)) 4 (S2.2 4)) ++ (wT E ad2 S2)) := by
  refine gK_by RX4 rfl mX4_copyCells [(0, .ref (ad 21)), (1, .ref (ad2 21))] (Nat.le_of_ble_eq_true rfl) rfl ?_
  intro zp ze zs zm za zb zh zc zA zQ C Z
  refine g_aload_n C dX4_copyCells_0 rfl 0 rfl ?_
  refine g_aload_n C dX4_copyCells_1 rfl 1 rfl ?_
  refine g_get (v := .int (iI (S2.2 4))) (T := TX2) (N := 5) (ci := 2) C in_X2 53 rfl rfl 1 (by decide) wd96 (Or.inl rfl) rfl dX4_copyCells_2 rfl ?_
  have f2 := okT_i4 hS2
  refine g_put (T := TX2) (N := 5) (ci := 2) (ws' := wT E ad (setI S 4 (S2.2 4)) ++ (wT E ad2 S2)) C in_X2 tyX2 tyX2_ok nmX2 21 rfl rfl 1 (by decide) wd96 (Or.inl rfl) rfl (ty := .int) (by decide +kernel) rfl rfl (Nat.le_of_ble_eq_true rfl) rfl dX4_copyCells_5 rfl ?_
  refine g_iconst C dX4_copyCells_8 rfl ?_
  refine g_istore_n (lv' := [(2, .int (iI (0))), (0, .ref (ad 21)), (1, .ref (ad2 21))]) C dX4_copyCells_9 rfl (by decide) rfl ?_
  have L10 : ∀ k9 : Nat, k9 ≤ (S2.2 4).toNat → gG E zp l ze r_X4_copyCells zs zm za zb zh zc zA 3 0 0 zQ (wT E ad (setI (setA S 22 (cpI (S.1 22) (S2.1 22) k9)) 4 (S2.2 4)) ++ (wT E ad2 S2)) 10 [(2, .int (iI (k9 : Int))), (0, .ref (ad 21)), (1, .ref (ad2 21))] [] := by
    refine g_up ((S2.2 4).toNat) _ ?_
    intro k9 ih10 hk10
    have ff := okT_i4 hS2
    refine g_iload_n C dX4_copyCells_10 rfl 0 rfl ?_
    refine g_aload_n C dX4_copyCells_11 rfl 1 rfl ?_
    refine g_get (v := .int (iI (S2.2 4))) (T := TX2) (N := 5) (ci := 2) C in_X2 21 rfl rfl 1 (by decide) wd96 (Or.inl rfl) rfl dX4_copyCells_12 rfl ?_
    refine g_icmp_ge C dX4_copyCells_15 36 (by decide) rfl (by omega) (by omega) (fun c15 => ?_) (fun c15 => ?_)
    · skip
      exact z_vret C Z dX4_copyCells_36 rfl (by rw [show (S2.2 4).toNat = k9 from by omega] <;> rfl)
    · skip
      refine g_aload_n C dX4_copyCells_18 rfl 1 rfl ?_
      refine g_get (v := .ref (ad 22)) (T := TX2) (N := 5) (ci := 2) C in_X2 21 rfl rfl 0 (by decide) wd81 (Or.inl rfl) rfl dX4_copyCells_19 rfl ?_
      refine g_iload_n C dX4_copyCells_22 rfl 0 rfl ?_
      refine g_aload_n C dX4_copyCells_23 rfl 2 rfl ?_
      refine g_get (v := .ref (ad2 22)) (T := TX2) (N := 5) (ci := 2) C in_X2 53 rfl rfl 0 (by decide) wd81 (Or.inl rfl) rfl dX4_copyCells_24 rfl ?_
      refine g_iload_n C dX4_copyCells_27 rfl 0 rfl ?_
      refine g_iald (f := (S2.1 22)) C dX4_copyCells_28 rfl 54 rfl (by omega) (by decide) ?_
      have b28 := okT_22 hS2 (k9 : Int)
      refine g_iast (f := (cpI (S.1 22) (S2.1 22) k9)) (ws' := wT E ad (setI (setA S 22 (fset (cpI (S.1 22) (S2.1 22) k9) (k9 : Int) ((S2.1 22) (k9 : Int)))) 4 (S2.2 4)) ++ (wT E ad2 S2)) C dX4_copyCells_29 rfl 22 rfl (by omega) (by decide) rfl ?_
      refine g_iinc (lv' := [(2, .int (iI ((k9 : Int) + 1))), (0, .ref (ad 21)), (1, .ref (ad2 21))]) C dX4_copyCells_30 rfl 0 rfl (by decide) rfl ?_
      refine g_goto C dX4_copyCells_33 10 (by decide) ?_
      exact g_to [0, 1, 2] (ih10 (by omega)) rfl rfl rfl
  refine g_to [0, 1, 2] (L10 0 (by omega)) rfl rfl rfl
set_option maxHeartbeats 4000000 in
set_option maxRecDepth 100000 in
theorem k_X4_copyCells_X0 (l : Launch) (E : gE) (ad ad2 : Nat → Nat) (S S2 : gS) (hS : okT S) (hS2 : okT S2) : gK l E yX4_copyCells cX4_copyCells 3 none r_X4_copyCells [.ref (ad 25), .ref (ad2 25)] (wT E ad S ++ (wT E ad2 S2)) (none) (wT E ad (setI (setA S 26 (cpI (S.1 26) (S2.1 26) (S2.2 6).toNat)) 6 (S2.2 6)) ++ (wT E ad2 S2)) := by
  refine gK_by RX4 rfl mX4_copyCells [(0, .ref (ad 25)), (1, .ref (ad2 25))] (Nat.le_of_ble_eq_true rfl) rfl ?_
  intro zp ze zs zm za zb zh zc zA zQ C Z
  refine g_aload_n C dX4_copyCells_0 rfl 0 rfl ?_
  refine g_aload_n C dX4_copyCells_1 rfl 1 rfl ?_
  refine g_get (v := .int (iI (S2.2 6))) (T := TX0) (N := 3) (ci := 0) C in_X0 57 rfl rfl 1 (by decide) wd96 (Or.inl rfl) rfl dX4_copyCells_2 rfl ?_
  have f2 := okT_i6 hS2
  refine g_put (T := TX0) (N := 3) (ci := 0) (ws' := wT E ad (setI S 6 (S2.2 6)) ++ (wT E ad2 S2)) C in_X0 tyX0 tyX0_ok nmX0 25 rfl rfl 1 (by decide) wd96 (Or.inl rfl) rfl (ty := .int) (by decide +kernel) rfl rfl (Nat.le_of_ble_eq_true rfl) rfl dX4_copyCells_5 rfl ?_
  refine g_iconst C dX4_copyCells_8 rfl ?_
  refine g_istore_n (lv' := [(2, .int (iI (0))), (0, .ref (ad 25)), (1, .ref (ad2 25))]) C dX4_copyCells_9 rfl (by decide) rfl ?_
  have L10 : ∀ k9 : Nat, k9 ≤ (S2.2 6).toNat → gG E zp l ze r_X4_copyCells zs zm za zb zh zc zA 3 0 0 zQ (wT E ad (setI (setA S 26 (cpI (S.1 26) (S2.1 26) k9)) 6 (S2.2 6)) ++ (wT E ad2 S2)) 10 [(2, .int (iI (k9 : Int))), (0, .ref (ad 25)), (1, .ref (ad2 25))] [] := by
    refine g_up ((S2.2 6).toNat) _ ?_
    intro k9 ih10 hk10
    have ff := okT_i6 hS2
    refine g_iload_n C dX4_copyCells_10 rfl 0 rfl ?_
    refine g_aload_n C dX4_copyCells_11 rfl 1 rfl ?_
    refine g_get (v := .int (iI (S2.2 6))) (T := TX0) (N := 3) (ci := 0) C in_X0 25 rfl rfl 1 (by decide) wd96 (Or.inl rfl) rfl dX4_copyCells_12 rfl ?_
    refine g_icmp_ge C dX4_copyCells_15 36 (by decide) rfl (by omega) (by omega) (fun c15 => ?_) (fun c15 => ?_)
    · skip
      exact z_vret C Z dX4_copyCells_36 rfl (by rw [show (S2.2 6).toNat = k9 from by omega] <;> rfl)
    · skip
      refine g_aload_n C dX4_copyCells_18 rfl 1 rfl ?_
      refine g_get (v := .ref (ad 26)) (T := TX0) (N := 3) (ci := 0) C in_X0 25 rfl rfl 0 (by decide) wd81 (Or.inl rfl) rfl dX4_copyCells_19 rfl ?_
      refine g_iload_n C dX4_copyCells_22 rfl 0 rfl ?_
      refine g_aload_n C dX4_copyCells_23 rfl 2 rfl ?_
      refine g_get (v := .ref (ad2 26)) (T := TX0) (N := 3) (ci := 0) C in_X0 57 rfl rfl 0 (by decide) wd81 (Or.inl rfl) rfl dX4_copyCells_24 rfl ?_
      refine g_iload_n C dX4_copyCells_27 rfl 0 rfl ?_
      refine g_iald (f := (S2.1 26)) C dX4_copyCells_28 rfl 58 rfl (by omega) (by decide) ?_
      have b28 := okT_26 hS2 (k9 : Int)
      refine g_iast (f := (cpI (S.1 26) (S2.1 26) k9)) (ws' := wT E ad (setI (setA S 26 (fset (cpI (S.1 26) (S2.1 26) k9) (k9 : Int) ((S2.1 26) (k9 : Int)))) 6 (S2.2 6)) ++ (wT E ad2 S2)) C dX4_copyCells_29 rfl 26 rfl (by omega) (by decide) rfl ?_
      refine g_iinc (lv' := [(2, .int (iI ((k9 : Int) + 1))), (0, .ref (ad 25)), (1, .ref (ad2 25))]) C dX4_copyCells_30 rfl 0 rfl (by decide) rfl ?_
      refine g_goto C dX4_copyCells_33 10 (by decide) ?_
      exact g_to [0, 1, 2] (ih10 (by omega)) rfl rfl rfl
  refine g_to [0, 1, 2] (L10 0 (by omega)) rfl rfl rfl
abbrev r_X5_copyFrom : Room := { frames := 1, cells := 0, slots := 0, locals := 22 }
set_option maxHeartbeats 4000000 in
set_option maxRecDepth 100000 in
theorem k_X5_copyFrom (l : Launch) (E : gE) (ad ad2 : Nat → Nat) (S S2 : gS) (hS : okT S) (hS2 : okT S2) : gK l E yX5_copyFrom cX5_copyFrom 3 none r_X5_copyFrom [.ref (ad 7), .ref (ad2 7)] (wT E ad S ++ (wT E ad2 S2)) (none) (wT E ad (pumpC S S2) ++ (wT E ad2 S2)) := by
  refine gK_by RX5 rfl mX5_copyFrom [(0, .ref (ad 7)), (1, .ref (ad2 7))] (Nat.le_of_ble_eq_true rfl) rfl ?_
  intro zp ze zs zm za zb zh zc zA zQ C Z
  refine g_aload_n C dX5_copyFrom_0 rfl 0 rfl ?_
  refine g_aload_n C dX5_copyFrom_1 rfl 1 rfl ?_
  refine g_callU0 (As := [.ref (ad2 7)]) (rv := none) (w1 := wT E ad (setI (setA S 8 (cpI (S.1 8) (S2.1 8) ((S2.2 1)).toNat)) 1 (S2.2 1)) ++ (wT E ad2 S2)) (kc' := 0) (ks' := 0) C "FloodWardens$Numbered" RX5 (k_X4_copyCells_X5 l E ad ad2 S S2 hS hS2) mX4_copyCells ⟨wd825, wd824, wd822⟩ rfl (by decide +kernel) wd821 7 4 rfl rfl rfl rfl rfl (Nat.le_of_ble_eq_true rfl) ⟨Nat.le_of_ble_eq_true rfl, Nat.le_of_ble_eq_true rfl⟩ ⟨Nat.le_of_ble_eq_true rfl, Nat.le_of_ble_eq_true rfl⟩ rfl rfl dX5_copyFrom_2 rfl ?_
  refine g_iconst C dX5_copyFrom_5 rfl ?_
  refine g_istore_n (lv' := [(2, .int (iI (0))), (0, .ref (ad 7)), (1, .ref (ad2 7))]) C dX5_copyFrom_6 rfl (by decide) rfl ?_
  have L7 : ∀ k9 : Nat, k9 ≤ (S2.2 1).toNat → gG E zp l ze r_X5_copyFrom zs zm za zb zh zc zA 3 0 0 zQ (wT E ad (setI (setA (setA (setA (setA (setA S 8 (cpI (S.1 8) (S2.1 8) ((S2.2 1)).toNat)) 9 (cpI (S.1 9) (S2.1 9) k9)) 10 (cpI (S.1 10) (S2.1 10) k9)) 11 (cpI (S.1 11) (S2.1 11) k9)) 12 (cpI (S.1 12) (S2.1 12) k9)) 1 (S2.2 1)) ++ (wT E ad2 S2)) 7 [(2, .int (iI (k9 : Int))), (0, .ref (ad 7)), (1, .ref (ad2 7))] [] := by
    refine g_up ((S2.2 1).toNat) _ ?_
    intro k9 ih7 hk7
    have ff := okT_i1 hS2
    refine g_iload_n C dX5_copyFrom_7 rfl 0 rfl ?_
    refine g_aload_n C dX5_copyFrom_8 rfl 1 rfl ?_
    refine g_get (v := .int (iI (S2.2 1))) (T := TX5) (N := 6) (ci := 4) C in_X5 7 rfl rfl 1 (by decide) wd97 (Or.inr wd98) rfl dX5_copyFrom_9 rfl ?_
    refine g_icmp_ge C dX5_copyFrom_12 69 (by decide) rfl (by omega) (by omega) (fun c12 => ?_) (fun c12 => ?_)
    · skip
      exact z_vret C Z dX5_copyFrom_69 rfl (by unfold pumpC; rw [show (S2.2 1).toNat = k9 from by omega] <;> rfl)
    · skip
      refine g_aload_n C dX5_copyFrom_15 rfl 1 rfl ?_
      refine g_get (v := .ref (ad 9)) (T := TX5) (N := 6) (ci := 4) C in_X5 7 rfl rfl 2 (by decide) wd76 (Or.inl rfl) rfl dX5_copyFrom_16 rfl ?_
      refine g_iload_n C dX5_copyFrom_19 rfl 0 rfl ?_
      refine g_aload_n C dX5_copyFrom_20 rfl 2 rfl ?_
      refine g_get (v := .ref (ad2 9)) (T := TX5) (N := 6) (ci := 4) C in_X5 39 rfl rfl 2 (by decide) wd76 (Or.inl rfl) rfl dX5_copyFrom_21 rfl ?_
      refine g_iload_n C dX5_copyFrom_24 rfl 0 rfl ?_
      refine g_iald (f := (S2.1 9)) C dX5_copyFrom_25 rfl 41 rfl (by omega) (by decide) ?_
      have b25 := okT_9 hS2 (k9 : Int)
      refine g_iast (f := (cpI (S.1 9) (S2.1 9) k9)) (ws' := wT E ad (setI (setA (setA (setA (setA (setA S 8 (cpI (S.1 8) (S2.1 8) ((S2.2 1)).toNat)) 9 (fset (cpI (S.1 9) (S2.1 9) k9) (k9 : Int) ((S2.1 9) (k9 : Int)))) 10 (cpI (S.1 10) (S2.1 10) k9)) 11 (cpI (S.1 11) (S2.1 11) k9)) 12 (cpI (S.1 12) (S2.1 12) k9)) 1 (S2.2 1)) ++ (wT E ad2 S2)) C dX5_copyFrom_26 rfl 9 rfl (by omega) (by decide) rfl ?_
      refine g_aload_n C dX5_copyFrom_27 rfl 1 rfl ?_
      refine g_get (v := .ref (ad 10)) (T := TX5) (N := 6) (ci := 4) C in_X5 7 rfl rfl 3 (by decide) wd77 (Or.inl rfl) rfl dX5_copyFrom_28 rfl ?_
      refine g_iload_n C dX5_copyFrom_31 rfl 0 rfl ?_
      refine g_aload_n C dX5_copyFrom_32 rfl 2 rfl ?_
      refine g_get (v := .ref (ad2 10)) (T := TX5) (N := 6) (ci := 4) C in_X5 39 rfl rfl 3 (by decide) wd77 (Or.inl rfl) rfl dX5_copyFrom_33 rfl ?_
      refine g_iload_n C dX5_copyFrom_36 rfl 0 rfl ?_
      refine g_iald (f := (S2.1 10)) C dX5_copyFrom_37 rfl 42 rfl (by omega) (by decide) ?_
      have b37 := okT_10 hS2 (k9 : Int)
      refine g_iast (f := (cpI (S.1 10) (S2.1 10) k9)) (ws' := wT E ad (setI (setA (setA (setA (setA (setA S 8 (cpI (S.1 8) (S2.1 8) ((S2.2 1)).toNat)) 9 (fset (cpI (S.1 9) (S2.1 9) k9) (k9 : Int) ((S2.1 9) (k9 : Int)))) 10 (fset (cpI (S.1 10) (S2.1 10) k9) (k9 : Int) ((S2.1 10) (k9 : Int)))) 11 (cpI (S.1 11) (S2.1 11) k9)) 12 (cpI (S.1 12) (S2.1 12) k9)) 1 (S2.2 1)) ++ (wT E ad2 S2)) C dX5_copyFrom_38 rfl 10 rfl (by omega) (by decide) rfl ?_
      refine g_aload_n C dX5_copyFrom_39 rfl 1 rfl ?_
      refine g_get (v := .ref (ad 11)) (T := TX5) (N := 6) (ci := 4) C in_X5 7 rfl rfl 4 (by decide) wd78 (Or.inl rfl) rfl dX5_copyFrom_40 rfl ?_
      refine g_iload_n C dX5_copyFrom_43 rfl 0 rfl ?_
      refine g_aload_n C dX5_copyFrom_44 rfl 2 rfl ?_
      refine g_get (v := .ref (ad2 11)) (T := TX5) (N := 6) (ci := 4) C in_X5 39 rfl rfl 4 (by decide) wd78 (Or.inl rfl) rfl dX5_copyFrom_45 rfl ?_
      refine g_iload_n C dX5_copyFrom_48 rfl 0 rfl ?_
      refine g_zald (f := (S2.1 11)) C dX5_copyFrom_49 rfl 43 rfl (by omega) (by decide) ?_
      have b49 := okT_11 hS2 (k9 : Int)
      refine g_zast (f := (cpI (S.1 11) (S2.1 11) k9)) (ws' := wT E ad (setI (setA (setA (setA (setA (setA S 8 (cpI (S.1 8) (S2.1 8) ((S2.2 1)).toNat)) 9 (fset (cpI (S.1 9) (S2.1 9) k9) (k9 : Int) ((S2.1 9) (k9 : Int)))) 10 (fset (cpI (S.1 10) (S2.1 10) k9) (k9 : Int) ((S2.1 10) (k9 : Int)))) 11 (fset (cpI (S.1 11) (S2.1 11) k9) (k9 : Int) ((S2.1 11) (k9 : Int)))) 12 (cpI (S.1 12) (S2.1 12) k9)) 1 (S2.2 1)) ++ (wT E ad2 S2)) C dX5_copyFrom_50 rfl 11 rfl (by omega) (by decide) (by omega) rfl ?_
      refine g_aload_n C dX5_copyFrom_51 rfl 1 rfl ?_
      refine g_get (v := .ref (ad 12)) (T := TX5) (N := 6) (ci := 4) C in_X5 7 rfl rfl 5 (by decide) wd80 (Or.inl rfl) rfl dX5_copyFrom_52 rfl ?_
      refine g_iload_n C dX5_copyFrom_55 rfl 0 rfl ?_
      refine g_aload_n C dX5_copyFrom_56 rfl 2 rfl ?_
      refine g_get (v := .ref (ad2 12)) (T := TX5) (N := 6) (ci := 4) C in_X5 39 rfl rfl 5 (by decide) wd80 (Or.inl rfl) rfl dX5_copyFrom_57 rfl ?_
      refine g_iload_n C dX5_copyFrom_60 rfl 0 rfl ?_
      refine g_iald (f := (S2.1 12)) C dX5_copyFrom_61 rfl 44 rfl (by omega) (by decide) ?_
      refine g_iast (f := (cpI (S.1 12) (S2.1 12) k9)) (ws' := wT E ad (setI (setA (setA (setA (setA (setA S 8 (cpI (S.1 8) (S2.1 8) ((S2.2 1)).toNat)) 9 (fset (cpI (S.1 9) (S2.1 9) k9) (k9 : Int) ((S2.1 9) (k9 : Int)))) 10 (fset (cpI (S.1 10) (S2.1 10) k9) (k9 : Int) ((S2.1 10) (k9 : Int)))) 11 (fset (cpI (S.1 11) (S2.1 11) k9) (k9 : Int) ((S2.1 11) (k9 : Int)))) 12 (fset (cpI (S.1 12) (S2.1 12) k9) (k9 : Int) ((S2.1 12) (k9 : Int)))) 1 (S2.2 1)) ++ (wT E ad2 S2)) C dX5_copyFrom_62 rfl 12 rfl (by omega) (by decide) rfl ?_
      refine g_iinc (lv' := [(2, .int (iI ((k9 : Int) + 1))), (0, .ref (ad 7)), (1, .ref (ad2 7))]) C dX5_copyFrom_63 rfl 0 rfl (by decide) rfl ?_
      refine g_goto C dX5_copyFrom_66 7 (by decide) ?_
      exact g_to [0, 1, 2] (ih7 (by omega)) rfl rfl rfl
  refine g_to [0, 1, 2] (L7 0 (by omega)) rfl rfl rfl
abbrev r_X1_copyFrom : Room := { frames := 1, cells := 0, slots := 0, locals := 22 }
set_option maxHeartbeats 4000000 in
set_option maxRecDepth 100000 in
theorem k_X1_copyFrom (l : Launch) (E : gE) (ad ad2 : Nat → Nat) (S S2 : gS) (hS : okT S) (hS2 : okT S2) : gK l E yX1_copyFrom cX1_copyFrom 3 none r_X1_copyFrom [.ref (ad 13), .ref (ad2 13)] (wT E ad S ++ (wT E ad2 S2)) (none) (wT E ad (gaugeC S S2) ++ (wT E ad2 S2)) := by
  refine gK_by RX1 rfl mX1_copyFrom [(0, .ref (ad 13)), (1, .ref (ad2 13))] (Nat.le_of_ble_eq_true rfl) rfl ?_
  intro zp ze zs zm za zb zh zc zA zQ C Z
  refine g_aload_n C dX1_copyFrom_0 rfl 0 rfl ?_
  refine g_aload_n C dX1_copyFrom_1 rfl 1 rfl ?_
  refine g_callU0 (As := [.ref (ad2 13)]) (rv := none) (w1 := wT E ad (setI (setA S 14 (cpI (S.1 14) (S2.1 14) ((S2.2 2)).toNat)) 2 (S2.2 2)) ++ (wT E ad2 S2)) (kc' := 0) (ks' := 0) C "FloodWardens$Numbered" RX1 (k_X4_copyCells_X1 l E ad ad2 S S2 hS hS2) mX4_copyCells ⟨wd825, wd833, wd832⟩ rfl (by decide +kernel) wd831 13 1 rfl rfl rfl rfl rfl (Nat.le_of_ble_eq_true rfl) ⟨Nat.le_of_ble_eq_true rfl, Nat.le_of_ble_eq_true rfl⟩ ⟨Nat.le_of_ble_eq_true rfl, Nat.le_of_ble_eq_true rfl⟩ rfl rfl dX1_copyFrom_2 rfl ?_
  refine g_iconst C dX1_copyFrom_5 rfl ?_
  refine g_istore_n (lv' := [(2, .int (iI (0))), (0, .ref (ad 13)), (1, .ref (ad2 13))]) C dX1_copyFrom_6 rfl (by decide) rfl ?_
  have L7 : ∀ k9 : Nat, k9 ≤ (S2.2 2).toNat → gG E zp l ze r_X1_copyFrom zs zm za zb zh zc zA 3 0 0 zQ (wT E ad (setI (setA (setA S 14 (cpI (S.1 14) (S2.1 14) ((S2.2 2)).toNat)) 15 (cpI (S.1 15) (S2.1 15) k9)) 2 (S2.2 2)) ++ (wT E ad2 S2)) 7 [(2, .int (iI (k9 : Int))), (0, .ref (ad 13)), (1, .ref (ad2 13))] [] := by
    refine g_up ((S2.2 2).toNat) _ ?_
    intro k9 ih7 hk7
    have ff := okT_i2 hS2
    refine g_iload_n C dX1_copyFrom_7 rfl 0 rfl ?_
    refine g_aload_n C dX1_copyFrom_8 rfl 1 rfl ?_
    refine g_get (v := .int (iI (S2.2 2))) (T := TX1) (N := 3) (ci := 1) C in_X1 13 rfl rfl 1 (by decide) wd99 (Or.inr wd100) rfl dX1_copyFrom_9 rfl ?_
    refine g_icmp_ge C dX1_copyFrom_12 33 (by decide) rfl (by omega) (by omega) (fun c12 => ?_) (fun c12 => ?_)
    · skip
      exact z_vret C Z dX1_copyFrom_33 rfl (by unfold gaugeC; rw [show (S2.2 2).toNat = k9 from by omega] <;> rfl)
    · skip
      refine g_aload_n C dX1_copyFrom_15 rfl 1 rfl ?_
      refine g_get (v := .ref (ad 15)) (T := TX1) (N := 3) (ci := 1) C in_X1 13 rfl rfl 2 (by decide) wd133 (Or.inl rfl) rfl dX1_copyFrom_16 rfl ?_
      refine g_iload_n C dX1_copyFrom_19 rfl 0 rfl ?_
      refine g_aload_n C dX1_copyFrom_20 rfl 2 rfl ?_
      refine g_get (v := .ref (ad2 15)) (T := TX1) (N := 3) (ci := 1) C in_X1 45 rfl rfl 2 (by decide) wd133 (Or.inl rfl) rfl dX1_copyFrom_21 rfl ?_
      refine g_iload_n C dX1_copyFrom_24 rfl 0 rfl ?_
      refine g_iald (f := (S2.1 15)) C dX1_copyFrom_25 rfl 47 rfl (by omega) (by decide) ?_
      have b25 := okT_15 hS2 (k9 : Int)
      refine g_iast (f := (cpI (S.1 15) (S2.1 15) k9)) (ws' := wT E ad (setI (setA (setA S 14 (cpI (S.1 14) (S2.1 14) ((S2.2 2)).toNat)) 15 (fset (cpI (S.1 15) (S2.1 15) k9) (k9 : Int) ((S2.1 15) (k9 : Int)))) 2 (S2.2 2)) ++ (wT E ad2 S2)) C dX1_copyFrom_26 rfl 15 rfl (by omega) (by decide) rfl ?_
      refine g_iinc (lv' := [(2, .int (iI ((k9 : Int) + 1))), (0, .ref (ad 13)), (1, .ref (ad2 13))]) C dX1_copyFrom_27 rfl 0 rfl (by decide) rfl ?_
      refine g_goto C dX1_copyFrom_30 7 (by decide) ?_
      exact g_to [0, 1, 2] (ih7 (by omega)) rfl rfl rfl
  refine g_to [0, 1, 2] (L7 0 (by omega)) rfl rfl rfl
abbrev r_X6_copyFrom : Room := { frames := 1, cells := 0, slots := 0, locals := 22 }
set_option maxHeartbeats 4000000 in
set_option maxRecDepth 100000 in
theorem k_X6_copyFrom (l : Launch) (E : gE) (ad ad2 : Nat → Nat) (S S2 : gS) (hS : okT S) (hS2 : okT S2) : gK l E yX6_copyFrom cX6_copyFrom 3 none r_X6_copyFrom [.ref (ad 16), .ref (ad2 16)] (wT E ad S ++ (wT E ad2 S2)) (none) (wT E ad (refC S S2) ++ (wT E ad2 S2)) := by
  refine gK_by RX6 rfl mX6_copyFrom [(0, .ref (ad 16)), (1, .ref (ad2 16))] (Nat.le_of_ble_eq_true rfl) rfl ?_
  intro zp ze zs zm za zb zh zc zA zQ C Z
  refine g_aload_n C dX6_copyFrom_0 rfl 0 rfl ?_
  refine g_aload_n C dX6_copyFrom_1 rfl 1 rfl ?_
  refine g_callU0 (As := [.ref (ad2 16)]) (rv := none) (w1 := wT E ad (setI (setA S 17 (cpI (S.1 17) (S2.1 17) ((S2.2 3)).toNat)) 3 (S2.2 3)) ++ (wT E ad2 S2)) (kc' := 0) (ks' := 0) C "FloodWardens$Numbered" RX6 (k_X4_copyCells_X6 l E ad ad2 S S2 hS hS2) mX4_copyCells ⟨wd825, wd840, wd839⟩ rfl (by decide +kernel) wd838 16 5 rfl rfl rfl rfl rfl (Nat.le_of_ble_eq_true rfl) ⟨Nat.le_of_ble_eq_true rfl, Nat.le_of_ble_eq_true rfl⟩ ⟨Nat.le_of_ble_eq_true rfl, Nat.le_of_ble_eq_true rfl⟩ rfl rfl dX6_copyFrom_2 rfl ?_
  refine g_iconst C dX6_copyFrom_5 rfl ?_
  refine g_istore_n (lv' := [(2, .int (iI (0))), (0, .ref (ad 16)), (1, .ref (ad2 16))]) C dX6_copyFrom_6 rfl (by decide) rfl ?_
  have L7 : ∀ k9 : Nat, k9 ≤ (S2.2 3).toNat → gG E zp l ze r_X6_copyFrom zs zm za zb zh zc zA 3 0 0 zQ (wT E ad (setI (setA (setA (setA (setA S 17 (cpI (S.1 17) (S2.1 17) ((S2.2 3)).toNat)) 18 (cpI (S.1 18) (S2.1 18) k9)) 19 (cpI (S.1 19) (S2.1 19) k9)) 20 (cpI (S.1 20) (S2.1 20) k9)) 3 (S2.2 3)) ++ (wT E ad2 S2)) 7 [(2, .int (iI (k9 : Int))), (0, .ref (ad 16)), (1, .ref (ad2 16))] [] := by
    refine g_up ((S2.2 3).toNat) _ ?_
    intro k9 ih7 hk7
    have ff := okT_i3 hS2
    refine g_iload_n C dX6_copyFrom_7 rfl 0 rfl ?_
    refine g_aload_n C dX6_copyFrom_8 rfl 1 rfl ?_
    refine g_get (v := .int (iI (S2.2 3))) (T := TX6) (N := 5) (ci := 5) C in_X6 16 rfl rfl 1 (by decide) wd101 (Or.inr wd102) rfl dX6_copyFrom_9 rfl ?_
    refine g_icmp_ge C dX6_copyFrom_12 57 (by decide) rfl (by omega) (by omega) (fun c12 => ?_) (fun c12 => ?_)
    · skip
      exact z_vret C Z dX6_copyFrom_57 rfl (by unfold refC; rw [show (S2.2 3).toNat = k9 from by omega] <;> rfl)
    · skip
      refine g_aload_n C dX6_copyFrom_15 rfl 1 rfl ?_
      refine g_get (v := .ref (ad 18)) (T := TX6) (N := 5) (ci := 5) C in_X6 16 rfl rfl 2 (by decide) wd145 (Or.inl rfl) rfl dX6_copyFrom_16 rfl ?_
      refine g_iload_n C dX6_copyFrom_19 rfl 0 rfl ?_
      refine g_aload_n C dX6_copyFrom_20 rfl 2 rfl ?_
      refine g_get (v := .ref (ad2 18)) (T := TX6) (N := 5) (ci := 5) C in_X6 48 rfl rfl 2 (by decide) wd145 (Or.inl rfl) rfl dX6_copyFrom_21 rfl ?_
      refine g_iload_n C dX6_copyFrom_24 rfl 0 rfl ?_
      refine g_iald (f := (S2.1 18)) C dX6_copyFrom_25 rfl 50 rfl (by omega) (by decide) ?_
      have b25 := okT_18 hS2 (k9 : Int)
      refine g_iast (f := (cpI (S.1 18) (S2.1 18) k9)) (ws' := wT E ad (setI (setA (setA (setA (setA S 17 (cpI (S.1 17) (S2.1 17) ((S2.2 3)).toNat)) 18 (fset (cpI (S.1 18) (S2.1 18) k9) (k9 : Int) ((S2.1 18) (k9 : Int)))) 19 (cpI (S.1 19) (S2.1 19) k9)) 20 (cpI (S.1 20) (S2.1 20) k9)) 3 (S2.2 3)) ++ (wT E ad2 S2)) C dX6_copyFrom_26 rfl 18 rfl (by omega) (by decide) rfl ?_
      refine g_aload_n C dX6_copyFrom_27 rfl 1 rfl ?_
      refine g_get (v := .ref (ad 19)) (T := TX6) (N := 5) (ci := 5) C in_X6 16 rfl rfl 3 (by decide) wd146 (Or.inl rfl) rfl dX6_copyFrom_28 rfl ?_
      refine g_iload_n C dX6_copyFrom_31 rfl 0 rfl ?_
      refine g_aload_n C dX6_copyFrom_32 rfl 2 rfl ?_
      refine g_get (v := .ref (ad2 19)) (T := TX6) (N := 5) (ci := 5) C in_X6 48 rfl rfl 3 (by decide) wd146 (Or.inl rfl) rfl dX6_copyFrom_33 rfl ?_
      refine g_iload_n C dX6_copyFrom_36 rfl 0 rfl ?_
      refine g_iald (f := (S2.1 19)) C dX6_copyFrom_37 rfl 51 rfl (by omega) (by decide) ?_
      have b37 := okT_19 hS2 (k9 : Int)
      refine g_iast (f := (cpI (S.1 19) (S2.1 19) k9)) (ws' := wT E ad (setI (setA (setA (setA (setA S 17 (cpI (S.1 17) (S2.1 17) ((S2.2 3)).toNat)) 18 (fset (cpI (S.1 18) (S2.1 18) k9) (k9 : Int) ((S2.1 18) (k9 : Int)))) 19 (fset (cpI (S.1 19) (S2.1 19) k9) (k9 : Int) ((S2.1 19) (k9 : Int)))) 20 (cpI (S.1 20) (S2.1 20) k9)) 3 (S2.2 3)) ++ (wT E ad2 S2)) C dX6_copyFrom_38 rfl 19 rfl (by omega) (by decide) rfl ?_
      refine g_aload_n C dX6_copyFrom_39 rfl 1 rfl ?_
      refine g_get (v := .ref (ad 20)) (T := TX6) (N := 5) (ci := 5) C in_X6 16 rfl rfl 4 (by decide) wd147 (Or.inl rfl) rfl dX6_copyFrom_40 rfl ?_
      refine g_iload_n C dX6_copyFrom_43 rfl 0 rfl ?_
      refine g_aload_n C dX6_copyFrom_44 rfl 2 rfl ?_
      refine g_get (v := .ref (ad2 20)) (T := TX6) (N := 5) (ci := 5) C in_X6 48 rfl rfl 4 (by decide) wd147 (Or.inl rfl) rfl dX6_copyFrom_45 rfl ?_
      refine g_iload_n C dX6_copyFrom_48 rfl 0 rfl ?_
      refine g_iald (f := (S2.1 20)) C dX6_copyFrom_49 rfl 52 rfl (by omega) (by decide) ?_
      refine g_iast (f := (cpI (S.1 20) (S2.1 20) k9)) (ws' := wT E ad (setI (setA (setA (setA (setA S 17 (cpI (S.1 17) (S2.1 17) ((S2.2 3)).toNat)) 18 (fset (cpI (S.1 18) (S2.1 18) k9) (k9 : Int) ((S2.1 18) (k9 : Int)))) 19 (fset (cpI (S.1 19) (S2.1 19) k9) (k9 : Int) ((S2.1 19) (k9 : Int)))) 20 (fset (cpI (S.1 20) (S2.1 20) k9) (k9 : Int) ((S2.1 20) (k9 : Int)))) 3 (S2.2 3)) ++ (wT E ad2 S2)) C dX6_copyFrom_50 rfl 20 rfl (by omega) (by decide) rfl ?_
      refine g_iinc (lv' := [(2, .int (iI ((k9 : Int) + 1))), (0, .ref (ad 16)), (1, .ref (ad2 16))]) C dX6_copyFrom_51 rfl 0 rfl (by decide) rfl ?_
      refine g_goto C dX6_copyFrom_54 7 (by decide) ?_
      exact g_to [0, 1, 2] (ih7 (by omega)) rfl rfl rfl
  refine g_to [0, 1, 2] (L7 0 (by omega)) rfl rfl rfl
abbrev r_X0_copyFrom : Room := { frames := 1, cells := 0, slots := 0, locals := 22 }
set_option maxHeartbeats 4000000 in
set_option maxRecDepth 100000 in
theorem k_X0_copyFrom (l : Launch) (E : gE) (ad ad2 : Nat → Nat) (S S2 : gS) (hS : okT S) (hS2 : okT S2) : gK l E yX0_copyFrom cX0_copyFrom 3 none r_X0_copyFrom [.ref (ad 25), .ref (ad2 25)] (wT E ad S ++ (wT E ad2 S2)) (none) (wT E ad (claC S S2) ++ (wT E ad2 S2)) := by
  refine gK_by RX0 rfl mX0_copyFrom [(0, .ref (ad 25)), (1, .ref (ad2 25))] (Nat.le_of_ble_eq_true rfl) rfl ?_
  intro zp ze zs zm za zb zh zc zA zQ C Z
  refine g_aload_n C dX0_copyFrom_0 rfl 0 rfl ?_
  refine g_aload_n C dX0_copyFrom_1 rfl 1 rfl ?_
  refine g_callU0 (As := [.ref (ad2 25)]) (rv := none) (w1 := wT E ad (setI (setA S 26 (cpI (S.1 26) (S2.1 26) ((S2.2 6)).toNat)) 6 (S2.2 6)) ++ (wT E ad2 S2)) (kc' := 0) (ks' := 0) C "FloodWardens$Numbered" RX0 (k_X4_copyCells_X0 l E ad ad2 S S2 hS hS2) mX4_copyCells ⟨wd825, wd854, wd853⟩ rfl (by decide +kernel) wd852 25 0 rfl rfl rfl rfl rfl (Nat.le_of_ble_eq_true rfl) ⟨Nat.le_of_ble_eq_true rfl, Nat.le_of_ble_eq_true rfl⟩ ⟨Nat.le_of_ble_eq_true rfl, Nat.le_of_ble_eq_true rfl⟩ rfl rfl dX0_copyFrom_2 rfl ?_
  refine g_iconst C dX0_copyFrom_5 rfl ?_
  refine g_istore_n (lv' := [(2, .int (iI (0))), (0, .ref (ad 25)), (1, .ref (ad2 25))]) C dX0_copyFrom_6 rfl (by decide) rfl ?_
  have L7 : ∀ k9 : Nat, k9 ≤ (S2.2 6).toNat → gG E zp l ze r_X0_copyFrom zs zm za zb zh zc zA 3 0 0 zQ (wT E ad (setI (setA (setA S 26 (cpI (S.1 26) (S2.1 26) ((S2.2 6)).toNat)) 27 (cpI (S.1 27) (S2.1 27) k9)) 6 (S2.2 6)) ++ (wT E ad2 S2)) 7 [(2, .int (iI (k9 : Int))), (0, .ref (ad 25)), (1, .ref (ad2 25))] [] := by
    refine g_up ((S2.2 6).toNat) _ ?_
    intro k9 ih7 hk7
    have ff := okT_i6 hS2
    refine g_iload_n C dX0_copyFrom_7 rfl 0 rfl ?_
    refine g_aload_n C dX0_copyFrom_8 rfl 1 rfl ?_
    refine g_get (v := .int (iI (S2.2 6))) (T := TX0) (N := 3) (ci := 0) C in_X0 25 rfl rfl 1 (by decide) wd105 (Or.inr wd106) rfl dX0_copyFrom_9 rfl ?_
    refine g_icmp_ge C dX0_copyFrom_12 33 (by decide) rfl (by omega) (by omega) (fun c12 => ?_) (fun c12 => ?_)
    · skip
      exact z_vret C Z dX0_copyFrom_33 rfl (by unfold claC; rw [show (S2.2 6).toNat = k9 from by omega] <;> rfl)
    · skip
      refine g_aload_n C dX0_copyFrom_15 rfl 1 rfl ?_
      refine g_get (v := .ref (ad 27)) (T := TX0) (N := 3) (ci := 0) C in_X0 25 rfl rfl 2 (by decide) wd185 (Or.inl rfl) rfl dX0_copyFrom_16 rfl ?_
      refine g_iload_n C dX0_copyFrom_19 rfl 0 rfl ?_
      refine g_aload_n C dX0_copyFrom_20 rfl 2 rfl ?_
      refine g_get (v := .ref (ad2 27)) (T := TX0) (N := 3) (ci := 0) C in_X0 57 rfl rfl 2 (by decide) wd185 (Or.inl rfl) rfl dX0_copyFrom_21 rfl ?_
      refine g_iload_n C dX0_copyFrom_24 rfl 0 rfl ?_
      refine g_iald (f := (S2.1 27)) C dX0_copyFrom_25 rfl 59 rfl (by omega) (by decide) ?_
      refine g_iast (f := (cpI (S.1 27) (S2.1 27) k9)) (ws' := wT E ad (setI (setA (setA S 26 (cpI (S.1 26) (S2.1 26) ((S2.2 6)).toNat)) 27 (fset (cpI (S.1 27) (S2.1 27) k9) (k9 : Int) ((S2.1 27) (k9 : Int)))) 6 (S2.2 6)) ++ (wT E ad2 S2)) C dX0_copyFrom_26 rfl 27 rfl (by omega) (by decide) rfl ?_
      refine g_iinc (lv' := [(2, .int (iI ((k9 : Int) + 1))), (0, .ref (ad 25)), (1, .ref (ad2 25))]) C dX0_copyFrom_27 rfl 0 rfl (by decide) rfl ?_
      refine g_goto C dX0_copyFrom_30 7 (by decide) ?_
      exact g_to [0, 1, 2] (ih7 (by omega)) rfl rfl rfl
  refine g_to [0, 1, 2] (L7 0 (by omega)) rfl rfl rfl
abbrev r_X2_copyFrom : Room := { frames := 1, cells := 0, slots := 0, locals := 22 }
set_option maxHeartbeats 4000000 in
set_option maxRecDepth 100000 in
theorem k_X2_copyFrom (l : Launch) (E : gE) (ad ad2 : Nat → Nat) (S S2 : gS) (hS : okT S) (hS2 : okT S2) : gK l E yX2_copyFrom cX2_copyFrom 3 none r_X2_copyFrom [.ref (ad 21), .ref (ad2 21)] (wT E ad S ++ (wT E ad2 S2)) (none) (wT E ad (houC S S2) ++ (wT E ad2 S2)) := by
  refine gK_by RX2 rfl mX2_copyFrom [(0, .ref (ad 21)), (1, .ref (ad2 21))] (Nat.le_of_ble_eq_true rfl) rfl ?_
  intro zp ze zs zm za zb zh zc zA zQ C Z
  refine g_aload_n C dX2_copyFrom_0 rfl 0 rfl ?_
  refine g_aload_n C dX2_copyFrom_1 rfl 1 rfl ?_
  refine g_callU0 (As := [.ref (ad2 21)]) (rv := none) (w1 := wT E ad (setI (setA S 22 (cpI (S.1 22) (S2.1 22) ((S2.2 4)).toNat)) 4 (S2.2 4)) ++ (wT E ad2 S2)) (kc' := 0) (ks' := 0) C "FloodWardens$Numbered" RX2 (k_X4_copyCells_X2 l E ad ad2 S S2 hS hS2) mX4_copyCells ⟨wd825, wd847, wd846⟩ rfl (by decide +kernel) wd845 21 2 rfl rfl rfl rfl rfl (Nat.le_of_ble_eq_true rfl) ⟨Nat.le_of_ble_eq_true rfl, Nat.le_of_ble_eq_true rfl⟩ ⟨Nat.le_of_ble_eq_true rfl, Nat.le_of_ble_eq_true rfl⟩ rfl rfl dX2_copyFrom_2 rfl ?_
  refine g_aload_n C dX2_copyFrom_5 rfl 0 rfl ?_
  refine g_aload_n C dX2_copyFrom_6 rfl 1 rfl ?_
  refine g_get (v := .int (iI (S2.2 5))) (T := TX2) (N := 5) (ci := 2) C in_X2 53 rfl rfl 4 (by decide) wd167 (Or.inl rfl) rfl dX2_copyFrom_7 rfl ?_
  refine g_put (T := TX2) (N := 5) (ci := 2) (ws' := wT E ad (setI (setI (setA S 22 (cpI (S.1 22) (S2.1 22) ((S2.2 4)).toNat)) 4 (S2.2 4)) 5 (S2.2 5)) ++ (wT E ad2 S2)) C in_X2 tyX2 tyX2_ok nmX2 21 rfl rfl 4 (by decide) wd167 (Or.inl rfl) rfl (ty := .int) (by decide +kernel) rfl rfl (Nat.le_of_ble_eq_true rfl) rfl dX2_copyFrom_10 rfl ?_
  refine g_iconst C dX2_copyFrom_13 rfl ?_
  refine g_istore_n (lv' := [(2, .int (iI (0))), (0, .ref (ad 21)), (1, .ref (ad2 21))]) C dX2_copyFrom_14 rfl (by decide) rfl ?_
  have L15 : ∀ k9 : Nat, k9 ≤ (S2.2 4).toNat → gG E zp l ze r_X2_copyFrom zs zm za zb zh zc zA 3 0 0 zQ (wT E ad (setI (setI (setA (setA (setA S 22 (cpI (S.1 22) (S2.1 22) ((S2.2 4)).toNat)) 23 (cpI (S.1 23) (S2.1 23) k9)) 24 (cpI (S.1 24) (S2.1 24) k9)) 4 (S2.2 4)) 5 (S2.2 5)) ++ (wT E ad2 S2)) 15 [(2, .int (iI (k9 : Int))), (0, .ref (ad 21)), (1, .ref (ad2 21))] [] := by
    refine g_up ((S2.2 4).toNat) _ ?_
    intro k9 ih15 hk15
    have ff := okT_i4 hS2
    refine g_iload_n C dX2_copyFrom_15 rfl 0 rfl ?_
    refine g_aload_n C dX2_copyFrom_16 rfl 1 rfl ?_
    refine g_get (v := .int (iI (S2.2 4))) (T := TX2) (N := 5) (ci := 2) C in_X2 21 rfl rfl 1 (by decide) wd103 (Or.inr wd104) rfl dX2_copyFrom_17 rfl ?_
    refine g_icmp_ge C dX2_copyFrom_20 53 (by decide) rfl (by omega) (by omega) (fun c20 => ?_) (fun c20 => ?_)
    · skip
      exact z_vret C Z dX2_copyFrom_53 rfl (by unfold houC; rw [show (S2.2 4).toNat = k9 from by omega] <;> rfl)
    · skip
      refine g_aload_n C dX2_copyFrom_23 rfl 1 rfl ?_
      refine g_get (v := .ref (ad 23)) (T := TX2) (N := 5) (ci := 2) C in_X2 21 rfl rfl 2 (by decide) wd163 (Or.inl rfl) rfl dX2_copyFrom_24 rfl ?_
      refine g_iload_n C dX2_copyFrom_27 rfl 0 rfl ?_
      refine g_aload_n C dX2_copyFrom_28 rfl 2 rfl ?_
      refine g_get (v := .ref (ad2 23)) (T := TX2) (N := 5) (ci := 2) C in_X2 53 rfl rfl 2 (by decide) wd163 (Or.inl rfl) rfl dX2_copyFrom_29 rfl ?_
      refine g_iload_n C dX2_copyFrom_32 rfl 0 rfl ?_
      refine g_iald (f := (S2.1 23)) C dX2_copyFrom_33 rfl 55 rfl (by omega) (by decide) ?_
      have b33 := okT_23 hS2 (k9 : Int)
      refine g_iast (f := (cpI (S.1 23) (S2.1 23) k9)) (ws' := wT E ad (setI (setI (setA (setA (setA S 22 (cpI (S.1 22) (S2.1 22) ((S2.2 4)).toNat)) 23 (fset (cpI (S.1 23) (S2.1 23) k9) (k9 : Int) ((S2.1 23) (k9 : Int)))) 24 (cpI (S.1 24) (S2.1 24) k9)) 4 (S2.2 4)) 5 (S2.2 5)) ++ (wT E ad2 S2)) C dX2_copyFrom_34 rfl 23 rfl (by omega) (by decide) rfl ?_
      refine g_aload_n C dX2_copyFrom_35 rfl 1 rfl ?_
      refine g_get (v := .ref (ad 24)) (T := TX2) (N := 5) (ci := 2) C in_X2 21 rfl rfl 3 (by decide) wd165 (Or.inl rfl) rfl dX2_copyFrom_36 rfl ?_
      refine g_iload_n C dX2_copyFrom_39 rfl 0 rfl ?_
      refine g_aload_n C dX2_copyFrom_40 rfl 2 rfl ?_
      refine g_get (v := .ref (ad2 24)) (T := TX2) (N := 5) (ci := 2) C in_X2 53 rfl rfl 3 (by decide) wd165 (Or.inl rfl) rfl dX2_copyFrom_41 rfl ?_
      refine g_iload_n C dX2_copyFrom_44 rfl 0 rfl ?_
      refine g_iald (f := (S2.1 24)) C dX2_copyFrom_45 rfl 56 rfl (by omega) (by decide) ?_
      have b45 := okT_24 hS2 (k9 : Int)
      refine g_iast (f := (cpI (S.1 24) (S2.1 24) k9)) (ws' := wT E ad (setI (setI (setA (setA (setA S 22 (cpI (S.1 22) (S2.1 22) ((S2.2 4)).toNat)) 23 (fset (cpI (S.1 23) (S2.1 23) k9) (k9 : Int) ((S2.1 23) (k9 : Int)))) 24 (fset (cpI (S.1 24) (S2.1 24) k9) (k9 : Int) ((S2.1 24) (k9 : Int)))) 4 (S2.2 4)) 5 (S2.2 5)) ++ (wT E ad2 S2)) C dX2_copyFrom_46 rfl 24 rfl (by omega) (by decide) rfl ?_
      refine g_iinc (lv' := [(2, .int (iI ((k9 : Int) + 1))), (0, .ref (ad 21)), (1, .ref (ad2 21))]) C dX2_copyFrom_47 rfl 0 rfl (by decide) rfl ?_
      refine g_goto C dX2_copyFrom_50 15 (by decide) ?_
      exact g_to [0, 1, 2] (ih15 (by omega)) rfl rfl rfl
  refine g_to [0, 1, 2] (L15 0 (by omega)) rfl rfl rfl
abbrev r_X7_copyFrom : Room := { frames := 2, cells := 0, slots := 0, locals := 44 }
set_option maxHeartbeats 4000000 in
set_option maxRecDepth 100000 in
theorem k_X7_copyFrom (l : Launch) (E : gE) (ad ad2 : Nat → Nat) (S S2 : gS) (hS : okT S) (hS2 : okT S2) : gK l E yX7_copyFrom cX7_copyFrom 2 none r_X7_copyFrom [.ref (ad 0), .ref (ad2 0)] (wT E ad S ++ (wT E ad2 S2)) (none) (wT E ad (copyS S S2) ++ (wT E ad2 S2)) := by
  refine gK_by RX7 rfl mX7_copyFrom [(0, .ref (ad 0)), (1, .ref (ad2 0))] (Nat.le_of_ble_eq_true rfl) rfl ?_
  intro zp ze zs zm za zb zh zc zA zQ C Z
  refine g_aload_n C dX7_copyFrom_0 rfl 0 rfl ?_
  refine g_aload_n C dX7_copyFrom_1 rfl 1 rfl ?_
  refine g_get (v := .int (iI (S2.2 0))) (T := TX7) (N := 8) (ci := 6) C in_X7 32 rfl rfl 0 (by decide) wd213 (Or.inl rfl) rfl dX7_copyFrom_2 rfl ?_
  refine g_put (T := TX7) (N := 8) (ci := 6) (ws' := wT E ad (setI S 0 (S2.2 0)) ++ (wT E ad2 S2)) C in_X7 tyX7 tyX7_ok nmX7 0 rfl rfl 0 (by decide) wd213 (Or.inl rfl) rfl (ty := .int) (by decide +kernel) rfl rfl (Nat.le_of_ble_eq_true rfl) rfl dX7_copyFrom_5 rfl ?_
  refine g_aload_n C dX7_copyFrom_8 rfl 0 rfl ?_
  refine g_get (v := .ref (ad 1)) (T := TX7) (N := 8) (ci := 6) C in_X7 0 rfl rfl 1 (by decide) wd214 (Or.inl rfl) rfl dX7_copyFrom_9 rfl ?_
  refine g_aload_n C dX7_copyFrom_12 rfl 1 rfl ?_
  refine g_get (v := .ref (ad2 1)) (T := TX7) (N := 8) (ci := 6) C in_X7 32 rfl rfl 1 (by decide) wd214 (Or.inl rfl) rfl dX7_copyFrom_13 rfl ?_
  refine g_callV0 (As := [.ref (ad2 1)]) (rv := none) (w1 := wT E ad (landC (setI S 0 (S2.2 0)) S2) ++ (wT E ad2 S2)) (kc' := 0) (ks' := 0) C (k_X3_copyFrom l E ad ad2 (setI S 0 (S2.2 0)) S2 (okT_j0 (S := S) hS) hS2) mX3_copyFrom iX3_copyFrom wd813 1 3 rfl rfl rfl rfl rfl (Nat.le_of_ble_eq_true rfl) ⟨Nat.le_of_ble_eq_true rfl, Nat.le_of_ble_eq_true rfl⟩ ⟨Nat.le_of_ble_eq_true rfl, Nat.le_of_ble_eq_true rfl⟩ rfl rfl dX7_copyFrom_16 rfl ?_
  refine g_aload_n C dX7_copyFrom_19 rfl 0 rfl ?_
  refine g_get (v := .ref (ad 7)) (T := TX7) (N := 8) (ci := 6) C in_X7 0 rfl rfl 2 (by decide) wd216 (Or.inl rfl) rfl dX7_copyFrom_20 rfl ?_
  refine g_aload_n C dX7_copyFrom_23 rfl 1 rfl ?_
  refine g_get (v := .ref (ad2 7)) (T := TX7) (N := 8) (ci := 6) C in_X7 32 rfl rfl 2 (by decide) wd216 (Or.inl rfl) rfl dX7_copyFrom_24 rfl ?_
  refine g_callV0 (As := [.ref (ad2 7)]) (rv := none) (w1 := wT E ad (pumpC (landC (setI S 0 (S2.2 0)) S2) S2) ++ (wT E ad2 S2)) (kc' := 0) (ks' := 0) C (k_X5_copyFrom l E ad ad2 (landC (setI S 0 (S2.2 0)) S2) S2 (okT_landC (S := (setI S 0 (S2.2 0))) (T := S2) (okT_j0 (S := S) hS) hS2) hS2) mX5_copyFrom iX5_copyFrom wd817 7 4 rfl rfl rfl rfl rfl (Nat.le_of_ble_eq_true rfl) ⟨Nat.le_of_ble_eq_true rfl, Nat.le_of_ble_eq_true rfl⟩ ⟨Nat.le_of_ble_eq_true rfl, Nat.le_of_ble_eq_true rfl⟩ rfl rfl dX7_copyFrom_27 rfl ?_
  refine g_aload_n C dX7_copyFrom_30 rfl 0 rfl ?_
  refine g_get (v := .ref (ad 13)) (T := TX7) (N := 8) (ci := 6) C in_X7 0 rfl rfl 3 (by decide) wd218 (Or.inl rfl) rfl dX7_copyFrom_31 rfl ?_
  refine g_aload_n C dX7_copyFrom_34 rfl 1 rfl ?_
  refine g_get (v := .ref (ad2 13)) (T := TX7) (N := 8) (ci := 6) C in_X7 32 rfl rfl 3 (by decide) wd218 (Or.inl rfl) rfl dX7_copyFrom_35 rfl ?_
  refine g_callV0 (As := [.ref (ad2 13)]) (rv := none) (w1 := wT E ad (gaugeC (pumpC (landC (setI S 0 (S2.2 0)) S2) S2) S2) ++ (wT E ad2 S2)) (kc' := 0) (ks' := 0) C (k_X1_copyFrom l E ad ad2 (pumpC (landC (setI S 0 (S2.2 0)) S2) S2) S2 (okT_pumpC (S := (landC (setI S 0 (S2.2 0)) S2)) (T := S2) (okT_landC (S := (setI S 0 (S2.2 0))) (T := S2) (okT_j0 (S := S) hS) hS2) hS2) hS2) mX1_copyFrom iX1_copyFrom wd827 13 1 rfl rfl rfl rfl rfl (Nat.le_of_ble_eq_true rfl) ⟨Nat.le_of_ble_eq_true rfl, Nat.le_of_ble_eq_true rfl⟩ ⟨Nat.le_of_ble_eq_true rfl, Nat.le_of_ble_eq_true rfl⟩ rfl rfl dX7_copyFrom_38 rfl ?_
  refine g_aload_n C dX7_copyFrom_41 rfl 0 rfl ?_
  refine g_get (v := .ref (ad 16)) (T := TX7) (N := 8) (ci := 6) C in_X7 0 rfl rfl 4 (by decide) wd220 (Or.inl rfl) rfl dX7_copyFrom_42 rfl ?_
  refine g_aload_n C dX7_copyFrom_45 rfl 1 rfl ?_
  refine g_get (v := .ref (ad2 16)) (T := TX7) (N := 8) (ci := 6) C in_X7 32 rfl rfl 4 (by decide) wd220 (Or.inl rfl) rfl dX7_copyFrom_46 rfl ?_
  refine g_callV0 (As := [.ref (ad2 16)]) (rv := none) (w1 := wT E ad (refC (gaugeC (pumpC (landC (setI S 0 (S2.2 0)) S2) S2) S2) S2) ++ (wT E ad2 S2)) (kc' := 0) (ks' := 0) C (k_X6_copyFrom l E ad ad2 (gaugeC (pumpC (landC (setI S 0 (S2.2 0)) S2) S2) S2) S2 (okT_gaugeC (S := (pumpC (landC (setI S 0 (S2.2 0)) S2) S2)) (T := S2) (okT_pumpC (S := (landC (setI S 0 (S2.2 0)) S2)) (T := S2) (okT_landC (S := (setI S 0 (S2.2 0))) (T := S2) (okT_j0 (S := S) hS) hS2) hS2) hS2) hS2) mX6_copyFrom iX6_copyFrom wd834 16 5 rfl rfl rfl rfl rfl (Nat.le_of_ble_eq_true rfl) ⟨Nat.le_of_ble_eq_true rfl, Nat.le_of_ble_eq_true rfl⟩ ⟨Nat.le_of_ble_eq_true rfl, Nat.le_of_ble_eq_true rfl⟩ rfl rfl dX7_copyFrom_49 rfl ?_
  refine g_aload_n C dX7_copyFrom_52 rfl 0 rfl ?_
  refine g_get (v := .ref (ad 21)) (T := TX7) (N := 8) (ci := 6) C in_X7 0 rfl rfl 5 (by decide) wd222 (Or.inl rfl) rfl dX7_copyFrom_53 rfl ?_
  refine g_aload_n C dX7_copyFrom_56 rfl 1 rfl ?_
  refine g_get (v := .ref (ad2 21)) (T := TX7) (N := 8) (ci := 6) C in_X7 32 rfl rfl 5 (by decide) wd222 (Or.inl rfl) rfl dX7_copyFrom_57 rfl ?_
  refine g_callV0 (As := [.ref (ad2 21)]) (rv := none) (w1 := wT E ad (houC (refC (gaugeC (pumpC (landC (setI S 0 (S2.2 0)) S2) S2) S2) S2) S2) ++ (wT E ad2 S2)) (kc' := 0) (ks' := 0) C (k_X2_copyFrom l E ad ad2 (refC (gaugeC (pumpC (landC (setI S 0 (S2.2 0)) S2) S2) S2) S2) S2 (okT_refC (S := (gaugeC (pumpC (landC (setI S 0 (S2.2 0)) S2) S2) S2)) (T := S2) (okT_gaugeC (S := (pumpC (landC (setI S 0 (S2.2 0)) S2) S2)) (T := S2) (okT_pumpC (S := (landC (setI S 0 (S2.2 0)) S2)) (T := S2) (okT_landC (S := (setI S 0 (S2.2 0))) (T := S2) (okT_j0 (S := S) hS) hS2) hS2) hS2) hS2) hS2) mX2_copyFrom iX2_copyFrom wd841 21 2 rfl rfl rfl rfl rfl (Nat.le_of_ble_eq_true rfl) ⟨Nat.le_of_ble_eq_true rfl, Nat.le_of_ble_eq_true rfl⟩ ⟨Nat.le_of_ble_eq_true rfl, Nat.le_of_ble_eq_true rfl⟩ rfl rfl dX7_copyFrom_60 rfl ?_
  refine g_aload_n C dX7_copyFrom_63 rfl 0 rfl ?_
  refine g_get (v := .ref (ad 25)) (T := TX7) (N := 8) (ci := 6) C in_X7 0 rfl rfl 6 (by decide) wd224 (Or.inl rfl) rfl dX7_copyFrom_64 rfl ?_
  refine g_aload_n C dX7_copyFrom_67 rfl 1 rfl ?_
  refine g_get (v := .ref (ad2 25)) (T := TX7) (N := 8) (ci := 6) C in_X7 32 rfl rfl 6 (by decide) wd224 (Or.inl rfl) rfl dX7_copyFrom_68 rfl ?_
  refine g_callV0 (As := [.ref (ad2 25)]) (rv := none) (w1 := wT E ad (claC (houC (refC (gaugeC (pumpC (landC (setI S 0 (S2.2 0)) S2) S2) S2) S2) S2) S2) ++ (wT E ad2 S2)) (kc' := 0) (ks' := 0) C (k_X0_copyFrom l E ad ad2 (houC (refC (gaugeC (pumpC (landC (setI S 0 (S2.2 0)) S2) S2) S2) S2) S2) S2 (okT_houC (S := (refC (gaugeC (pumpC (landC (setI S 0 (S2.2 0)) S2) S2) S2) S2)) (T := S2) (okT_refC (S := (gaugeC (pumpC (landC (setI S 0 (S2.2 0)) S2) S2) S2)) (T := S2) (okT_gaugeC (S := (pumpC (landC (setI S 0 (S2.2 0)) S2) S2)) (T := S2) (okT_pumpC (S := (landC (setI S 0 (S2.2 0)) S2)) (T := S2) (okT_landC (S := (setI S 0 (S2.2 0))) (T := S2) (okT_j0 (S := S) hS) hS2) hS2) hS2) hS2) hS2) hS2) mX0_copyFrom iX0_copyFrom wd848 25 0 rfl rfl rfl rfl rfl (Nat.le_of_ble_eq_true rfl) ⟨Nat.le_of_ble_eq_true rfl, Nat.le_of_ble_eq_true rfl⟩ ⟨Nat.le_of_ble_eq_true rfl, Nat.le_of_ble_eq_true rfl⟩ rfl rfl dX7_copyFrom_71 rfl ?_
  exact z_vret C Z dX7_copyFrom_74 rfl rfl
