abbrev r_X9_setGround : Room := { frames := 2, cells := 0, slots := 0, locals := 43 }
set_option maxHeartbeats 4000000 in
set_option maxRecDepth 100000 in
theorem k_X9_setGround (l : Launch) (E : gE) (o tr : Nat) (ad : Nat → Nat) (S : gS) (x y g : Int) (hS : okT S) (hx : (-2147483648 ≤ x ∧ x ≤ 2147483647)) (hy : (-2147483648 ≤ y ∧ y ≤ 2147483647)) (hg : (-2147483648 ≤ g ∧ g ≤ 2147483647)) (hc : tC x y) (h : 0 ≤ g ∧ g ≤ 9) : gK l E yX9_setGround cX9_setGround 6 (some .int) r_X9_setGround [.ref o, .int (iI x), .int (iI y), .int (iI g)] ([(o, .inr (8, [.ref (ad 0), .ref tr]))] ++ (wT E ad S)) (some (.int (iI (S.1 2 (10 * y + x))))) ([(o, .inr (8, [.ref (ad 0), .ref tr]))] ++ (wT E ad (setA S 2 (fset (S.1 2) (10 * y + x) g)))) := by
  refine gK_by RX9 rfl mX9_setGround [(0, .ref o), (1, .int (iI x)), (2, .int (iI y)), (3, .int (iI g))] (Nat.le_of_ble_eq_true rfl) rfl ?_
  intro zp ze zs zm za zb zh zc zA zQ C Z
  have hd := hc
  unfold tC at hd
  refine g_iload_n C dX9_setGround_0 rfl 1 rfl ?_
  refine g_iload_n C dX9_setGround_1 rfl 2 rfl ?_
  refine g_callS1 (As := [.int (iI x), .int (iI y)]) (rv := none) (kc' := 0) (ks' := 0) C (k_X9_checkCell_1 l E x y hc) mX9_checkCell wd412 wd411 rfl rfl (Nat.le_of_ble_eq_true rfl) ⟨Nat.le_of_ble_eq_true rfl, Nat.le_of_ble_eq_true rfl⟩ ⟨Nat.le_of_ble_eq_true rfl, Nat.le_of_ble_eq_true rfl⟩ rfl rfl dX9_setGround_2 rfl ?_
  refine g_iload_n C dX9_setGround_5 rfl 3 rfl ?_
  refine g_iconst C dX9_setGround_6 rfl ?_
  refine g_bipush C dX9_setGround_7 rfl rfl ?_
  refine g_callS1 (As := [.int (iI g), .int (iI (0)), .int (iI (9))]) (rv := some (.int (iI (bI ((0) ≤ g ∧ g ≤ (9)))))) (kc' := 0) (ks' := 0) C (k_X9_isWithin l E g (0) (9) (by omega) (by omega) (by omega)) mX9_isWithin wd415 wd414 rfl rfl (Nat.le_of_ble_eq_true rfl) ⟨Nat.le_of_ble_eq_true rfl, Nat.le_of_ble_eq_true rfl⟩ ⟨Nat.le_of_ble_eq_true rfl, Nat.le_of_ble_eq_true rfl⟩ rfl rfl dX9_setGround_9 rfl ?_
  have n9 := bI_w ((0) ≤ g ∧ g ≤ (9))
  rw [show (bI ((0) ≤ g ∧ g ≤ (9))) = 1 from by omega]
  refine g_callS1 (As := [.int (iI (1))]) (rv := none) (kc' := 0) (ks' := 0) C (k_X9_checkArgument_1 l E) mX9_checkArgument wd489 wd488 rfl rfl (Nat.le_of_ble_eq_true rfl) ⟨Nat.le_of_ble_eq_true rfl, Nat.le_of_ble_eq_true rfl⟩ ⟨Nat.le_of_ble_eq_true rfl, Nat.le_of_ble_eq_true rfl⟩ rfl rfl dX9_setGround_12 rfl ?_
  refine g_iload_n C dX9_setGround_15 rfl 1 rfl ?_
  refine g_iload_n C dX9_setGround_16 rfl 2 rfl ?_
  refine g_callS1 (As := [.int (iI x), .int (iI y)]) (rv := some (.int (iI (10 * y + x)))) (kc' := 0) (ks' := 0) C (k_X9_placeOf l E x y) mX9_placeOf wd508 wd507 rfl rfl (Nat.le_of_ble_eq_true rfl) ⟨Nat.le_of_ble_eq_true rfl, Nat.le_of_ble_eq_true rfl⟩ ⟨Nat.le_of_ble_eq_true rfl, Nat.le_of_ble_eq_true rfl⟩ rfl rfl dX9_setGround_17 rfl ?_
  refine g_istore (lv' := [(4, .int (iI (10 * y + x))), (0, .ref o), (1, .int (iI x)), (2, .int (iI y)), (3, .int (iI g))]) C dX9_setGround_20 rfl (by decide) rfl ?_
  refine g_aload_n C dX9_setGround_22 rfl 1 rfl ?_
  refine g_get (v := .ref (ad 0)) (T := TX9) (N := 2) (ci := 8) C in_X9 0 rfl rfl 0 (by decide) wd244 (Or.inl rfl) rfl dX9_setGround_23 rfl ?_
  refine g_get (v := .ref (ad 1)) (T := TX7) (N := 8) (ci := 6) C in_X7 1 rfl rfl 1 (by decide) wd215 (Or.inl rfl) rfl dX9_setGround_26 rfl ?_
  refine g_get (v := .ref (ad 2)) (T := TX3) (N := 5) (ci := 3) C in_X3 2 rfl rfl 0 (by decide) wd42 (Or.inl rfl) rfl dX9_setGround_29 rfl ?_
  refine g_iload C dX9_setGround_32 rfl 0 rfl ?_
  refine g_iald (f := (S.1 2)) C dX9_setGround_34 rfl 3 rfl (by omega) (by decide) ?_
  have b34 := okT_2 hS (10 * y + x)
  refine g_istore (lv' := [(5, .int (iI ((S.1 2) (10 * y + x)))), (4, .int (iI (10 * y + x))), (0, .ref o), (1, .int (iI x)), (2, .int (iI y)), (3, .int (iI g))]) C dX9_setGround_35 rfl (by decide) rfl ?_
  refine g_aload_n C dX9_setGround_37 rfl 2 rfl ?_
  refine g_get (v := .ref (ad 0)) (T := TX9) (N := 2) (ci := 8) C in_X9 0 rfl rfl 0 (by decide) wd244 (Or.inl rfl) rfl dX9_setGround_38 rfl ?_
  refine g_get (v := .ref (ad 1)) (T := TX7) (N := 8) (ci := 6) C in_X7 1 rfl rfl 1 (by decide) wd215 (Or.inl rfl) rfl dX9_setGround_41 rfl ?_
  refine g_get (v := .ref (ad 2)) (T := TX3) (N := 5) (ci := 3) C in_X3 2 rfl rfl 0 (by decide) wd42 (Or.inl rfl) rfl dX9_setGround_44 rfl ?_
  refine g_iload C dX9_setGround_47 rfl 1 rfl ?_
  refine g_iload_n C dX9_setGround_49 rfl 5 rfl ?_
  refine g_iast (f := (S.1 2)) (ws' := [(o, .inr (8, [.ref (ad 0), .ref tr]))] ++ (wT E ad (setA S 2 (fset (S.1 2) (10 * y + x) g)))) C dX9_setGround_50 rfl 3 rfl (by omega) (by decide) rfl ?_
  refine g_iload C dX9_setGround_51 rfl 0 rfl ?_
  exact z_iret C Z rfl dX9_setGround_53 rfl rfl
abbrev r_X9_lay : Room := { frames := 2, cells := 0, slots := 0, locals := 43 }
set_option maxHeartbeats 4000000 in
set_option maxRecDepth 100000 in
theorem k_X9_lay (l : Launch) (E : gE) (o tr : Nat) (ad : Nat → Nat) (S : gS) (x y b : Int) (hS : okT S) (hx : (-2147483648 ≤ x ∧ x ≤ 2147483647)) (hy : (-2147483648 ≤ y ∧ y ≤ 2147483647)) (hb : (-2147483648 ≤ b ∧ b ≤ 2147483647)) (hc : tC x y) (h : 0 ≤ b ∧ b ≤ 5) (h2 : sm (S.1 3) 0 80 - S.1 3 (10 * y + x) + b ≤ 40) : gK l E yX9_lay cX9_lay 6 (some .int) r_X9_lay [.ref o, .int (iI x), .int (iI y), .int (iI b)] ([(o, .inr (8, [.ref (ad 0), .ref tr]))] ++ (wT E ad S)) (some (.int (iI (sm (S.1 3) 0 80 - S.1 3 (10 * y + x) + b)))) ([(o, .inr (8, [.ref (ad 0), .ref tr]))] ++ (wT E ad (setA S 3 (fset (S.1 3) (10 * y + x) b)))) := by
  refine gK_by RX9 rfl mX9_lay [(0, .ref o), (1, .int (iI x)), (2, .int (iI y)), (3, .int (iI b))] (Nat.le_of_ble_eq_true rfl) rfl ?_
  intro zp ze zs zm za zb zh zc zA zQ C Z
  have hd := hc
  unfold tC at hd
  refine g_iload_n C dX9_lay_0 rfl 1 rfl ?_
  refine g_iload_n C dX9_lay_1 rfl 2 rfl ?_
  refine g_callS1 (As := [.int (iI x), .int (iI y)]) (rv := none) (kc' := 0) (ks' := 0) C (k_X9_checkCell_1 l E x y hc) mX9_checkCell wd412 wd411 rfl rfl (Nat.le_of_ble_eq_true rfl) ⟨Nat.le_of_ble_eq_true rfl, Nat.le_of_ble_eq_true rfl⟩ ⟨Nat.le_of_ble_eq_true rfl, Nat.le_of_ble_eq_true rfl⟩ rfl rfl dX9_lay_2 rfl ?_
  refine g_iload_n C dX9_lay_5 rfl 3 rfl ?_
  refine g_iconst C dX9_lay_6 rfl ?_
  refine g_iconst C dX9_lay_7 rfl ?_
  refine g_callS1 (As := [.int (iI b), .int (iI (0)), .int (iI (5))]) (rv := some (.int (iI (bI ((0) ≤ b ∧ b ≤ (5)))))) (kc' := 0) (ks' := 0) C (k_X9_isWithin l E b (0) (5) (by omega) (by omega) (by omega)) mX9_isWithin wd415 wd414 rfl rfl (Nat.le_of_ble_eq_true rfl) ⟨Nat.le_of_ble_eq_true rfl, Nat.le_of_ble_eq_true rfl⟩ ⟨Nat.le_of_ble_eq_true rfl, Nat.le_of_ble_eq_true rfl⟩ rfl rfl dX9_lay_8 rfl ?_
  have n8 := bI_w ((0) ≤ b ∧ b ≤ (5))
  rw [show (bI ((0) ≤ b ∧ b ≤ (5))) = 1 from by omega]
  refine g_callS1 (As := [.int (iI (1))]) (rv := none) (kc' := 0) (ks' := 0) C (k_X9_checkArgument_1 l E) mX9_checkArgument wd489 wd488 rfl rfl (Nat.le_of_ble_eq_true rfl) ⟨Nat.le_of_ble_eq_true rfl, Nat.le_of_ble_eq_true rfl⟩ ⟨Nat.le_of_ble_eq_true rfl, Nat.le_of_ble_eq_true rfl⟩ rfl rfl dX9_lay_11 rfl ?_
  refine g_iload_n C dX9_lay_14 rfl 1 rfl ?_
  refine g_iload_n C dX9_lay_15 rfl 2 rfl ?_
  refine g_callS1 (As := [.int (iI x), .int (iI y)]) (rv := some (.int (iI (10 * y + x)))) (kc' := 0) (ks' := 0) C (k_X9_placeOf l E x y) mX9_placeOf wd508 wd507 rfl rfl (Nat.le_of_ble_eq_true rfl) ⟨Nat.le_of_ble_eq_true rfl, Nat.le_of_ble_eq_true rfl⟩ ⟨Nat.le_of_ble_eq_true rfl, Nat.le_of_ble_eq_true rfl⟩ rfl rfl dX9_lay_16 rfl ?_
  refine g_istore (lv' := [(4, .int (iI (10 * y + x))), (0, .ref o), (1, .int (iI x)), (2, .int (iI y)), (3, .int (iI b))]) C dX9_lay_19 rfl (by decide) rfl ?_
  refine g_aload_n C dX9_lay_21 rfl 1 rfl ?_
  refine g_get (v := .ref (ad 0)) (T := TX9) (N := 2) (ci := 8) C in_X9 0 rfl rfl 0 (by decide) wd244 (Or.inl rfl) rfl dX9_lay_22 rfl ?_
  refine g_get (v := .ref (ad 1)) (T := TX7) (N := 8) (ci := 6) C in_X7 1 rfl rfl 1 (by decide) wd215 (Or.inl rfl) rfl dX9_lay_25 rfl ?_
  refine g_perm (ws1 := wT E ad S ++ ([(o, .inr (8, [.ref (ad 0), .ref tr]))])) pm_10 ?_
  refine g_callVf (As := []) (rv := some (.int (iI (sm (S.1 3) 0 80)))) (w1 := wT E ad S) (kc' := 0) (ks' := 0) C ([(o, .inr (8, [.ref (ad 0), .ref tr]))]) (k_X3_bagsInTown l E ad S (okT_L (S := S) hS)) mX3_bagsInTown iX3_bagsInTown wd518 1 3 rfl rfl rfl rfl rfl (Nat.le_of_ble_eq_true rfl) ⟨Nat.le_of_ble_eq_true rfl, Nat.le_of_ble_eq_true rfl⟩ ⟨Nat.le_of_ble_eq_true rfl, Nat.le_of_ble_eq_true rfl⟩ rfl rfl rfl dX9_lay_28 rfl ?_
  refine g_perm (ws1 := [(o, .inr (8, [.ref (ad 0), .ref tr]))] ++ (wT E ad S)) pm_10 ?_
  have n28 := sm_b (o := 0) (okT_3 hS) 80
  refine g_aload_n C dX9_lay_31 rfl 1 rfl ?_
  refine g_get (v := .ref (ad 0)) (T := TX9) (N := 2) (ci := 8) C in_X9 0 rfl rfl 0 (by decide) wd244 (Or.inl rfl) rfl dX9_lay_32 rfl ?_
  refine g_get (v := .ref (ad 1)) (T := TX7) (N := 8) (ci := 6) C in_X7 1 rfl rfl 1 (by decide) wd215 (Or.inl rfl) rfl dX9_lay_35 rfl ?_
  refine g_get (v := .ref (ad 3)) (T := TX3) (N := 5) (ci := 3) C in_X3 2 rfl rfl 1 (by decide) wd45 (Or.inl rfl) rfl dX9_lay_38 rfl ?_
  refine g_iload C dX9_lay_41 rfl 0 rfl ?_
  refine g_iald (f := (S.1 3)) C dX9_lay_43 rfl 4 rfl (by omega) (by decide) ?_
  have b43 := okT_3 hS (10 * y + x)
  refine g_isub C dX9_lay_44 rfl ?_
  refine g_iload_n C dX9_lay_45 rfl 4 rfl ?_
  refine g_iadd C dX9_lay_46 rfl ?_
  refine g_istore (lv' := [(5, .int (iI (((sm (S.1 3) 0 80) - ((S.1 3) (10 * y + x))) + b))), (4, .int (iI (10 * y + x))), (0, .ref o), (1, .int (iI x)), (2, .int (iI y)), (3, .int (iI b))]) C dX9_lay_47 rfl (by decide) rfl ?_
  refine g_iload C dX9_lay_49 rfl 0 rfl ?_
  refine g_bipush C dX9_lay_51 rfl rfl ?_
  refine g_icmp_gt C dX9_lay_53 60 (by decide) rfl (by omega) (by omega) (fun c53 => ?_) (fun c53 => ?_)
  · skip
    refine g_iconst C dX9_lay_60 rfl ?_
    exfalso; omega
  · skip
    refine g_iconst C dX9_lay_56 rfl ?_
    refine g_goto C dX9_lay_57 61 (by decide) ?_
    refine g_callS1 (As := [.int (iI (1))]) (rv := none) (kc' := 0) (ks' := 0) C (k_X9_checkState_1 l E) mX9_checkState wd520 wd519 rfl rfl (Nat.le_of_ble_eq_true rfl) ⟨Nat.le_of_ble_eq_true rfl, Nat.le_of_ble_eq_true rfl⟩ ⟨Nat.le_of_ble_eq_true rfl, Nat.le_of_ble_eq_true rfl⟩ rfl rfl dX9_lay_61 rfl ?_
    refine g_aload_n C dX9_lay_64 rfl 2 rfl ?_
    refine g_get (v := .ref (ad 0)) (T := TX9) (N := 2) (ci := 8) C in_X9 0 rfl rfl 0 (by decide) wd244 (Or.inl rfl) rfl dX9_lay_65 rfl ?_
    refine g_get (v := .ref (ad 1)) (T := TX7) (N := 8) (ci := 6) C in_X7 1 rfl rfl 1 (by decide) wd215 (Or.inl rfl) rfl dX9_lay_68 rfl ?_
    refine g_get (v := .ref (ad 3)) (T := TX3) (N := 5) (ci := 3) C in_X3 2 rfl rfl 1 (by decide) wd45 (Or.inl rfl) rfl dX9_lay_71 rfl ?_
    refine g_iload C dX9_lay_74 rfl 1 rfl ?_
    refine g_iload_n C dX9_lay_76 rfl 5 rfl ?_
    refine g_iast (f := (S.1 3)) (ws' := [(o, .inr (8, [.ref (ad 0), .ref tr]))] ++ (wT E ad (setA S 3 (fset (S.1 3) (10 * y + x) b)))) C dX9_lay_77 rfl 4 rfl (by omega) (by decide) rfl ?_
    refine g_iload C dX9_lay_78 rfl 0 rfl ?_
    exact z_iret C Z rfl dX9_lay_80 rfl rfl
abbrev r_X9_setRiver : Room := { frames := 1, cells := 0, slots := 0, locals := 22 }
set_option maxHeartbeats 4000000 in
set_option maxRecDepth 100000 in
theorem k_X9_setRiver (l : Launch) (E : gE) (o tr : Nat) (ad : Nat → Nat) (S : gS) (k v : Int) (hS : okT S) (hk : (-2147483648 ≤ k ∧ k ≤ 2147483647)) (hv : (-2147483648 ≤ v ∧ v ≤ 2147483647)) (h : 0 ≤ k ∧ k ≤ 11) (h2 : 0 ≤ v ∧ v ≤ 12) : gK l E yX9_setRiver cX9_setRiver 4 (some .int) r_X9_setRiver [.ref o, .int (iI k), .int (iI v)] ([(o, .inr (8, [.ref (ad 0), .ref tr]))] ++ (wT E ad S)) (some (.int (iI (S.1 6 k)))) ([(o, .inr (8, [.ref (ad 0), .ref tr]))] ++ (wT E ad (setA S 6 (fset (S.1 6) k v)))) := by
  refine gK_by RX9 rfl mX9_setRiver [(0, .ref o), (1, .int (iI k)), (2, .int (iI v))] (Nat.le_of_ble_eq_true rfl) rfl ?_
  intro zp ze zs zm za zb zh zc zA zQ C Z
  refine g_iload_n C dX9_setRiver_0 rfl 1 rfl ?_
  refine g_iconst C dX9_setRiver_1 rfl ?_
  refine g_bipush C dX9_setRiver_2 rfl rfl ?_
  refine g_callS1 (As := [.int (iI k), .int (iI (0)), .int (iI (11))]) (rv := some (.int (iI (bI ((0) ≤ k ∧ k ≤ (11)))))) (kc' := 0) (ks' := 0) C (k_X9_isWithin l E k (0) (11) (by omega) (by omega) (by omega)) mX9_isWithin wd415 wd414 rfl rfl (Nat.le_of_ble_eq_true rfl) ⟨Nat.le_of_ble_eq_true rfl, Nat.le_of_ble_eq_true rfl⟩ ⟨Nat.le_of_ble_eq_true rfl, Nat.le_of_ble_eq_true rfl⟩ rfl rfl dX9_setRiver_4 rfl ?_
  have n4 := bI_w ((0) ≤ k ∧ k ≤ (11))
  rw [show (bI ((0) ≤ k ∧ k ≤ (11))) = 1 from by omega]
  refine g_callS1 (As := [.int (iI (1))]) (rv := none) (kc' := 0) (ks' := 0) C (k_X9_checkIndex_1 l E) mX9_checkIndex wd418 wd417 rfl rfl (Nat.le_of_ble_eq_true rfl) ⟨Nat.le_of_ble_eq_true rfl, Nat.le_of_ble_eq_true rfl⟩ ⟨Nat.le_of_ble_eq_true rfl, Nat.le_of_ble_eq_true rfl⟩ rfl rfl dX9_setRiver_7 rfl ?_
  refine g_iload_n C dX9_setRiver_10 rfl 2 rfl ?_
  refine g_iconst C dX9_setRiver_11 rfl ?_
  refine g_bipush C dX9_setRiver_12 rfl rfl ?_
  refine g_callS1 (As := [.int (iI v), .int (iI (0)), .int (iI (12))]) (rv := some (.int (iI (bI ((0) ≤ v ∧ v ≤ (12)))))) (kc' := 0) (ks' := 0) C (k_X9_isWithin l E v (0) (12) (by omega) (by omega) (by omega)) mX9_isWithin wd415 wd414 rfl rfl (Nat.le_of_ble_eq_true rfl) ⟨Nat.le_of_ble_eq_true rfl, Nat.le_of_ble_eq_true rfl⟩ ⟨Nat.le_of_ble_eq_true rfl, Nat.le_of_ble_eq_true rfl⟩ rfl rfl dX9_setRiver_14 rfl ?_
  have n14 := bI_w ((0) ≤ v ∧ v ≤ (12))
  rw [show (bI ((0) ≤ v ∧ v ≤ (12))) = 1 from by omega]
  refine g_callS1 (As := [.int (iI (1))]) (rv := none) (kc' := 0) (ks' := 0) C (k_X9_checkArgument_1 l E) mX9_checkArgument wd489 wd488 rfl rfl (Nat.le_of_ble_eq_true rfl) ⟨Nat.le_of_ble_eq_true rfl, Nat.le_of_ble_eq_true rfl⟩ ⟨Nat.le_of_ble_eq_true rfl, Nat.le_of_ble_eq_true rfl⟩ rfl rfl dX9_setRiver_17 rfl ?_
  refine g_aload_n C dX9_setRiver_20 rfl 0 rfl ?_
  refine g_get (v := .ref (ad 0)) (T := TX9) (N := 2) (ci := 8) C in_X9 0 rfl rfl 0 (by decide) wd244 (Or.inl rfl) rfl dX9_setRiver_21 rfl ?_
  refine g_get (v := .ref (ad 1)) (T := TX7) (N := 8) (ci := 6) C in_X7 1 rfl rfl 1 (by decide) wd215 (Or.inl rfl) rfl dX9_setRiver_24 rfl ?_
  refine g_get (v := .ref (ad 6)) (T := TX3) (N := 5) (ci := 3) C in_X3 2 rfl rfl 4 (by decide) wd54 (Or.inl rfl) rfl dX9_setRiver_27 rfl ?_
  refine g_iload_n C dX9_setRiver_30 rfl 1 rfl ?_
  refine g_iald (f := (S.1 6)) C dX9_setRiver_31 rfl 7 rfl (by omega) (by decide) ?_
  have b31 := okT_6 hS k
  refine g_istore_n (lv' := [(3, .int (iI ((S.1 6) k))), (0, .ref o), (1, .int (iI k)), (2, .int (iI v))]) C dX9_setRiver_32 rfl (by decide) rfl ?_
  refine g_aload_n C dX9_setRiver_33 rfl 1 rfl ?_
  refine g_get (v := .ref (ad 0)) (T := TX9) (N := 2) (ci := 8) C in_X9 0 rfl rfl 0 (by decide) wd244 (Or.inl rfl) rfl dX9_setRiver_34 rfl ?_
  refine g_get (v := .ref (ad 1)) (T := TX7) (N := 8) (ci := 6) C in_X7 1 rfl rfl 1 (by decide) wd215 (Or.inl rfl) rfl dX9_setRiver_37 rfl ?_
  refine g_get (v := .ref (ad 6)) (T := TX3) (N := 5) (ci := 3) C in_X3 2 rfl rfl 4 (by decide) wd54 (Or.inl rfl) rfl dX9_setRiver_40 rfl ?_
  refine g_iload_n C dX9_setRiver_43 rfl 2 rfl ?_
  refine g_iload_n C dX9_setRiver_44 rfl 3 rfl ?_
  refine g_iast (f := (S.1 6)) (ws' := [(o, .inr (8, [.ref (ad 0), .ref tr]))] ++ (wT E ad (setA S 6 (fset (S.1 6) k v)))) C dX9_setRiver_45 rfl 7 rfl (by omega) (by decide) rfl ?_
  refine g_iload_n C dX9_setRiver_46 rfl 0 rfl ?_
  exact z_iret C Z rfl dX9_setRiver_47 rfl rfl
abbrev r_X9_addPump : Room := { frames := 2, cells := 0, slots := 0, locals := 43 }
set_option maxHeartbeats 4000000 in
set_option maxRecDepth 100000 in
theorem k_X9_addPump (l : Launch) (E : gE) (o tr : Nat) (ad : Nat → Nat) (S : gS) (x y p f : Int) (hS : okT S) (hx : (-2147483648 ≤ x ∧ x ≤ 2147483647)) (hy : (-2147483648 ≤ y ∧ y ≤ 2147483647)) (hp : (-2147483648 ≤ p ∧ p ≤ 2147483647)) (hf : (-2147483648 ≤ f ∧ f ≤ 2147483647)) (hc : tC x y) (h : (1 ≤ p ∧ p ≤ 5) ∧ 0 ≤ f ∧ f ≤ 30) (h2 : S.2 1 < 5 ∧ fstI (S.1 8) (10 * y + x) (S.2 1).toNat = -1) : gK l E yX9_addPump cX9_addPump 5 (some .int) r_X9_addPump [.ref o, .int (iI x), .int (iI y), .int (iI p), .int (iI f)] ([(o, .inr (8, [.ref (ad 0), .ref tr]))] ++ (wT E ad S)) (some (.int (iI (S.2 1)))) ([(o, .inr (8, [.ref (ad 0), .ref tr]))] ++ (wT E ad (setUpS S (10 * y + x) p f))) := by
  refine gK_by RX9 rfl mX9_addPump [(0, .ref o), (1, .int (iI x)), (2, .int (iI y)), (3, .int (iI p)), (4, .int (iI f))] (Nat.le_of_ble_eq_true rfl) rfl ?_
  intro zp ze zs zm za zb zh zc zA zQ C Z
  have hd := hc
  unfold tC at hd
  refine g_iload_n C dX9_addPump_0 rfl 1 rfl ?_
  refine g_iload_n C dX9_addPump_1 rfl 2 rfl ?_
  refine g_callS1 (As := [.int (iI x), .int (iI y)]) (rv := none) (kc' := 0) (ks' := 0) C (k_X9_checkCell_1 l E x y hc) mX9_checkCell wd412 wd411 rfl rfl (Nat.le_of_ble_eq_true rfl) ⟨Nat.le_of_ble_eq_true rfl, Nat.le_of_ble_eq_true rfl⟩ ⟨Nat.le_of_ble_eq_true rfl, Nat.le_of_ble_eq_true rfl⟩ rfl rfl dX9_addPump_2 rfl ?_
  refine g_iload_n C dX9_addPump_5 rfl 3 rfl ?_
  refine g_iconst C dX9_addPump_6 rfl ?_
  refine g_iconst C dX9_addPump_7 rfl ?_
  refine g_callS1 (As := [.int (iI p), .int (iI (1)), .int (iI (5))]) (rv := some (.int (iI (bI ((1) ≤ p ∧ p ≤ (5)))))) (kc' := 0) (ks' := 0) C (k_X9_isWithin l E p (1) (5) (by omega) (by omega) (by omega)) mX9_isWithin wd415 wd414 rfl rfl (Nat.le_of_ble_eq_true rfl) ⟨Nat.le_of_ble_eq_true rfl, Nat.le_of_ble_eq_true rfl⟩ ⟨Nat.le_of_ble_eq_true rfl, Nat.le_of_ble_eq_true rfl⟩ rfl rfl dX9_addPump_8 rfl ?_
  have n8 := bI_w ((1) ≤ p ∧ p ≤ (5))
  refine g_if_eq C dX9_addPump_11 29 (by decide) rfl (by omega) (fun c11 => ?_) (fun c11 => ?_)
  · skip
    refine g_iconst C dX9_addPump_29 rfl ?_
    exfalso; omega
  · skip
    refine g_iload C dX9_addPump_14 rfl 4 rfl ?_
    refine g_iconst C dX9_addPump_16 rfl ?_
    refine g_bipush C dX9_addPump_17 rfl rfl ?_
    refine g_callS1 (As := [.int (iI f), .int (iI (0)), .int (iI (30))]) (rv := some (.int (iI (bI ((0) ≤ f ∧ f ≤ (30)))))) (kc' := 0) (ks' := 0) C (k_X9_isWithin l E f (0) (30) (by omega) (by omega) (by omega)) mX9_isWithin wd415 wd414 rfl rfl (Nat.le_of_ble_eq_true rfl) ⟨Nat.le_of_ble_eq_true rfl, Nat.le_of_ble_eq_true rfl⟩ ⟨Nat.le_of_ble_eq_true rfl, Nat.le_of_ble_eq_true rfl⟩ rfl rfl dX9_addPump_19 rfl ?_
    have n19 := bI_w ((0) ≤ f ∧ f ≤ (30))
    refine g_if_eq C dX9_addPump_22 29 (by decide) rfl (by omega) (fun c22 => ?_) (fun c22 => ?_)
    · skip
      refine g_iconst C dX9_addPump_29 rfl ?_
      exfalso; omega
    · skip
      refine g_iconst C dX9_addPump_25 rfl ?_
      refine g_goto C dX9_addPump_26 30 (by decide) ?_
      refine g_callS1 (As := [.int (iI (1))]) (rv := none) (kc' := 0) (ks' := 0) C (k_X9_checkArgument_1 l E) mX9_checkArgument wd489 wd488 rfl rfl (Nat.le_of_ble_eq_true rfl) ⟨Nat.le_of_ble_eq_true rfl, Nat.le_of_ble_eq_true rfl⟩ ⟨Nat.le_of_ble_eq_true rfl, Nat.le_of_ble_eq_true rfl⟩ rfl rfl dX9_addPump_30 rfl ?_
      refine g_aload_n C dX9_addPump_33 rfl 0 rfl ?_
      refine g_get (v := .ref (ad 0)) (T := TX9) (N := 2) (ci := 8) C in_X9 0 rfl rfl 0 (by decide) wd244 (Or.inl rfl) rfl dX9_addPump_34 rfl ?_
      refine g_get (v := .ref (ad 7)) (T := TX7) (N := 8) (ci := 6) C in_X7 1 rfl rfl 2 (by decide) wd217 (Or.inl rfl) rfl dX9_addPump_37 rfl ?_
      refine g_iload_n C dX9_addPump_40 rfl 1 rfl ?_
      refine g_iload_n C dX9_addPump_41 rfl 2 rfl ?_
      refine g_callS1 (As := [.int (iI x), .int (iI y)]) (rv := some (.int (iI (10 * y + x)))) (kc' := 0) (ks' := 0) C (k_X9_placeOf l E x y) mX9_placeOf wd508 wd507 rfl rfl (Nat.le_of_ble_eq_true rfl) ⟨Nat.le_of_ble_eq_true rfl, Nat.le_of_ble_eq_true rfl⟩ ⟨Nat.le_of_ble_eq_true rfl, Nat.le_of_ble_eq_true rfl⟩ rfl rfl dX9_addPump_42 rfl ?_
      refine g_perm (ws1 := wT E ad S ++ ([(o, .inr (8, [.ref (ad 0), .ref tr]))])) pm_10 ?_
      refine g_callUf (As := [.int (iI (10 * y + x))]) (rv := some (.int (iI (bI ((S.2 1) < 5 ∧ fstI (S.1 8) (10 * y + x) ((S.2 1)).toNat = -1))))) (w1 := wT E ad S) (kc' := 0) (ks' := 0) C "FloodWardens$Numbered" RX5 ([(o, .inr (8, [.ref (ad 0), .ref tr]))]) (k_X4_canComeTo_X5 l E ad S (10 * y + x) hS (by omega)) mX4_canComeTo ⟨wd556, wd555, wd553⟩ rfl (by decide +kernel) wd552 7 4 rfl rfl rfl rfl rfl (Nat.le_of_ble_eq_true rfl) ⟨Nat.le_of_ble_eq_true rfl, Nat.le_of_ble_eq_true rfl⟩ ⟨Nat.le_of_ble_eq_true rfl, Nat.le_of_ble_eq_true rfl⟩ rfl rfl rfl dX9_addPump_45 rfl ?_
      refine g_perm (ws1 := [(o, .inr (8, [.ref (ad 0), .ref tr]))] ++ (wT E ad S)) pm_10 ?_
      have n45 := bI_w ((S.2 1) < 5 ∧ fstI (S.1 8) (10 * y + x) ((S.2 1)).toNat = -1)
      rw [show (bI ((S.2 1) < 5 ∧ fstI (S.1 8) (10 * y + x) ((S.2 1)).toNat = -1)) = 1 from by omega]
      refine g_callS1 (As := [.int (iI (1))]) (rv := none) (kc' := 0) (ks' := 0) C (k_X9_checkState_1 l E) mX9_checkState wd520 wd519 rfl rfl (Nat.le_of_ble_eq_true rfl) ⟨Nat.le_of_ble_eq_true rfl, Nat.le_of_ble_eq_true rfl⟩ ⟨Nat.le_of_ble_eq_true rfl, Nat.le_of_ble_eq_true rfl⟩ rfl rfl dX9_addPump_48 rfl ?_
      refine g_aload_n C dX9_addPump_51 rfl 0 rfl ?_
      refine g_get (v := .ref (ad 0)) (T := TX9) (N := 2) (ci := 8) C in_X9 0 rfl rfl 0 (by decide) wd244 (Or.inl rfl) rfl dX9_addPump_52 rfl ?_
      refine g_get (v := .ref (ad 7)) (T := TX7) (N := 8) (ci := 6) C in_X7 1 rfl rfl 2 (by decide) wd217 (Or.inl rfl) rfl dX9_addPump_55 rfl ?_
      refine g_iload_n C dX9_addPump_58 rfl 1 rfl ?_
      refine g_iload_n C dX9_addPump_59 rfl 2 rfl ?_
      refine g_callS1 (As := [.int (iI x), .int (iI y)]) (rv := some (.int (iI (10 * y + x)))) (kc' := 0) (ks' := 0) C (k_X9_placeOf l E x y) mX9_placeOf wd508 wd507 rfl rfl (Nat.le_of_ble_eq_true rfl) ⟨Nat.le_of_ble_eq_true rfl, Nat.le_of_ble_eq_true rfl⟩ ⟨Nat.le_of_ble_eq_true rfl, Nat.le_of_ble_eq_true rfl⟩ rfl rfl dX9_addPump_60 rfl ?_
      refine g_iload_n C dX9_addPump_63 rfl 3 rfl ?_
      refine g_iload C dX9_addPump_64 rfl 4 rfl ?_
      refine g_perm (ws1 := wT E ad S ++ ([(o, .inr (8, [.ref (ad 0), .ref tr]))])) pm_10 ?_
      refine g_callVf (As := [.int (iI (10 * y + x)), .int (iI p), .int (iI f)]) (rv := some (.int (iI (S.2 1)))) (w1 := wT E ad (setUpS S (10 * y + x) p f)) (kc' := 0) (ks' := 0) C ([(o, .inr (8, [.ref (ad 0), .ref tr]))]) (k_X5_setUp l E ad S (10 * y + x) p f hS (by omega)) mX5_setUp iX5_setUp wd576 7 4 rfl rfl rfl rfl rfl (Nat.le_of_ble_eq_true rfl) ⟨Nat.le_of_ble_eq_true rfl, Nat.le_of_ble_eq_true rfl⟩ ⟨Nat.le_of_ble_eq_true rfl, Nat.le_of_ble_eq_true rfl⟩ rfl rfl rfl dX9_addPump_66 rfl ?_
      refine g_perm (ws1 := [(o, .inr (8, [.ref (ad 0), .ref tr]))] ++ (wT E ad (setUpS S (10 * y + x) p f))) pm_10 ?_
      exact z_iret C Z rfl dX9_addPump_69 rfl rfl
abbrev r_X9_addGauge : Room := { frames := 2, cells := 0, slots := 0, locals := 43 }
set_option maxHeartbeats 4000000 in
set_option maxRecDepth 100000 in
theorem k_X9_addGauge (l : Launch) (E : gE) (o tr : Nat) (ad : Nat → Nat) (S : gS) (x y mk : Int) (hS : okT S) (hx : (-2147483648 ≤ x ∧ x ≤ 2147483647)) (hy : (-2147483648 ≤ y ∧ y ≤ 2147483647)) (hmk : (-2147483648 ≤ mk ∧ mk ≤ 2147483647)) (hc : tC x y) (h : 1 ≤ mk ∧ mk ≤ 20) (h2 : S.2 2 < 4 ∧ fstI (S.1 14) (10 * y + x) (S.2 2).toNat = -1) : gK l E yX9_addGauge cX9_addGauge 4 (some .int) r_X9_addGauge [.ref o, .int (iI x), .int (iI y), .int (iI mk)] ([(o, .inr (8, [.ref (ad 0), .ref tr]))] ++ (wT E ad S)) (some (.int (iI (S.2 2)))) ([(o, .inr (8, [.ref (ad 0), .ref tr]))] ++ (wT E ad (hangS S (10 * y + x) mk))) := by
  refine gK_by RX9 rfl mX9_addGauge [(0, .ref o), (1, .int (iI x)), (2, .int (iI y)), (3, .int (iI mk))] (Nat.le_of_ble_eq_true rfl) rfl ?_
  intro zp ze zs zm za zb zh zc zA zQ C Z
  have hd := hc
  unfold tC at hd
  refine g_iload_n C dX9_addGauge_0 rfl 1 rfl ?_
  refine g_iload_n C dX9_addGauge_1 rfl 2 rfl ?_
  refine g_callS1 (As := [.int (iI x), .int (iI y)]) (rv := none) (kc' := 0) (ks' := 0) C (k_X9_checkCell_1 l E x y hc) mX9_checkCell wd412 wd411 rfl rfl (Nat.le_of_ble_eq_true rfl) ⟨Nat.le_of_ble_eq_true rfl, Nat.le_of_ble_eq_true rfl⟩ ⟨Nat.le_of_ble_eq_true rfl, Nat.le_of_ble_eq_true rfl⟩ rfl rfl dX9_addGauge_2 rfl ?_
  refine g_iload_n C dX9_addGauge_5 rfl 3 rfl ?_
  refine g_iconst C dX9_addGauge_6 rfl ?_
  refine g_bipush C dX9_addGauge_7 rfl rfl ?_
  refine g_callS1 (As := [.int (iI mk), .int (iI (1)), .int (iI (20))]) (rv := some (.int (iI (bI ((1) ≤ mk ∧ mk ≤ (20)))))) (kc' := 0) (ks' := 0) C (k_X9_isWithin l E mk (1) (20) (by omega) (by omega) (by omega)) mX9_isWithin wd415 wd414 rfl rfl (Nat.le_of_ble_eq_true rfl) ⟨Nat.le_of_ble_eq_true rfl, Nat.le_of_ble_eq_true rfl⟩ ⟨Nat.le_of_ble_eq_true rfl, Nat.le_of_ble_eq_true rfl⟩ rfl rfl dX9_addGauge_9 rfl ?_
  have n9 := bI_w ((1) ≤ mk ∧ mk ≤ (20))
  rw [show (bI ((1) ≤ mk ∧ mk ≤ (20))) = 1 from by omega]
  refine g_callS1 (As := [.int (iI (1))]) (rv := none) (kc' := 0) (ks' := 0) C (k_X9_checkArgument_1 l E) mX9_checkArgument wd489 wd488 rfl rfl (Nat.le_of_ble_eq_true rfl) ⟨Nat.le_of_ble_eq_true rfl, Nat.le_of_ble_eq_true rfl⟩ ⟨Nat.le_of_ble_eq_true rfl, Nat.le_of_ble_eq_true rfl⟩ rfl rfl dX9_addGauge_12 rfl ?_
  refine g_aload_n C dX9_addGauge_15 rfl 0 rfl ?_
  refine g_get (v := .ref (ad 0)) (T := TX9) (N := 2) (ci := 8) C in_X9 0 rfl rfl 0 (by decide) wd244 (Or.inl rfl) rfl dX9_addGauge_16 rfl ?_
  refine g_get (v := .ref (ad 13)) (T := TX7) (N := 8) (ci := 6) C in_X7 1 rfl rfl 3 (by decide) wd219 (Or.inl rfl) rfl dX9_addGauge_19 rfl ?_
  refine g_iload_n C dX9_addGauge_22 rfl 1 rfl ?_
  refine g_iload_n C dX9_addGauge_23 rfl 2 rfl ?_
  refine g_callS1 (As := [.int (iI x), .int (iI y)]) (rv := some (.int (iI (10 * y + x)))) (kc' := 0) (ks' := 0) C (k_X9_placeOf l E x y) mX9_placeOf wd508 wd507 rfl rfl (Nat.le_of_ble_eq_true rfl) ⟨Nat.le_of_ble_eq_true rfl, Nat.le_of_ble_eq_true rfl⟩ ⟨Nat.le_of_ble_eq_true rfl, Nat.le_of_ble_eq_true rfl⟩ rfl rfl dX9_addGauge_24 rfl ?_
  refine g_perm (ws1 := wT E ad S ++ ([(o, .inr (8, [.ref (ad 0), .ref tr]))])) pm_10 ?_
  refine g_callUf (As := [.int (iI (10 * y + x))]) (rv := some (.int (iI (bI ((S.2 2) < 4 ∧ fstI (S.1 14) (10 * y + x) ((S.2 2)).toNat = -1))))) (w1 := wT E ad S) (kc' := 0) (ks' := 0) C "FloodWardens$Numbered" RX1 ([(o, .inr (8, [.ref (ad 0), .ref tr]))]) (k_X4_canComeTo_X1 l E ad S (10 * y + x) hS (by omega)) mX4_canComeTo ⟨wd556, wd602, wd601⟩ rfl (by decide +kernel) wd600 13 1 rfl rfl rfl rfl rfl (Nat.le_of_ble_eq_true rfl) ⟨Nat.le_of_ble_eq_true rfl, Nat.le_of_ble_eq_true rfl⟩ ⟨Nat.le_of_ble_eq_true rfl, Nat.le_of_ble_eq_true rfl⟩ rfl rfl rfl dX9_addGauge_27 rfl ?_
  refine g_perm (ws1 := [(o, .inr (8, [.ref (ad 0), .ref tr]))] ++ (wT E ad S)) pm_10 ?_
  have n27 := bI_w ((S.2 2) < 4 ∧ fstI (S.1 14) (10 * y + x) ((S.2 2)).toNat = -1)
  rw [show (bI ((S.2 2) < 4 ∧ fstI (S.1 14) (10 * y + x) ((S.2 2)).toNat = -1)) = 1 from by omega]
  refine g_callS1 (As := [.int (iI (1))]) (rv := none) (kc' := 0) (ks' := 0) C (k_X9_checkState_1 l E) mX9_checkState wd520 wd519 rfl rfl (Nat.le_of_ble_eq_true rfl) ⟨Nat.le_of_ble_eq_true rfl, Nat.le_of_ble_eq_true rfl⟩ ⟨Nat.le_of_ble_eq_true rfl, Nat.le_of_ble_eq_true rfl⟩ rfl rfl dX9_addGauge_30 rfl ?_
  refine g_aload_n C dX9_addGauge_33 rfl 0 rfl ?_
  refine g_get (v := .ref (ad 0)) (T := TX9) (N := 2) (ci := 8) C in_X9 0 rfl rfl 0 (by decide) wd244 (Or.inl rfl) rfl dX9_addGauge_34 rfl ?_
  refine g_get (v := .ref (ad 13)) (T := TX7) (N := 8) (ci := 6) C in_X7 1 rfl rfl 3 (by decide) wd219 (Or.inl rfl) rfl dX9_addGauge_37 rfl ?_
  refine g_iload_n C dX9_addGauge_40 rfl 1 rfl ?_
  refine g_iload_n C dX9_addGauge_41 rfl 2 rfl ?_
  refine g_callS1 (As := [.int (iI x), .int (iI y)]) (rv := some (.int (iI (10 * y + x)))) (kc' := 0) (ks' := 0) C (k_X9_placeOf l E x y) mX9_placeOf wd508 wd507 rfl rfl (Nat.le_of_ble_eq_true rfl) ⟨Nat.le_of_ble_eq_true rfl, Nat.le_of_ble_eq_true rfl⟩ ⟨Nat.le_of_ble_eq_true rfl, Nat.le_of_ble_eq_true rfl⟩ rfl rfl dX9_addGauge_42 rfl ?_
  refine g_iload_n C dX9_addGauge_45 rfl 3 rfl ?_
  refine g_perm (ws1 := wT E ad S ++ ([(o, .inr (8, [.ref (ad 0), .ref tr]))])) pm_10 ?_
  refine g_callVf (As := [.int (iI (10 * y + x)), .int (iI mk)]) (rv := some (.int (iI (S.2 2)))) (w1 := wT E ad (hangS S (10 * y + x) mk)) (kc' := 0) (ks' := 0) C ([(o, .inr (8, [.ref (ad 0), .ref tr]))]) (k_X1_hang l E ad S (10 * y + x) mk hS (by omega)) mX1_hang iX1_hang wd603 13 1 rfl rfl rfl rfl rfl (Nat.le_of_ble_eq_true rfl) ⟨Nat.le_of_ble_eq_true rfl, Nat.le_of_ble_eq_true rfl⟩ ⟨Nat.le_of_ble_eq_true rfl, Nat.le_of_ble_eq_true rfl⟩ rfl rfl rfl dX9_addGauge_46 rfl ?_
  refine g_perm (ws1 := [(o, .inr (8, [.ref (ad 0), .ref tr]))] ++ (wT E ad (hangS S (10 * y + x) mk))) pm_10 ?_
  exact z_iret C Z rfl dX9_addGauge_49 rfl rfl
abbrev r_X9_addRefuge : Room := { frames := 2, cells := 0, slots := 0, locals := 43 }
set_option maxHeartbeats 4000000 in
set_option maxRecDepth 100000 in
theorem k_X9_addRefuge (l : Launch) (E : gE) (o tr : Nat) (ad : Nat → Nat) (S : gS) (x y rm : Int) (hS : okT S) (hx : (-2147483648 ≤ x ∧ x ≤ 2147483647)) (hy : (-2147483648 ≤ y ∧ y ≤ 2147483647)) (hrm : (-2147483648 ≤ rm ∧ rm ≤ 2147483647)) (hc : tC x y) (h : 1 ≤ rm ∧ rm ≤ 20) (h2 : S.2 3 < 4 ∧ fstI (S.1 17) (10 * y + x) (S.2 3).toNat = -1) : gK l E yX9_addRefuge cX9_addRefuge 4 (some .int) r_X9_addRefuge [.ref o, .int (iI x), .int (iI y), .int (iI rm)] ([(o, .inr (8, [.ref (ad 0), .ref tr]))] ++ (wT E ad S)) (some (.int (iI (S.2 3)))) ([(o, .inr (8, [.ref (ad 0), .ref tr]))] ++ (wT E ad (openS S (10 * y + x) rm))) := by
  refine gK_by RX9 rfl mX9_addRefuge [(0, .ref o), (1, .int (iI x)), (2, .int (iI y)), (3, .int (iI rm))] (Nat.le_of_ble_eq_true rfl) rfl ?_
  intro zp ze zs zm za zb zh zc zA zQ C Z
  have hd := hc
  unfold tC at hd
  refine g_iload_n C dX9_addRefuge_0 rfl 1 rfl ?_
  refine g_iload_n C dX9_addRefuge_1 rfl 2 rfl ?_
  refine g_callS1 (As := [.int (iI x), .int (iI y)]) (rv := none) (kc' := 0) (ks' := 0) C (k_X9_checkCell_1 l E x y hc) mX9_checkCell wd412 wd411 rfl rfl (Nat.le_of_ble_eq_true rfl) ⟨Nat.le_of_ble_eq_true rfl, Nat.le_of_ble_eq_true rfl⟩ ⟨Nat.le_of_ble_eq_true rfl, Nat.le_of_ble_eq_true rfl⟩ rfl rfl dX9_addRefuge_2 rfl ?_
  refine g_iload_n C dX9_addRefuge_5 rfl 3 rfl ?_
  refine g_iconst C dX9_addRefuge_6 rfl ?_
  refine g_bipush C dX9_addRefuge_7 rfl rfl ?_
  refine g_callS1 (As := [.int (iI rm), .int (iI (1)), .int (iI (20))]) (rv := some (.int (iI (bI ((1) ≤ rm ∧ rm ≤ (20)))))) (kc' := 0) (ks' := 0) C (k_X9_isWithin l E rm (1) (20) (by omega) (by omega) (by omega)) mX9_isWithin wd415 wd414 rfl rfl (Nat.le_of_ble_eq_true rfl) ⟨Nat.le_of_ble_eq_true rfl, Nat.le_of_ble_eq_true rfl⟩ ⟨Nat.le_of_ble_eq_true rfl, Nat.le_of_ble_eq_true rfl⟩ rfl rfl dX9_addRefuge_9 rfl ?_
  have n9 := bI_w ((1) ≤ rm ∧ rm ≤ (20))
  rw [show (bI ((1) ≤ rm ∧ rm ≤ (20))) = 1 from by omega]
  refine g_callS1 (As := [.int (iI (1))]) (rv := none) (kc' := 0) (ks' := 0) C (k_X9_checkArgument_1 l E) mX9_checkArgument wd489 wd488 rfl rfl (Nat.le_of_ble_eq_true rfl) ⟨Nat.le_of_ble_eq_true rfl, Nat.le_of_ble_eq_true rfl⟩ ⟨Nat.le_of_ble_eq_true rfl, Nat.le_of_ble_eq_true rfl⟩ rfl rfl dX9_addRefuge_12 rfl ?_
  refine g_aload_n C dX9_addRefuge_15 rfl 0 rfl ?_
  refine g_get (v := .ref (ad 0)) (T := TX9) (N := 2) (ci := 8) C in_X9 0 rfl rfl 0 (by decide) wd244 (Or.inl rfl) rfl dX9_addRefuge_16 rfl ?_
  refine g_get (v := .ref (ad 16)) (T := TX7) (N := 8) (ci := 6) C in_X7 1 rfl rfl 4 (by decide) wd221 (Or.inl rfl) rfl dX9_addRefuge_19 rfl ?_
  refine g_iload_n C dX9_addRefuge_22 rfl 1 rfl ?_
  refine g_iload_n C dX9_addRefuge_23 rfl 2 rfl ?_
  refine g_callS1 (As := [.int (iI x), .int (iI y)]) (rv := some (.int (iI (10 * y + x)))) (kc' := 0) (ks' := 0) C (k_X9_placeOf l E x y) mX9_placeOf wd508 wd507 rfl rfl (Nat.le_of_ble_eq_true rfl) ⟨Nat.le_of_ble_eq_true rfl, Nat.le_of_ble_eq_true rfl⟩ ⟨Nat.le_of_ble_eq_true rfl, Nat.le_of_ble_eq_true rfl⟩ rfl rfl dX9_addRefuge_24 rfl ?_
  refine g_perm (ws1 := wT E ad S ++ ([(o, .inr (8, [.ref (ad 0), .ref tr]))])) pm_10 ?_
  refine g_callUf (As := [.int (iI (10 * y + x))]) (rv := some (.int (iI (bI ((S.2 3) < 4 ∧ fstI (S.1 17) (10 * y + x) ((S.2 3)).toNat = -1))))) (w1 := wT E ad S) (kc' := 0) (ks' := 0) C "FloodWardens$Numbered" RX6 ([(o, .inr (8, [.ref (ad 0), .ref tr]))]) (k_X4_canComeTo_X6 l E ad S (10 * y + x) hS (by omega)) mX4_canComeTo ⟨wd556, wd616, wd615⟩ rfl (by decide +kernel) wd614 16 5 rfl rfl rfl rfl rfl (Nat.le_of_ble_eq_true rfl) ⟨Nat.le_of_ble_eq_true rfl, Nat.le_of_ble_eq_true rfl⟩ ⟨Nat.le_of_ble_eq_true rfl, Nat.le_of_ble_eq_true rfl⟩ rfl rfl rfl dX9_addRefuge_27 rfl ?_
  refine g_perm (ws1 := [(o, .inr (8, [.ref (ad 0), .ref tr]))] ++ (wT E ad S)) pm_10 ?_
  have n27 := bI_w ((S.2 3) < 4 ∧ fstI (S.1 17) (10 * y + x) ((S.2 3)).toNat = -1)
  rw [show (bI ((S.2 3) < 4 ∧ fstI (S.1 17) (10 * y + x) ((S.2 3)).toNat = -1)) = 1 from by omega]
  refine g_callS1 (As := [.int (iI (1))]) (rv := none) (kc' := 0) (ks' := 0) C (k_X9_checkState_1 l E) mX9_checkState wd520 wd519 rfl rfl (Nat.le_of_ble_eq_true rfl) ⟨Nat.le_of_ble_eq_true rfl, Nat.le_of_ble_eq_true rfl⟩ ⟨Nat.le_of_ble_eq_true rfl, Nat.le_of_ble_eq_true rfl⟩ rfl rfl dX9_addRefuge_30 rfl ?_
  refine g_aload_n C dX9_addRefuge_33 rfl 0 rfl ?_
  refine g_get (v := .ref (ad 0)) (T := TX9) (N := 2) (ci := 8) C in_X9 0 rfl rfl 0 (by decide) wd244 (Or.inl rfl) rfl dX9_addRefuge_34 rfl ?_
  refine g_get (v := .ref (ad 16)) (T := TX7) (N := 8) (ci := 6) C in_X7 1 rfl rfl 4 (by decide) wd221 (Or.inl rfl) rfl dX9_addRefuge_37 rfl ?_
  refine g_iload_n C dX9_addRefuge_40 rfl 1 rfl ?_
  refine g_iload_n C dX9_addRefuge_41 rfl 2 rfl ?_
  refine g_callS1 (As := [.int (iI x), .int (iI y)]) (rv := some (.int (iI (10 * y + x)))) (kc' := 0) (ks' := 0) C (k_X9_placeOf l E x y) mX9_placeOf wd508 wd507 rfl rfl (Nat.le_of_ble_eq_true rfl) ⟨Nat.le_of_ble_eq_true rfl, Nat.le_of_ble_eq_true rfl⟩ ⟨Nat.le_of_ble_eq_true rfl, Nat.le_of_ble_eq_true rfl⟩ rfl rfl dX9_addRefuge_42 rfl ?_
  refine g_iload_n C dX9_addRefuge_45 rfl 3 rfl ?_
  refine g_perm (ws1 := wT E ad S ++ ([(o, .inr (8, [.ref (ad 0), .ref tr]))])) pm_10 ?_
  refine g_callVf (As := [.int (iI (10 * y + x)), .int (iI rm)]) (rv := some (.int (iI (S.2 3)))) (w1 := wT E ad (openS S (10 * y + x) rm)) (kc' := 0) (ks' := 0) C ([(o, .inr (8, [.ref (ad 0), .ref tr]))]) (k_X6_open l E ad S (10 * y + x) rm hS (by omega)) mX6_open iX6_open wd617 16 5 rfl rfl rfl rfl rfl (Nat.le_of_ble_eq_true rfl) ⟨Nat.le_of_ble_eq_true rfl, Nat.le_of_ble_eq_true rfl⟩ ⟨Nat.le_of_ble_eq_true rfl, Nat.le_of_ble_eq_true rfl⟩ rfl rfl rfl dX9_addRefuge_46 rfl ?_
  refine g_perm (ws1 := [(o, .inr (8, [.ref (ad 0), .ref tr]))] ++ (wT E ad (openS S (10 * y + x) rm))) pm_10 ?_
  exact z_iret C Z rfl dX9_addRefuge_49 rfl rfl
abbrev r_X9_settle : Room := { frames := 2, cells := 0, slots := 0, locals := 43 }
set_option maxHeartbeats 4000000 in
set_option maxRecDepth 100000 in
theorem k_X9_settle (l : Launch) (E : gE) (o tr : Nat) (ad : Nat → Nat) (S : gS) (x y n : Int) (hS : okT S) (hx : (-2147483648 ≤ x ∧ x ≤ 2147483647)) (hy : (-2147483648 ≤ y ∧ y ≤ 2147483647)) (hn : (-2147483648 ≤ n ∧ n ≤ 2147483647)) (hc : tC x y) (h : 1 ≤ n ∧ n ≤ 6) (h2 : S.2 4 < 10) : gK l E yX9_settle cX9_settle 4 (some .int) r_X9_settle [.ref o, .int (iI x), .int (iI y), .int (iI n)] ([(o, .inr (8, [.ref (ad 0), .ref tr]))] ++ (wT E ad S)) (some (.int (iI (S.2 4)))) ([(o, .inr (8, [.ref (ad 0), .ref tr]))] ++ (wT E ad (inS S (10 * y + x) n))) := by
  refine gK_by RX9 rfl mX9_settle [(0, .ref o), (1, .int (iI x)), (2, .int (iI y)), (3, .int (iI n))] (Nat.le_of_ble_eq_true rfl) rfl ?_
  intro zp ze zs zm za zb zh zc zA zQ C Z
  have hd := hc
  unfold tC at hd
  refine g_iload_n C dX9_settle_0 rfl 1 rfl ?_
  refine g_iload_n C dX9_settle_1 rfl 2 rfl ?_
  refine g_callS1 (As := [.int (iI x), .int (iI y)]) (rv := none) (kc' := 0) (ks' := 0) C (k_X9_checkCell_1 l E x y hc) mX9_checkCell wd412 wd411 rfl rfl (Nat.le_of_ble_eq_true rfl) ⟨Nat.le_of_ble_eq_true rfl, Nat.le_of_ble_eq_true rfl⟩ ⟨Nat.le_of_ble_eq_true rfl, Nat.le_of_ble_eq_true rfl⟩ rfl rfl dX9_settle_2 rfl ?_
  refine g_iload_n C dX9_settle_5 rfl 3 rfl ?_
  refine g_iconst C dX9_settle_6 rfl ?_
  refine g_bipush C dX9_settle_7 rfl rfl ?_
  refine g_callS1 (As := [.int (iI n), .int (iI (1)), .int (iI (6))]) (rv := some (.int (iI (bI ((1) ≤ n ∧ n ≤ (6)))))) (kc' := 0) (ks' := 0) C (k_X9_isWithin l E n (1) (6) (by omega) (by omega) (by omega)) mX9_isWithin wd415 wd414 rfl rfl (Nat.le_of_ble_eq_true rfl) ⟨Nat.le_of_ble_eq_true rfl, Nat.le_of_ble_eq_true rfl⟩ ⟨Nat.le_of_ble_eq_true rfl, Nat.le_of_ble_eq_true rfl⟩ rfl rfl dX9_settle_9 rfl ?_
  have n9 := bI_w ((1) ≤ n ∧ n ≤ (6))
  rw [show (bI ((1) ≤ n ∧ n ≤ (6))) = 1 from by omega]
  refine g_callS1 (As := [.int (iI (1))]) (rv := none) (kc' := 0) (ks' := 0) C (k_X9_checkArgument_1 l E) mX9_checkArgument wd489 wd488 rfl rfl (Nat.le_of_ble_eq_true rfl) ⟨Nat.le_of_ble_eq_true rfl, Nat.le_of_ble_eq_true rfl⟩ ⟨Nat.le_of_ble_eq_true rfl, Nat.le_of_ble_eq_true rfl⟩ rfl rfl dX9_settle_12 rfl ?_
  refine g_aload_n C dX9_settle_15 rfl 0 rfl ?_
  refine g_get (v := .ref (ad 0)) (T := TX9) (N := 2) (ci := 8) C in_X9 0 rfl rfl 0 (by decide) wd244 (Or.inl rfl) rfl dX9_settle_16 rfl ?_
  refine g_get (v := .ref (ad 21)) (T := TX7) (N := 8) (ci := 6) C in_X7 1 rfl rfl 5 (by decide) wd223 (Or.inl rfl) rfl dX9_settle_19 rfl ?_
  refine g_perm (ws1 := wT E ad S ++ ([(o, .inr (8, [.ref (ad 0), .ref tr]))])) pm_10 ?_
  refine g_callUf (As := []) (rv := some (.int (iI (bI (10 ≤ (S.2 4)))))) (w1 := wT E ad S) (kc' := 0) (ks' := 0) C "FloodWardens$Numbered" RX2 ([(o, .inr (8, [.ref (ad 0), .ref tr]))]) (k_X4_isFull_X2 l E ad S hS) mX4_isFull ⟨wd559, wd631, wd629⟩ rfl (by decide +kernel) wd628 21 2 rfl rfl rfl rfl rfl (Nat.le_of_ble_eq_true rfl) ⟨Nat.le_of_ble_eq_true rfl, Nat.le_of_ble_eq_true rfl⟩ ⟨Nat.le_of_ble_eq_true rfl, Nat.le_of_ble_eq_true rfl⟩ rfl rfl rfl dX9_settle_22 rfl ?_
  refine g_perm (ws1 := [(o, .inr (8, [.ref (ad 0), .ref tr]))] ++ (wT E ad S)) pm_10 ?_
  have n22 := bI_w (10 ≤ (S.2 4))
  refine g_if_ne C dX9_settle_25 32 (by decide) rfl (by omega) (fun c25 => ?_) (fun c25 => ?_)
  · skip
    refine g_iconst C dX9_settle_32 rfl ?_
    exfalso; omega
  · skip
    refine g_iconst C dX9_settle_28 rfl ?_
    refine g_goto C dX9_settle_29 33 (by decide) ?_
    refine g_callS1 (As := [.int (iI (1))]) (rv := none) (kc' := 0) (ks' := 0) C (k_X9_checkState_1 l E) mX9_checkState wd520 wd519 rfl rfl (Nat.le_of_ble_eq_true rfl) ⟨Nat.le_of_ble_eq_true rfl, Nat.le_of_ble_eq_true rfl⟩ ⟨Nat.le_of_ble_eq_true rfl, Nat.le_of_ble_eq_true rfl⟩ rfl rfl dX9_settle_33 rfl ?_
    refine g_aload_n C dX9_settle_36 rfl 0 rfl ?_
    refine g_get (v := .ref (ad 0)) (T := TX9) (N := 2) (ci := 8) C in_X9 0 rfl rfl 0 (by decide) wd244 (Or.inl rfl) rfl dX9_settle_37 rfl ?_
    refine g_get (v := .ref (ad 21)) (T := TX7) (N := 8) (ci := 6) C in_X7 1 rfl rfl 5 (by decide) wd223 (Or.inl rfl) rfl dX9_settle_40 rfl ?_
    refine g_iload_n C dX9_settle_43 rfl 1 rfl ?_
    refine g_iload_n C dX9_settle_44 rfl 2 rfl ?_
    refine g_callS1 (As := [.int (iI x), .int (iI y)]) (rv := some (.int (iI (10 * y + x)))) (kc' := 0) (ks' := 0) C (k_X9_placeOf l E x y) mX9_placeOf wd508 wd507 rfl rfl (Nat.le_of_ble_eq_true rfl) ⟨Nat.le_of_ble_eq_true rfl, Nat.le_of_ble_eq_true rfl⟩ ⟨Nat.le_of_ble_eq_true rfl, Nat.le_of_ble_eq_true rfl⟩ rfl rfl dX9_settle_45 rfl ?_
    refine g_iload_n C dX9_settle_48 rfl 3 rfl ?_
    refine g_perm (ws1 := wT E ad S ++ ([(o, .inr (8, [.ref (ad 0), .ref tr]))])) pm_10 ?_
    refine g_callVf (As := [.int (iI (10 * y + x)), .int (iI n)]) (rv := some (.int (iI (S.2 4)))) (w1 := wT E ad (inS S (10 * y + x) n)) (kc' := 0) (ks' := 0) C ([(o, .inr (8, [.ref (ad 0), .ref tr]))]) (k_X2_moveIn l E ad S (10 * y + x) n hS (by omega)) mX2_moveIn iX2_moveIn wd632 21 2 rfl rfl rfl rfl rfl (Nat.le_of_ble_eq_true rfl) ⟨Nat.le_of_ble_eq_true rfl, Nat.le_of_ble_eq_true rfl⟩ ⟨Nat.le_of_ble_eq_true rfl, Nat.le_of_ble_eq_true rfl⟩ rfl rfl rfl dX9_settle_49 rfl ?_
    refine g_perm (ws1 := [(o, .inr (8, [.ref (ad 0), .ref tr]))] ++ (wT E ad (inS S (10 * y + x) n))) pm_10 ?_
    exact z_iret C Z rfl dX9_settle_52 rfl rfl
abbrev r_X9_addCaller : Room := { frames := 2, cells := 0, slots := 0, locals := 43 }
set_option maxHeartbeats 4000000 in
set_option maxRecDepth 100000 in
theorem k_X9_addCaller (l : Launch) (E : gE) (o tr : Nat) (ad : Nat → Nat) (S : gS) (x y : Int) (hS : okT S) (hx : (-2147483648 ≤ x ∧ x ≤ 2147483647)) (hy : (-2147483648 ≤ y ∧ y ≤ 2147483647)) (hc : tC x y) (h2 : S.2 6 < 3) : gK l E yX9_addCaller cX9_addCaller 3 (some .int) r_X9_addCaller [.ref o, .int (iI x), .int (iI y)] ([(o, .inr (8, [.ref (ad 0), .ref tr]))] ++ (wT E ad S)) (some (.int (iI (S.2 6)))) ([(o, .inr (8, [.ref (ad 0), .ref tr]))] ++ (wT E ad (postS S (10 * y + x)))) := by
  refine gK_by RX9 rfl mX9_addCaller [(0, .ref o), (1, .int (iI x)), (2, .int (iI y))] (Nat.le_of_ble_eq_true rfl) rfl ?_
  intro zp ze zs zm za zb zh zc zA zQ C Z
  have hd := hc
  unfold tC at hd
  refine g_iload_n C dX9_addCaller_0 rfl 1 rfl ?_
  refine g_iload_n C dX9_addCaller_1 rfl 2 rfl ?_
  refine g_callS1 (As := [.int (iI x), .int (iI y)]) (rv := none) (kc' := 0) (ks' := 0) C (k_X9_checkCell_1 l E x y hc) mX9_checkCell wd412 wd411 rfl rfl (Nat.le_of_ble_eq_true rfl) ⟨Nat.le_of_ble_eq_true rfl, Nat.le_of_ble_eq_true rfl⟩ ⟨Nat.le_of_ble_eq_true rfl, Nat.le_of_ble_eq_true rfl⟩ rfl rfl dX9_addCaller_2 rfl ?_
  refine g_aload_n C dX9_addCaller_5 rfl 0 rfl ?_
  refine g_get (v := .ref (ad 0)) (T := TX9) (N := 2) (ci := 8) C in_X9 0 rfl rfl 0 (by decide) wd244 (Or.inl rfl) rfl dX9_addCaller_6 rfl ?_
  refine g_get (v := .ref (ad 25)) (T := TX7) (N := 8) (ci := 6) C in_X7 1 rfl rfl 6 (by decide) wd225 (Or.inl rfl) rfl dX9_addCaller_9 rfl ?_
  refine g_perm (ws1 := wT E ad S ++ ([(o, .inr (8, [.ref (ad 0), .ref tr]))])) pm_10 ?_
  refine g_callUf (As := []) (rv := some (.int (iI (bI (3 ≤ (S.2 6)))))) (w1 := wT E ad S) (kc' := 0) (ks' := 0) C "FloodWardens$Numbered" RX0 ([(o, .inr (8, [.ref (ad 0), .ref tr]))]) (k_X4_isFull_X0 l E ad S hS) mX4_isFull ⟨wd559, wd645, wd644⟩ rfl (by decide +kernel) wd643 25 0 rfl rfl rfl rfl rfl (Nat.le_of_ble_eq_true rfl) ⟨Nat.le_of_ble_eq_true rfl, Nat.le_of_ble_eq_true rfl⟩ ⟨Nat.le_of_ble_eq_true rfl, Nat.le_of_ble_eq_true rfl⟩ rfl rfl rfl dX9_addCaller_12 rfl ?_
  refine g_perm (ws1 := [(o, .inr (8, [.ref (ad 0), .ref tr]))] ++ (wT E ad S)) pm_10 ?_
  have n12 := bI_w (3 ≤ (S.2 6))
  refine g_if_ne C dX9_addCaller_15 22 (by decide) rfl (by omega) (fun c15 => ?_) (fun c15 => ?_)
  · skip
    refine g_iconst C dX9_addCaller_22 rfl ?_
    exfalso; omega
  · skip
    refine g_iconst C dX9_addCaller_18 rfl ?_
    refine g_goto C dX9_addCaller_19 23 (by decide) ?_
    refine g_callS1 (As := [.int (iI (1))]) (rv := none) (kc' := 0) (ks' := 0) C (k_X9_checkState_1 l E) mX9_checkState wd520 wd519 rfl rfl (Nat.le_of_ble_eq_true rfl) ⟨Nat.le_of_ble_eq_true rfl, Nat.le_of_ble_eq_true rfl⟩ ⟨Nat.le_of_ble_eq_true rfl, Nat.le_of_ble_eq_true rfl⟩ rfl rfl dX9_addCaller_23 rfl ?_
    refine g_aload_n C dX9_addCaller_26 rfl 0 rfl ?_
    refine g_get (v := .ref (ad 0)) (T := TX9) (N := 2) (ci := 8) C in_X9 0 rfl rfl 0 (by decide) wd244 (Or.inl rfl) rfl dX9_addCaller_27 rfl ?_
    refine g_get (v := .ref (ad 25)) (T := TX7) (N := 8) (ci := 6) C in_X7 1 rfl rfl 6 (by decide) wd225 (Or.inl rfl) rfl dX9_addCaller_30 rfl ?_
    refine g_iload_n C dX9_addCaller_33 rfl 1 rfl ?_
    refine g_iload_n C dX9_addCaller_34 rfl 2 rfl ?_
    refine g_callS1 (As := [.int (iI x), .int (iI y)]) (rv := some (.int (iI (10 * y + x)))) (kc' := 0) (ks' := 0) C (k_X9_placeOf l E x y) mX9_placeOf wd508 wd507 rfl rfl (Nat.le_of_ble_eq_true rfl) ⟨Nat.le_of_ble_eq_true rfl, Nat.le_of_ble_eq_true rfl⟩ ⟨Nat.le_of_ble_eq_true rfl, Nat.le_of_ble_eq_true rfl⟩ rfl rfl dX9_addCaller_35 rfl ?_
    refine g_perm (ws1 := wT E ad S ++ ([(o, .inr (8, [.ref (ad 0), .ref tr]))])) pm_10 ?_
    refine g_callVf (As := [.int (iI (10 * y + x))]) (rv := some (.int (iI (S.2 6)))) (w1 := wT E ad (postS S (10 * y + x))) (kc' := 0) (ks' := 0) C ([(o, .inr (8, [.ref (ad 0), .ref tr]))]) (k_X0_post l E ad S (10 * y + x) hS (by omega)) mX0_post iX0_post wd646 25 0 rfl rfl rfl rfl rfl (Nat.le_of_ble_eq_true rfl) ⟨Nat.le_of_ble_eq_true rfl, Nat.le_of_ble_eq_true rfl⟩ ⟨Nat.le_of_ble_eq_true rfl, Nat.le_of_ble_eq_true rfl⟩ rfl rfl rfl dX9_addCaller_38 rfl ?_
    refine g_perm (ws1 := [(o, .inr (8, [.ref (ad 0), .ref tr]))] ++ (wT E ad (postS S (10 * y + x)))) pm_10 ?_
    exact z_iret C Z rfl dX9_addCaller_41 rfl rfl
