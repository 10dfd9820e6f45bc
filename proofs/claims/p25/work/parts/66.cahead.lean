abbrev r_X9_pass : Room := { frames := 6, cells := 0, slots := 0, locals := 135 }
set_option maxHeartbeats 4000000 in
set_option maxRecDepth 100000 in
theorem k_X9_pass (l : Launch) (E : gE) (o tr : Nat) (ad : Nat → Nat) (S : gS) (n : Nat) (hS : okT S) (hh : 0 ≤ S.2 0 ∧ S.2 0 ≤ 1999999000) (hH : okH S) (hn : 1 ≤ n ∧ n ≤ 36) : gK l E yX9_pass cX9_pass 3 (some .int) r_X9_pass [.ref o, .int (iI (n : Int))] ([(o, .inr (8, [.ref (ad 0), .ref tr]))] ++ (wT E ad S)) (some (.int (iI ((hoursI S n).2 5 - S.2 5)))) ([(o, .inr (8, [.ref (ad 0), .ref tr]))] ++ (wT E ad (hoursI S n))) := by
  refine gK_by RX9 rfl mX9_pass [(0, .ref o), (1, .int (iI (n : Int)))] (Nat.le_of_ble_eq_true rfl) rfl ?_
  intro zp ze zs zm za zb zh zc zA zQ C Z
  refine g_iload_n C dX9_pass_0 rfl 1 rfl ?_
  refine g_iconst C dX9_pass_1 rfl ?_
  refine g_bipush C dX9_pass_2 rfl rfl ?_
  refine g_callS1 (As := [.int (iI (n : Int)), .int (iI (1)), .int (iI (36))]) (rv := some (.int (iI (bI ((1) ≤ (n : Int) ∧ (n : Int) ≤ (36)))))) (kc' := 0) (ks' := 0) C (k_X9_isWithin l E (n : Int) (1) (36) (by omega) (by omega) (by omega)) mX9_isWithin wd415 wd414 rfl rfl (Nat.le_of_ble_eq_true rfl) ⟨Nat.le_of_ble_eq_true rfl, Nat.le_of_ble_eq_true rfl⟩ ⟨Nat.le_of_ble_eq_true rfl, Nat.le_of_ble_eq_true rfl⟩ rfl rfl dX9_pass_4 rfl ?_
  have n4 := bI_w ((1) ≤ (n : Int) ∧ (n : Int) ≤ (36))
  rw [show (bI ((1) ≤ (n : Int) ∧ (n : Int) ≤ (36))) = 1 from by omega]
  refine g_callS1 (As := [.int (iI (1))]) (rv := none) (kc' := 0) (ks' := 0) C (k_X9_checkArgument_1 l E) mX9_checkArgument wd489 wd488 rfl rfl (Nat.le_of_ble_eq_true rfl) ⟨Nat.le_of_ble_eq_true rfl, Nat.le_of_ble_eq_true rfl⟩ ⟨Nat.le_of_ble_eq_true rfl, Nat.le_of_ble_eq_true rfl⟩ rfl rfl dX9_pass_7 rfl ?_
  refine g_aload_n C dX9_pass_10 rfl 0 rfl ?_
  refine g_get (v := .ref (ad 0)) (T := TX9) (N := 2) (ci := 8) C in_X9 0 rfl rfl 0 (by decide) wd244 (Or.inl rfl) rfl dX9_pass_11 rfl ?_
  refine g_get (v := .ref (ad 21)) (T := TX7) (N := 8) (ci := 6) C in_X7 1 rfl rfl 5 (by decide) wd223 (Or.inl rfl) rfl dX9_pass_14 rfl ?_
  refine g_get (v := .int (iI (S.2 5))) (T := TX2) (N := 5) (ci := 2) C in_X2 22 rfl rfl 4 (by decide) wd169 (Or.inl rfl) rfl dX9_pass_17 rfl ?_
  refine g_istore_n (lv' := [(2, .int (iI (S.2 5))), (0, .ref o), (1, .int (iI (n : Int)))]) C dX9_pass_20 rfl (by decide) rfl ?_
  refine g_aload_n C dX9_pass_21 rfl 1 rfl ?_
  refine g_get (v := .ref (ad 0)) (T := TX9) (N := 2) (ci := 8) C in_X9 0 rfl rfl 0 (by decide) wd244 (Or.inl rfl) rfl dX9_pass_22 rfl ?_
  refine g_iload_n C dX9_pass_25 rfl 2 rfl ?_
  have kb26 := hoursI_b (S := S) hS hH n
  refine g_perm (ws1 := wT E ad S ++ ([(o, .inr (8, [.ref (ad 0), .ref tr]))])) pm_10 ?_
  refine g_callVf (As := [.int (iI (n : Int))]) (rv := none) (w1 := wT E ad (hoursI S n)) (kc' := 0) (ks' := 0) C ([(o, .inr (8, [.ref (ad 0), .ref tr]))]) (k_X7_passHours l E ad S n hS (by first | omega | (show 0 ≤ S.2 0 ∧ S.2 0 + (n : Int) ≤ 2000000000; omega)) hH (by omega)) mX7_passHours iX7_passHours wd718 0 6 rfl rfl rfl rfl rfl (Nat.le_of_ble_eq_true rfl) ⟨Nat.le_of_ble_eq_true rfl, Nat.le_of_ble_eq_true rfl⟩ ⟨Nat.le_of_ble_eq_true rfl, Nat.le_of_ble_eq_true rfl⟩ rfl rfl rfl dX9_pass_26 rfl ?_
  refine g_perm (ws1 := [(o, .inr (8, [.ref (ad 0), .ref tr]))] ++ (wT E ad (hoursI S n))) pm_10 ?_
  refine g_aload_n C dX9_pass_29 rfl 1 rfl ?_
  refine g_get (v := .ref (ad 0)) (T := TX9) (N := 2) (ci := 8) C in_X9 0 rfl rfl 0 (by decide) wd244 (Or.inl rfl) rfl dX9_pass_30 rfl ?_
  refine g_get (v := .ref (ad 21)) (T := TX7) (N := 8) (ci := 6) C in_X7 1 rfl rfl 5 (by decide) wd223 (Or.inl rfl) rfl dX9_pass_33 rfl ?_
  refine g_get (v := .int (iI ((hoursI S n).2 5))) (T := TX2) (N := 5) (ci := 2) C in_X2 22 rfl rfl 4 (by decide) wd169 (Or.inl rfl) rfl dX9_pass_36 rfl ?_
  refine g_iload_n C dX9_pass_39 rfl 0 rfl ?_
  refine g_isub C dX9_pass_40 rfl ?_
  exact z_iret C Z rfl dX9_pass_41 rfl rfl
abbrev r_X9_foresee : Room := { frames := 6, cells := 0, slots := 0, locals := 135 }
set_option maxHeartbeats 4000000 in
set_option maxRecDepth 100000 in
theorem k_X9_foresee (l : Launch) (E : gE) (o : Nat) (ad bd : Nat → Nat) (S H : gS) (n : Nat) (what : Int) (hS : okT S) (hH0 : okT H) (hh : 0 ≤ S.2 0 ∧ S.2 0 ≤ 1999999000) (hH : okH S) (hn : 1 ≤ n ∧ n ≤ 36) (hw : 0 ≤ what ∧ what ≤ 3) : gK l E yX9_foresee cX9_foresee 3 (some .int) r_X9_foresee [.ref o, .int (iI (n : Int)), .int (iI what)] ([(o, .inr (8, [.ref (ad 0), .ref (bd 0)]))] ++ (wT E ad S ++ (wT E bd H))) (some (.int (iI (cForV S (hoursI (copyS H S) n) what)))) ([(o, .inr (8, [.ref (ad 0), .ref (bd 0)]))] ++ (wT E ad S ++ (wT E bd (hoursI (copyS H S) n)))) := by
  refine gK_by RX9 rfl mX9_foresee [(0, .ref o), (1, .int (iI (n : Int))), (2, .int (iI what))] (Nat.le_of_ble_eq_true rfl) rfl ?_
  intro zp ze zs zm za zb zh zc zA zQ C Z
  refine g_iload_n C dX9_foresee_0 rfl 1 rfl ?_
  refine g_iconst C dX9_foresee_1 rfl ?_
  refine g_bipush C dX9_foresee_2 rfl rfl ?_
  refine g_callS1 (As := [.int (iI (n : Int)), .int (iI (1)), .int (iI (36))]) (rv := some (.int (iI (bI ((1) ≤ (n : Int) ∧ (n : Int) ≤ (36)))))) (kc' := 0) (ks' := 0) C (k_X9_isWithin l E (n : Int) (1) (36) (by omega) (by omega) (by omega)) mX9_isWithin wd415 wd414 rfl rfl (Nat.le_of_ble_eq_true rfl) ⟨Nat.le_of_ble_eq_true rfl, Nat.le_of_ble_eq_true rfl⟩ ⟨Nat.le_of_ble_eq_true rfl, Nat.le_of_ble_eq_true rfl⟩ rfl rfl dX9_foresee_4 rfl ?_
  have n4 := bI_w ((1) ≤ (n : Int) ∧ (n : Int) ≤ (36))
  rw [show (bI ((1) ≤ (n : Int) ∧ (n : Int) ≤ (36))) = 1 from by omega]
  refine g_callS1 (As := [.int (iI (1))]) (rv := none) (kc' := 0) (ks' := 0) C (k_X9_checkArgument_1 l E) mX9_checkArgument wd489 wd488 rfl rfl (Nat.le_of_ble_eq_true rfl) ⟨Nat.le_of_ble_eq_true rfl, Nat.le_of_ble_eq_true rfl⟩ ⟨Nat.le_of_ble_eq_true rfl, Nat.le_of_ble_eq_true rfl⟩ rfl rfl dX9_foresee_7 rfl ?_
  refine g_iload_n C dX9_foresee_10 rfl 2 rfl ?_
  refine g_iconst C dX9_foresee_11 rfl ?_
  refine g_iconst C dX9_foresee_12 rfl ?_
  refine g_callS1 (As := [.int (iI what), .int (iI (0)), .int (iI (3))]) (rv := some (.int (iI (bI ((0) ≤ what ∧ what ≤ (3)))))) (kc' := 0) (ks' := 0) C (k_X9_isWithin l E what (0) (3) (by omega) (by omega) (by omega)) mX9_isWithin wd415 wd414 rfl rfl (Nat.le_of_ble_eq_true rfl) ⟨Nat.le_of_ble_eq_true rfl, Nat.le_of_ble_eq_true rfl⟩ ⟨Nat.le_of_ble_eq_true rfl, Nat.le_of_ble_eq_true rfl⟩ rfl rfl dX9_foresee_13 rfl ?_
  have n13 := bI_w ((0) ≤ what ∧ what ≤ (3))
  rw [show (bI ((0) ≤ what ∧ what ≤ (3))) = 1 from by omega]
  refine g_callS1 (As := [.int (iI (1))]) (rv := none) (kc' := 0) (ks' := 0) C (k_X9_checkIndex_1 l E) mX9_checkIndex wd418 wd417 rfl rfl (Nat.le_of_ble_eq_true rfl) ⟨Nat.le_of_ble_eq_true rfl, Nat.le_of_ble_eq_true rfl⟩ ⟨Nat.le_of_ble_eq_true rfl, Nat.le_of_ble_eq_true rfl⟩ rfl rfl dX9_foresee_16 rfl ?_
  refine g_aload_n C dX9_foresee_19 rfl 0 rfl ?_
  refine g_get (v := .ref (bd 0)) (T := TX9) (N := 2) (ci := 8) C in_X9 0 rfl rfl 1 (by decide) wd245 (Or.inl rfl) rfl dX9_foresee_20 rfl ?_
  refine g_aload_n C dX9_foresee_23 rfl 0 rfl ?_
  refine g_get (v := .ref (ad 0)) (T := TX9) (N := 2) (ci := 8) C in_X9 0 rfl rfl 0 (by decide) wd244 (Or.inl rfl) rfl dX9_foresee_24 rfl ?_
  refine g_perm (ws1 := wT E bd H ++ (wT E ad S ++ ([(o, .inr (8, [.ref (ad 0), .ref (bd 0)]))]))) pm_210 ?_
  refine g_callVf (As := [.ref (ad 0)]) (rv := none) (w1 := wT E bd (copyS H S) ++ (wT E ad S)) (kc' := 0) (ks' := 0) C ([(o, .inr (8, [.ref (ad 0), .ref (bd 0)]))]) (k_X7_copyFrom l E bd ad H S hH0 hS) mX7_copyFrom iX7_copyFrom wd809 0 6 rfl rfl rfl rfl rfl (Nat.le_of_ble_eq_true rfl) ⟨Nat.le_of_ble_eq_true rfl, Nat.le_of_ble_eq_true rfl⟩ ⟨Nat.le_of_ble_eq_true rfl, Nat.le_of_ble_eq_true rfl⟩ rfl rfl (by simp only [List.append_assoc]) dX9_foresee_27 rfl ?_
  refine g_perm (ws1 := [(o, .inr (8, [.ref (ad 0), .ref (bd 0)]))] ++ (wT E ad S ++ (wT E bd (copyS H S)))) pm_210 ?_
  refine g_aload_n C dX9_foresee_30 rfl 0 rfl ?_
  refine g_get (v := .ref (bd 0)) (T := TX9) (N := 2) (ci := 8) C in_X9 0 rfl rfl 1 (by decide) wd245 (Or.inl rfl) rfl dX9_foresee_31 rfl ?_
  refine g_iload_n C dX9_foresee_34 rfl 1 rfl ?_
  have kb35 := hoursI_b (S := (copyS H S)) (okT_copy hH0 hS) (okH_copy (S := H) hH) n
  refine g_perm (ws1 := wT E bd (copyS H S) ++ ([(o, .inr (8, [.ref (ad 0), .ref (bd 0)]))] ++ (wT E ad S))) pm_201 ?_
  refine g_callVf (As := [.int (iI (n : Int))]) (rv := none) (w1 := wT E bd (hoursI (copyS H S) n)) (kc' := 0) (ks' := 0) C ([(o, .inr (8, [.ref (ad 0), .ref (bd 0)]))] ++ (wT E ad S)) (k_X7_passHours l E bd (copyS H S) n (okT_copy hH0 hS) (by first | omega | (show 0 ≤ S.2 0 ∧ S.2 0 + (n : Int) ≤ 2000000000; omega)) (okH_copy (S := H) hH) (by omega)) mX7_passHours iX7_passHours wd718 0 6 rfl rfl rfl rfl rfl (Nat.le_of_ble_eq_true rfl) ⟨Nat.le_of_ble_eq_true rfl, Nat.le_of_ble_eq_true rfl⟩ ⟨Nat.le_of_ble_eq_true rfl, Nat.le_of_ble_eq_true rfl⟩ rfl rfl rfl dX9_foresee_35 rfl ?_
  refine g_perm (ws1 := [(o, .inr (8, [.ref (ad 0), .ref (bd 0)]))] ++ (wT E ad S ++ (wT E bd (hoursI (copyS H S) n)))) pm_120 ?_
  refine g_iload_n C dX9_foresee_38 rfl 2 rfl ?_
  by_cases c39_0 : what = 0
  · refine g_tableIn C dX9_foresee_39 64 0 c39_0 (by omega) (by decide) (by decide) rfl (by decide) ?_
    refine g_aload_n C dX9_foresee_64 rfl 0 rfl ?_
    refine g_get (v := .ref (bd 0)) (T := TX9) (N := 2) (ci := 8) C in_X9 0 rfl rfl 1 (by decide) wd245 (Or.inl rfl) rfl dX9_foresee_65 rfl ?_
    refine g_get (v := .ref (bd 21)) (T := TX7) (N := 8) (ci := 6) C in_X7 33 rfl rfl 5 (by decide) wd223 (Or.inl rfl) rfl dX9_foresee_68 rfl ?_
    refine g_iconst C dX9_foresee_71 rfl ?_
    refine g_perm (ws1 := wT E bd (hoursI (copyS H S) n) ++ ([(o, .inr (8, [.ref (ad 0), .ref (bd 0)]))] ++ (wT E ad S))) pm_201 ?_
    refine g_callVf (As := [.int (iI (2))]) (rv := some (.int (iI (hsum (hoursI (copyS H S) n) (2))))) (w1 := wT E bd (hoursI (copyS H S) n)) (kc' := 0) (ks' := 0) C ([(o, .inr (8, [.ref (ad 0), .ref (bd 0)]))] ++ (wT E ad S)) (k_X2_peopleWho l E bd (hoursI (copyS H S) n) (2) kb35.1 (by omega)) mX2_peopleWho iX2_peopleWho wd255 21 2 rfl rfl rfl rfl rfl (Nat.le_of_ble_eq_true rfl) ⟨Nat.le_of_ble_eq_true rfl, Nat.le_of_ble_eq_true rfl⟩ ⟨Nat.le_of_ble_eq_true rfl, Nat.le_of_ble_eq_true rfl⟩ rfl rfl rfl dX9_foresee_72 rfl ?_
    refine g_perm (ws1 := [(o, .inr (8, [.ref (ad 0), .ref (bd 0)]))] ++ (wT E ad S ++ (wT E bd (hoursI (copyS H S) n)))) pm_120 ?_
    have n72 := hsum_b (S := (hoursI (copyS H S) n)) (st := (2)) kb35.1
    exact z_iret C Z rfl dX9_foresee_75 (by exact congrArg (fun z => some (Value.int (iI z))) (by unfold cForV; first | (rw [if_pos (by omega)]) | (rw [if_neg (by omega), if_pos (by omega)]) | (rw [if_neg (by omega), if_neg (by omega), if_pos (by omega)]) | (rw [if_neg (by omega), if_neg (by omega), if_neg (by omega)]))) rfl
  by_cases c39_1 : what = 1
  · refine g_tableIn C dX9_foresee_39 76 1 c39_1 (by omega) (by decide) (by decide) rfl (by decide) ?_
    refine g_aload_n C dX9_foresee_76 rfl 0 rfl ?_
    refine g_get (v := .ref (bd 0)) (T := TX9) (N := 2) (ci := 8) C in_X9 0 rfl rfl 1 (by decide) wd245 (Or.inl rfl) rfl dX9_foresee_77 rfl ?_
    refine g_get (v := .ref (bd 21)) (T := TX7) (N := 8) (ci := 6) C in_X7 33 rfl rfl 5 (by decide) wd223 (Or.inl rfl) rfl dX9_foresee_80 rfl ?_
    refine g_get (v := .int (iI ((hoursI (copyS H S) n).2 5))) (T := TX2) (N := 5) (ci := 2) C in_X2 54 rfl rfl 4 (by decide) wd169 (Or.inl rfl) rfl dX9_foresee_83 rfl ?_
    refine g_aload_n C dX9_foresee_86 rfl 0 rfl ?_
    refine g_get (v := .ref (ad 0)) (T := TX9) (N := 2) (ci := 8) C in_X9 0 rfl rfl 0 (by decide) wd244 (Or.inl rfl) rfl dX9_foresee_87 rfl ?_
    refine g_get (v := .ref (ad 21)) (T := TX7) (N := 8) (ci := 6) C in_X7 1 rfl rfl 5 (by decide) wd223 (Or.inl rfl) rfl dX9_foresee_90 rfl ?_
    refine g_get (v := .int (iI (S.2 5))) (T := TX2) (N := 5) (ci := 2) C in_X2 22 rfl rfl 4 (by decide) wd169 (Or.inl rfl) rfl dX9_foresee_93 rfl ?_
    refine g_isub C dX9_foresee_96 rfl ?_
    exact z_iret C Z rfl dX9_foresee_97 (by exact congrArg (fun z => some (Value.int (iI z))) (by unfold cForV; first | (rw [if_pos (by omega)]) | (rw [if_neg (by omega), if_pos (by omega)]) | (rw [if_neg (by omega), if_neg (by omega), if_pos (by omega)]) | (rw [if_neg (by omega), if_neg (by omega), if_neg (by omega)]))) rfl
  by_cases c39_2 : what = 2
  · refine g_tableIn C dX9_foresee_39 98 2 c39_2 (by omega) (by decide) (by decide) rfl (by decide) ?_
    refine g_aload_n C dX9_foresee_98 rfl 0 rfl ?_
    refine g_get (v := .ref (bd 0)) (T := TX9) (N := 2) (ci := 8) C in_X9 0 rfl rfl 1 (by decide) wd245 (Or.inl rfl) rfl dX9_foresee_99 rfl ?_
    refine g_get (v := .ref (bd 1)) (T := TX7) (N := 8) (ci := 6) C in_X7 33 rfl rfl 1 (by decide) wd215 (Or.inl rfl) rfl dX9_foresee_102 rfl ?_
    refine g_perm (ws1 := wT E bd (hoursI (copyS H S) n) ++ ([(o, .inr (8, [.ref (ad 0), .ref (bd 0)]))] ++ (wT E ad S))) pm_201 ?_
    refine g_callVf (As := []) (rv := some (.int (iI (wet ((hoursI (copyS H S) n).1 4))))) (w1 := wT E bd (hoursI (copyS H S) n)) (kc' := 0) (ks' := 0) C ([(o, .inr (8, [.ref (ad 0), .ref (bd 0)]))] ++ (wT E ad S)) (k_X3_wetStreets l E bd (hoursI (copyS H S) n) (okT_L (S := (hoursI (copyS H S) n)) kb35.1)) mX3_wetStreets iX3_wetStreets wd855 1 3 rfl rfl rfl rfl rfl (Nat.le_of_ble_eq_true rfl) ⟨Nat.le_of_ble_eq_true rfl, Nat.le_of_ble_eq_true rfl⟩ ⟨Nat.le_of_ble_eq_true rfl, Nat.le_of_ble_eq_true rfl⟩ rfl rfl rfl dX9_foresee_105 rfl ?_
    refine g_perm (ws1 := [(o, .inr (8, [.ref (ad 0), .ref (bd 0)]))] ++ (wT E ad S ++ (wT E bd (hoursI (copyS H S) n)))) pm_120 ?_
    exact z_iret C Z rfl dX9_foresee_108 (by exact congrArg (fun z => some (Value.int (iI z))) (by unfold cForV; first | (rw [if_pos (by omega)]) | (rw [if_neg (by omega), if_pos (by omega)]) | (rw [if_neg (by omega), if_neg (by omega), if_pos (by omega)]) | (rw [if_neg (by omega), if_neg (by omega), if_neg (by omega)]))) rfl
  refine g_tableOut C dX9_foresee_39 109 (by omega) (by omega) (by decide) ?_
  refine g_aload_n C dX9_foresee_109 rfl 0 rfl ?_
  refine g_get (v := .ref (bd 0)) (T := TX9) (N := 2) (ci := 8) C in_X9 0 rfl rfl 1 (by decide) wd245 (Or.inl rfl) rfl dX9_foresee_110 rfl ?_
  refine g_get (v := .ref (bd 7)) (T := TX7) (N := 8) (ci := 6) C in_X7 33 rfl rfl 2 (by decide) wd217 (Or.inl rfl) rfl dX9_foresee_113 rfl ?_
  refine g_perm (ws1 := wT E bd (hoursI (copyS H S) n) ++ ([(o, .inr (8, [.ref (ad 0), .ref (bd 0)]))] ++ (wT E ad S))) pm_201 ?_
  refine g_callVf (As := []) (rv := some (.int (iI (sm ((hoursI (copyS H S) n).1 10) 0 (((hoursI (copyS H S) n).2 1)).toNat)))) (w1 := wT E bd (hoursI (copyS H S) n)) (kc' := 0) (ks' := 0) C ([(o, .inr (8, [.ref (ad 0), .ref (bd 0)]))] ++ (wT E ad S)) (k_X5_fuelOfAll l E bd (hoursI (copyS H S) n) kb35.1) mX5_fuelOfAll iX5_fuelOfAll wd856 7 4 rfl rfl rfl rfl rfl (Nat.le_of_ble_eq_true rfl) ⟨Nat.le_of_ble_eq_true rfl, Nat.le_of_ble_eq_true rfl⟩ ⟨Nat.le_of_ble_eq_true rfl, Nat.le_of_ble_eq_true rfl⟩ rfl rfl rfl dX9_foresee_116 rfl ?_
  refine g_perm (ws1 := [(o, .inr (8, [.ref (ad 0), .ref (bd 0)]))] ++ (wT E ad S ++ (wT E bd (hoursI (copyS H S) n)))) pm_120 ?_
  exact z_iret C Z rfl dX9_foresee_119 (by exact congrArg (fun z => some (Value.int (iI z))) (by unfold cForV; first | (rw [if_pos (by omega)]) | (rw [if_neg (by omega), if_pos (by omega)]) | (rw [if_neg (by omega), if_neg (by omega), if_pos (by omega)]) | (rw [if_neg (by omega), if_neg (by omega), if_neg (by omega)]))) rfl
abbrev r_X9_rings : Room := { frames := 4, cells := 0, slots := 0, locals := 88 }
set_option maxHeartbeats 4000000 in
set_option maxRecDepth 100000 in
theorem k_X9_rings (l : Launch) (E : gE) (o : Nat) (ad bd : Nat → Nat) (S H : gS) (g : Int) (hS : okT S) (hH0 : okT H) (hh : 0 ≤ S.2 0 ∧ S.2 0 ≤ 1999999000) (hg : 0 ≤ g ∧ g < S.2 2) : gK l E yX9_rings cX9_rings 3 (some .int) r_X9_rings [.ref o, .int (iI g)] ([(o, .inr (8, [.ref (ad 0), .ref (bd 0)]))] ++ (wT E ad S ++ (wT E bd H))) (some (.int (iI (cgR (copyS H S) g)))) ([(o, .inr (8, [.ref (ad 0), .ref (bd 0)]))] ++ (wT E ad S ++ (wT E bd (hWI (copyS H S) (cgN (copyS H S) g))))) := by
  refine gK_by RX9 rfl mX9_rings [(0, .ref o), (1, .int (iI g))] (Nat.le_of_ble_eq_true rfl) rfl ?_
  intro zp ze zs zm za zb zh zc zA zQ C Z
  have hi1 := okT_i2 hS
  refine g_aload_n C dX9_rings_0 rfl 0 rfl ?_
  refine g_get (v := .ref (ad 0)) (T := TX9) (N := 2) (ci := 8) C in_X9 0 rfl rfl 0 (by decide) wd244 (Or.inl rfl) rfl dX9_rings_1 rfl ?_
  refine g_get (v := .ref (ad 13)) (T := TX7) (N := 8) (ci := 6) C in_X7 1 rfl rfl 3 (by decide) wd219 (Or.inl rfl) rfl dX9_rings_4 rfl ?_
  refine g_iload_n C dX9_rings_7 rfl 1 rfl ?_
  refine g_perm (ws1 := wT E ad S ++ ([(o, .inr (8, [.ref (ad 0), .ref (bd 0)]))] ++ (wT E bd H))) pm_102 ?_
  refine g_callUf (As := [.int (iI g)]) (rv := some (.int (iI (bI (0 ≤ g ∧ g < (S.2 2)))))) (w1 := wT E ad S) (kc' := 0) (ks' := 0) C "FloodWardens$Numbered" RX1 ([(o, .inr (8, [.ref (ad 0), .ref (bd 0)]))] ++ (wT E bd H)) (k_X4_has_X1 l E ad S g hS (by omega)) mX4_has ⟨wd591, wd673, wd672⟩ rfl (by decide +kernel) wd671 13 1 rfl rfl rfl rfl rfl (Nat.le_of_ble_eq_true rfl) ⟨Nat.le_of_ble_eq_true rfl, Nat.le_of_ble_eq_true rfl⟩ ⟨Nat.le_of_ble_eq_true rfl, Nat.le_of_ble_eq_true rfl⟩ rfl rfl rfl dX9_rings_8 rfl ?_
  refine g_perm (ws1 := [(o, .inr (8, [.ref (ad 0), .ref (bd 0)]))] ++ (wT E ad S ++ (wT E bd H))) pm_102 ?_
  have n8 := bI_w (0 ≤ g ∧ g < (S.2 2))
  rw [show (bI (0 ≤ g ∧ g < (S.2 2))) = 1 from by omega]
  refine g_callS1 (As := [.int (iI (1))]) (rv := none) (kc' := 0) (ks' := 0) C (k_X9_checkIndex_1 l E) mX9_checkIndex wd418 wd417 rfl rfl (Nat.le_of_ble_eq_true rfl) ⟨Nat.le_of_ble_eq_true rfl, Nat.le_of_ble_eq_true rfl⟩ ⟨Nat.le_of_ble_eq_true rfl, Nat.le_of_ble_eq_true rfl⟩ rfl rfl dX9_rings_11 rfl ?_
  refine g_aload_n C dX9_rings_14 rfl 0 rfl ?_
  refine g_get (v := .ref (bd 0)) (T := TX9) (N := 2) (ci := 8) C in_X9 0 rfl rfl 1 (by decide) wd245 (Or.inl rfl) rfl dX9_rings_15 rfl ?_
  refine g_aload_n C dX9_rings_18 rfl 0 rfl ?_
  refine g_get (v := .ref (ad 0)) (T := TX9) (N := 2) (ci := 8) C in_X9 0 rfl rfl 0 (by decide) wd244 (Or.inl rfl) rfl dX9_rings_19 rfl ?_
  refine g_perm (ws1 := wT E bd H ++ (wT E ad S ++ ([(o, .inr (8, [.ref (ad 0), .ref (bd 0)]))]))) pm_210 ?_
  refine g_callVf (As := [.ref (ad 0)]) (rv := none) (w1 := wT E bd (copyS H S) ++ (wT E ad S)) (kc' := 0) (ks' := 0) C ([(o, .inr (8, [.ref (ad 0), .ref (bd 0)]))]) (k_X7_copyFrom l E bd ad H S hH0 hS) mX7_copyFrom iX7_copyFrom wd809 0 6 rfl rfl rfl rfl rfl (Nat.le_of_ble_eq_true rfl) ⟨Nat.le_of_ble_eq_true rfl, Nat.le_of_ble_eq_true rfl⟩ ⟨Nat.le_of_ble_eq_true rfl, Nat.le_of_ble_eq_true rfl⟩ rfl rfl (by simp only [List.append_assoc]) dX9_rings_22 rfl ?_
  refine g_perm (ws1 := [(o, .inr (8, [.ref (ad 0), .ref (bd 0)]))] ++ (wT E ad S ++ (wT E bd (copyS H S)))) pm_210 ?_
  refine g_iconst C dX9_rings_25 rfl ?_
  refine g_istore_n (lv' := [(2, .int (iI (0))), (0, .ref o), (1, .int (iI g))]) C dX9_rings_26 rfl (by decide) rfl ?_
  have L27 : ∀ k9 : Nat, k9 ≤ 48 → (fstI (cgF (copyS H S) g) 1 k9 = -1) → gG E zp l ze r_X9_rings zs zm za zb zh zc zA 3 0 0 zQ ([(o, .inr (8, [.ref (ad 0), .ref (bd 0)]))] ++ (wT E ad S ++ (wT E bd (hWI (copyS H S) k9)))) 27 [(2, .int (iI (k9 : Int))), (0, .ref o), (1, .int (iI g))] [] := by
    refine g_up (48) _ ?_
    intro k9 ih27 hk27 hy27
    have kb27 := hWI_b (okT_copy hH0 hS) k9
    have eh27 : (hWI (copyS H S) k9).2 0 = S.2 0 + (k9 : Int) := kb27.2.1
    refine g_iload_n C dX9_rings_27 rfl 0 rfl ?_
    refine g_bipush C dX9_rings_28 rfl rfl ?_
    refine g_icmp_ge C dX9_rings_30 69 (by decide) rfl (by omega) (by omega) (fun c30 => ?_) (fun c30 => ?_)
    · skip
      have hk69 : k9 = 48 := by omega
      refine g_aload_n C dX9_rings_69 rfl 1 rfl ?_
      refine g_get (v := .ref (bd 0)) (T := TX9) (N := 2) (ci := 8) C in_X9 0 rfl rfl 1 (by decide) wd245 (Or.inl rfl) rfl dX9_rings_70 rfl ?_
      refine g_get (v := .ref (bd 13)) (T := TX7) (N := 8) (ci := 6) C in_X7 33 rfl rfl 3 (by decide) wd219 (Or.inl rfl) rfl dX9_rings_73 rfl ?_
      refine g_iload_n C dX9_rings_76 rfl 2 rfl ?_
      refine g_aload_n C dX9_rings_77 rfl 1 rfl ?_
      refine g_get (v := .ref (bd 0)) (T := TX9) (N := 2) (ci := 8) C in_X9 0 rfl rfl 1 (by decide) wd245 (Or.inl rfl) rfl dX9_rings_78 rfl ?_
      refine g_get (v := .ref (bd 1)) (T := TX7) (N := 8) (ci := 6) C in_X7 33 rfl rfl 1 (by decide) wd215 (Or.inl rfl) rfl dX9_rings_81 rfl ?_
      refine g_perm (ws1 := wT E bd (hWI (copyS H S) k9) ++ ([(o, .inr (8, [.ref (ad 0), .ref (bd 0)]))] ++ (wT E ad S))) pm_201 ?_
      refine g_callVf (As := [.int (iI g), .ref (bd 1)]) (rv := some (.int (iI (bI (((hWI (copyS H S) k9).1 15) g ≤ ((hWI (copyS H S) k9).1 4) (((hWI (copyS H S) k9).1 14) g)))))) (w1 := wT E bd (hWI (copyS H S) k9)) (kc' := 0) (ks' := 0) C ([(o, .inr (8, [.ref (ad 0), .ref (bd 0)]))] ++ (wT E ad S)) (k_X1_isRinging l E bd (hWI (copyS H S) k9) g kb27.1 (by omega)) mX1_isRinging iX1_isRinging wd867 13 1 rfl rfl rfl rfl rfl (Nat.le_of_ble_eq_true rfl) ⟨Nat.le_of_ble_eq_true rfl, Nat.le_of_ble_eq_true rfl⟩ ⟨Nat.le_of_ble_eq_true rfl, Nat.le_of_ble_eq_true rfl⟩ rfl rfl rfl dX9_rings_84 rfl ?_
      refine g_perm (ws1 := [(o, .inr (8, [.ref (ad 0), .ref (bd 0)]))] ++ (wT E ad S ++ (wT E bd (hWI (copyS H S) k9)))) pm_120 ?_
      have n84 := bI_w (((hWI (copyS H S) k9).1 15) g ≤ ((hWI (copyS H S) k9).1 4) (((hWI (copyS H S) k9).1 14) g))
      refine g_if_eq C dX9_rings_87 95 (by decide) rfl (by omega) (fun c87 => ?_) (fun c87 => ?_)
      · skip
        have h95 := fst_no (k := k9) hy27 (by show ¬ bI ((hWI (copyS H S) k9).1 15 g ≤ (hWI (copyS H S) k9).1 4 ((hWI (copyS H S) k9).1 14 g)) = 1; omega)
        rw [show k9 + 1 = 49 from by omega] at h95
        have hr54 : cgR (copyS H S) g = -1 := h95
        have hn54 : cgN (copyS H S) g = k9 := by unfold cgN; rw [hr54, if_pos rfl]; omega
        refine g_iconst C dX9_rings_95 rfl ?_
        exact z_iret C Z rfl dX9_rings_96 (by rw [hr54]) (by rw [hn54])
      · skip
        have hr54 : cgR (copyS H S) g = 48 := (fst_yes (k := k9) hy27 (by show bI ((hWI (copyS H S) k9).1 15 g ≤ (hWI (copyS H S) k9).1 4 ((hWI (copyS H S) k9).1 14 g)) = 1; omega) (by omega)).trans (by omega)
        have hn54 : cgN (copyS H S) g = k9 := by unfold cgN; rw [hr54, if_neg (by omega)]; omega
        refine g_bipush C dX9_rings_90 rfl rfl ?_
        refine g_goto C dX9_rings_92 96 (by decide) ?_
        exact z_iret C Z rfl dX9_rings_96 (by rw [hr54]) (by rw [hn54])
    · skip
      refine g_aload_n C dX9_rings_33 rfl 1 rfl ?_
      refine g_get (v := .ref (bd 0)) (T := TX9) (N := 2) (ci := 8) C in_X9 0 rfl rfl 1 (by decide) wd245 (Or.inl rfl) rfl dX9_rings_34 rfl ?_
      refine g_get (v := .ref (bd 13)) (T := TX7) (N := 8) (ci := 6) C in_X7 33 rfl rfl 3 (by decide) wd219 (Or.inl rfl) rfl dX9_rings_37 rfl ?_
      refine g_iload_n C dX9_rings_40 rfl 2 rfl ?_
      refine g_aload_n C dX9_rings_41 rfl 1 rfl ?_
      refine g_get (v := .ref (bd 0)) (T := TX9) (N := 2) (ci := 8) C in_X9 0 rfl rfl 1 (by decide) wd245 (Or.inl rfl) rfl dX9_rings_42 rfl ?_
      refine g_get (v := .ref (bd 1)) (T := TX7) (N := 8) (ci := 6) C in_X7 33 rfl rfl 1 (by decide) wd215 (Or.inl rfl) rfl dX9_rings_45 rfl ?_
      refine g_perm (ws1 := wT E bd (hWI (copyS H S) k9) ++ ([(o, .inr (8, [.ref (ad 0), .ref (bd 0)]))] ++ (wT E ad S))) pm_201 ?_
      refine g_callVf (As := [.int (iI g), .ref (bd 1)]) (rv := some (.int (iI (bI (((hWI (copyS H S) k9).1 15) g ≤ ((hWI (copyS H S) k9).1 4) (((hWI (copyS H S) k9).1 14) g)))))) (w1 := wT E bd (hWI (copyS H S) k9)) (kc' := 0) (ks' := 0) C ([(o, .inr (8, [.ref (ad 0), .ref (bd 0)]))] ++ (wT E ad S)) (k_X1_isRinging l E bd (hWI (copyS H S) k9) g kb27.1 (by omega)) mX1_isRinging iX1_isRinging wd867 13 1 rfl rfl rfl rfl rfl (Nat.le_of_ble_eq_true rfl) ⟨Nat.le_of_ble_eq_true rfl, Nat.le_of_ble_eq_true rfl⟩ ⟨Nat.le_of_ble_eq_true rfl, Nat.le_of_ble_eq_true rfl⟩ rfl rfl rfl dX9_rings_48 rfl ?_
      refine g_perm (ws1 := [(o, .inr (8, [.ref (ad 0), .ref (bd 0)]))] ++ (wT E ad S ++ (wT E bd (hWI (copyS H S) k9)))) pm_120 ?_
      have n48 := bI_w (((hWI (copyS H S) k9).1 15) g ≤ ((hWI (copyS H S) k9).1 4) (((hWI (copyS H S) k9).1 14) g))
      refine g_if_eq C dX9_rings_51 56 (by decide) rfl (by omega) (fun c51 => ?_) (fun c51 => ?_)
      · skip
        refine g_aload_n C dX9_rings_56 rfl 1 rfl ?_
        refine g_get (v := .ref (bd 0)) (T := TX9) (N := 2) (ci := 8) C in_X9 0 rfl rfl 1 (by decide) wd245 (Or.inl rfl) rfl dX9_rings_57 rfl ?_
        refine g_perm (ws1 := wT E bd (hWI (copyS H S) k9) ++ ([(o, .inr (8, [.ref (ad 0), .ref (bd 0)]))] ++ (wT E ad S))) pm_201 ?_
        refine g_callVf (As := []) (rv := none) (w1 := wT E bd (hourW (hWI (copyS H S) k9))) (kc' := 0) (ks' := 0) C ([(o, .inr (8, [.ref (ad 0), .ref (bd 0)]))] ++ (wT E ad S)) (k_X7_passWaterHour l E bd (hWI (copyS H S) k9) kb27.1 (by omega)) mX7_passWaterHour iX7_passWaterHour wd868 0 6 rfl rfl rfl rfl rfl (Nat.le_of_ble_eq_true rfl) ⟨Nat.le_of_ble_eq_true rfl, Nat.le_of_ble_eq_true rfl⟩ ⟨Nat.le_of_ble_eq_true rfl, Nat.le_of_ble_eq_true rfl⟩ rfl rfl rfl dX9_rings_60 rfl ?_
        refine g_perm (ws1 := [(o, .inr (8, [.ref (ad 0), .ref (bd 0)]))] ++ (wT E ad S ++ (wT E bd (hourW (hWI (copyS H S) k9))))) pm_120 ?_
        refine g_iinc (lv' := [(2, .int (iI ((k9 : Int) + 1))), (0, .ref o), (1, .int (iI g))]) C dX9_rings_63 rfl 0 rfl (by decide) rfl ?_
        refine g_goto C dX9_rings_66 27 (by decide) ?_
        exact g_to [0, 1, 2] (ih27 (by omega) (fst_no hy27 (by show ¬ bI ((hWI (copyS H S) k9).1 15 g ≤ (hWI (copyS H S) k9).1 4 ((hWI (copyS H S) k9).1 14 g)) = 1; omega))) rfl rfl rfl
      · skip
        have hr54 : cgR (copyS H S) g = (k9 : Int) := fst_yes hy27 (by show bI ((hWI (copyS H S) k9).1 15 g ≤ (hWI (copyS H S) k9).1 4 ((hWI (copyS H S) k9).1 14 g)) = 1; omega) (by omega)
        have hn54 : cgN (copyS H S) g = k9 := by unfold cgN; rw [hr54, if_neg (by omega)]; rfl
        refine g_iload_n C dX9_rings_54 rfl 0 rfl ?_
        exact z_iret C Z rfl dX9_rings_55 (by rw [hr54]) (by rw [hn54])
  refine g_to [0, 1, 2] (L27 0 (by omega) (rfl)) rfl rfl rfl
