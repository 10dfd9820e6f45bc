abbrev r_X9_pass : Room := { frames := 6, cells := 0, slots := 0, locals := 135 }
set_option maxHeartbeats 4000000 in
set_option maxRecDepth 100000 in
theorem k_X9_pass (l : Launch) (E : gE) (o tr : Nat) (ad : Nat → Nat) (S : gS) (n : Nat) (hS : okT S) (hh : 0 ≤ S.2 0 ∧ S.2 0 ≤ 1999999000) (hH : okH S) (hn : 1 ≤ n ∧ n ≤ 36) : gK l E yX9_pass cX9_pass 3 (some .int) r_X9_pass [.ref o, .int (iI (n : Int))] ([(o, .inr (8, [.ref (ad 0), .ref tr]))] ++ (wT E ad S)) (some (.int (iI ((hoursI S n).2 5 - S.2 5)))) ([(o, .inr (8, [.ref (ad 0), .ref tr]))] ++ (wT E ad (hoursI S n))) := by
  refine gK_by RX9 rfl mX9_pass [(0, .ref o), (1, .int (iI (n : Int)))] (Nat.le_of_ble_eq_true rfl) rfl ?_
  intro zp ze zs zm za zb zh zc zA zQ C Z
  refine g_iload_n C dX9_pass_0 rfl 1 rfl ?_
  refine g_iconst C dX9_pass_1 rfl ?_
  refine g_bipush C dX9_pass_2 rfl rfl ?_
  refine g_callS1 (As := [.int (iI (n : Int)), .int (iI (1)), .int (iI (36))]) (rv := some (.int (iI (bI ((1) ≤ (n : Int) ∧ (n : Int) ≤ (36)))))) (kc' := 0) (ks' := 0) C (k_X9_isWithin l E (n : Int) (1) (36) (by omega) (by omega) (by omega)) mX9_isWithin wd415 wd414 rfl rfl (Nat.le_of_ble_eq_true rfl) ⟨Nat.le_of_ble_eq_true rfl, Nat.le_of_ble_eq_true rfl⟩ ⟨Nat.le_of_ble_eq_true rfl, Nat.le_of_ble_eq_true rfl⟩ rfl rfl dX9_pass_4 rfl ?_
  have n4 := bI_w ((1) ≤ (n : Int) ∧ (n : Int) ≤ (36))
  rw [show (bI ((1) ≤ (n : Int) ∧ (n : Int) ≤ (36))) = 1 from by omega]
  refine g_callS1 (As := [.int (iI (1))]) (rv := none) (kc' := 0) (ks' := 0) C (k_X9_checkArgument_1 l E) mX9_checkArgument wd489 wd488 rfl rfl (Nat.le_of_ble_eq_true rfl) ⟨Nat.le_of_ble_eq_true rfl, Nat.le_of_ble_eq_true rfl⟩ ⟨Nat.le_of_ble_eq_true rfl, Nat.le_of_ble_eq_true rfl⟩ rfl rfl dX9_pass_7 rfl ?_
  refine g_aload_n C dX9_pass_10 rfl 0 rfl ?_
  refine g_get (v := .ref (ad 0)) (T := TX9) (N := 2) (ci := 8) C in_X9 0 rfl rfl 0 (by decide) wd244 (Or.inl rfl) rfl dX9_pass_11 rfl ?_
  refine g_get (v := .ref (ad 21)) (T := TX7) (N := 8) (ci := 6) C in_X7 1 rfl rfl 5 (by decide) wd223 (Or.inl rfl) rfl dX9_pass_14 rfl ?_
  refine g_get (v := .int (iI (S.2 5))) (T := TX2) (N := 5) (ci := 2) C in_X2 22 rfl rfl 4 (by decide) wd169 (Or.inl rfl) rfl dX9_pass_17 rfl ?_
  refine g_istore_n (lv' := [(2, .int (iI (S.2 5))), (0, .ref o), (1, .int (iI (n : Int)))]) C dX9_pass_20 rfl (by decide) rfl ?_
  refine g_aload_n C dX9_pass_21 rfl 1 rfl ?_
  refine g_get (v := .ref (ad 0)) (T := TX9) (N := 2) (ci := 8) C in_X9 0 rfl rfl 0 (by decide) wd244 (Or.inl rfl) rfl dX9_pass_22 rfl ?_
  refine g_iload_n C dX9_pass_25 rfl 2 rfl ?_
  have kb26 := hoursI_b (S := S) hS hH n
  refine g_perm (ws1 := wT E ad S ++ ([(o, .inr (8, [.ref (ad 0), .ref tr]))])) pm_10 ?_
  refine g_callVf (As := [.int (iI (n : Int))]) (rv := none) (w1 := wT E ad (hoursI S n)) (kc' := 0) (ks' := 0) C ([(o, .inr (8, [.ref (ad 0), .ref tr]))]) (k_X7_passHours l E ad S n hS (by first | omega | (show 0 ≤ S.2 0 ∧ S.2 0 + (n : Int) ≤ 2000000000; omega)) hH (by omega)) mX7_passHours iX7_passHours wd718 0 6 rfl rfl rfl rfl rfl (Nat.le_of_ble_eq_true rfl) ⟨Nat.le_of_ble_eq_true rfl, Nat.le_of_ble_eq_true rfl⟩ ⟨Nat.le_of_ble_eq_true rfl, Nat.le_of_ble_eq_true rfl⟩ rfl rfl rfl dX9_pass_26 rfl ?_
  refine g_perm (ws1 := [(o, .inr (8, [.ref (ad 0), .ref tr]))] ++ (wT E ad (hoursI S n))) pm_10 ?_
  refine g_aload_n C dX9_pass_29 rfl 1 rfl ?_
  refine g_get (v := .ref (ad 0)) (T := TX9) (N := 2) (ci := 8) C in_X9 0 rfl rfl 0 (by decide) wd244 (Or.inl rfl) rfl dX9_pass_30 rfl ?_
  refine g_get (v := .ref (ad 21)) (T := TX7) (N := 8) (ci := 6) C in_X7 1 rfl rfl 5 (by decide) wd223 (Or.inl rfl) rfl dX9_pass_33 rfl ?_
  refine g_get (v := .int (iI ((hoursI S n).2 5))) (T := TX2) (N := 5) (ci := 2) C in_X2 22 rfl rfl 4 (by decide) wd169 (Or.inl rfl) rfl dX9_pass_36 rfl ?_
  refine g_iload_n C dX9_pass_39 rfl 0 rfl ?_
  refine g_isub C dX9_pass_40 rfl ?_
  exact z_iret C Z rfl dX9_pass_41 rfl rfl
abbrev r_X9_foresee : Room := { frames := 6, cells := 0, slots := 0, locals := 135 }
set_option maxHeartbeats 4000000 in
set_option maxRecDepth 100000 in
theorem k_X9_foresee (l : Launch) (E : gE) (o : Nat) (ad bd : Nat → Nat) (S H : gS) (n : Nat) (what : Int) (hS : okT S) (hH0 : okT H) (hh : 0 ≤ S.2 0 ∧ S.2 0 ≤ 1999999000) (hH : okH S) (hn : 1 ≤ n ∧ n ≤ 36) (hw : 0 ≤ what ∧ what ≤ 3) : gK l E yX9_foresee cX9_foresee 3 (some .int) r_X9_foresee [.ref o, .int (iI (n : Int)), .int (iI what)] ([(o, .inr (8, [.ref (ad 0), .ref (bd 0)]))] ++ (wT E ad S ++ (wT E bd H))) (some (.int (iI (cForV S (hoursI (copyS H S) n) what)))) ([(o, .inr (8, [.ref (ad 0), .ref (bd 0)]))] ++ (wT E ad S ++ (wT E bd (hoursI (copyS H S) n)))) := by
  refine gK_by RX9 rfl mX9_foresee [(0, .ref o), (1, .int (iI (n : Int))), (2, .int (iI what))] (Nat.le_of_ble_eq_true rfl) rfl ?_
  intro zp ze zs zm za zb zh zc zA zQ C Z
  refine g_iload_n C dX9_foresee_0 rfl 1 rfl ?_
  refine g_iconst C dX9_foresee_1 rfl ?_
  refine g_bipush C dX9_foresee_2 rfl rfl ?_
  refine g_callS1 (As := [.int (iI (n : Int)), .int (iI (1)), .int (iI (36))]) (rv := some (.int (iI (bI ((1) ≤ (n : Int) ∧ (n : Int) ≤ (36)))))) (kc' := 0) (ks' := 0) C (k_X9_isWithin l E (n : Int) (1) (36) (by omega) (by omega) (by omega)) mX9_isWithin wd415 wd414 rfl rfl (Nat.le_of_ble_eq_true rfl) ⟨Nat.le_of_ble_eq_true rfl, Nat.le_of_ble_eq_true rfl⟩ ⟨Nat.le_of_ble_eq_true rfl, Nat.le_of_ble_eq_true rfl⟩ rfl rfl dX9_foresee_4 rfl ?_
  have n4 := bI_w ((1) ≤ (n : Int) ∧ (n : Int) ≤ (36))
  rw [show (bI ((1) ≤ (n : Int) ∧ (n : Int) ≤ (36))) = 1 from by omega]
  refine g_callS1 (As := [.int (iI (1))]) (rv := none) (kc' := 0) (ks' := 0) C (k_X9_checkArgument_1 l E) mX9_checkArgument wd489 wd488 rfl rfl (Nat.le_of_ble_eq_true rfl) ⟨Nat.le_of_ble_eq_true rfl, Nat.le_of_ble_eq_true rfl⟩ ⟨Nat.le_of_ble_eq_true rfl, Nat.le_of_ble_eq_true rfl⟩ rfl rfl dX9_foresee_7 rfl ?_
  refine g_iload_n C dX9_foresee_10 rfl 2 rfl ?_
  refine g_iconst C dX9_foresee_11 rfl ?_
  refine g_iconst C dX9_foresee_12 rfl ?_
  refine g_callS1 (As := [.int (iI what), .int (iI (0)), .int (iI (3))]) (rv := some (.int (iI (bI ((0) ≤ what ∧ what ≤ (3)))))) (kc' := 0) (ks' := 0) C (k_X9_isWithin l E what (0) (3) (by omega) (by omega) (by omega)) mX9_isWithin wd415 wd414 rfl rfl (Nat.le_of_ble_eq_true rfl) ⟨Nat.le_of_ble_eq_true rfl, Nat.le_of_ble_eq_true rfl⟩ ⟨Nat.le_of_ble_eq_true rfl, Nat.le_of_ble_eq_true rfl⟩ rfl rfl dX9_foresee_13 rfl ?_
  have n13 := bI_w ((0) ≤ what ∧ what ≤ (3))
  rw [show (bI ((0) ≤ what ∧ what ≤ (3))) = 1 from by omega]
  refine g_callS1 (As := [.int (iI (1))]) (rv := none) (kc' := 0) (ks' := 0) C (k_X9_checkIndex_1 l E) mX9_checkIndex wd418 wd417 rfl rfl (Nat.le_of_ble_eq_true rfl) ⟨Nat.le_of_ble_eq_true rfl, Nat.le_of_ble_eq_true rfl⟩ ⟨Nat.le_of_ble_eq_true rfl, Nat.le_of_ble_eq_true rfl⟩ rfl rfl dX9_foresee_16 rfl ?_
  refine g_aload_n C dX9_foresee_19 rfl 0 rfl ?_
  refine g_get (v := .ref (bd 0)) (T := TX9) (N := 2) (ci := 8) C in_X9 0 rfl rfl 1 (by decide) wd245 (Or.inl rfl) rfl dX9_foresee_20 rfl ?_
  refine g_aload_n C dX9_foresee_23 rfl 0 rfl ?_
  refine g_get (v := .ref (ad 0)) (T := TX9) (N := 2) (ci := 8) C in_X9 0 rfl rfl 0 (by decide) wd244 (Or.inl rfl) rfl dX9_foresee_24 rfl ?_
  refine g_perm (ws1 := wT E bd H ++ (wT E ad S ++ ([(o, .inr (8, [.ref (ad 0), .ref (bd 0)]))]))) pm_210 ?_
  refine g_callVf (As := [.ref (ad 0)]) (rv := none) (w1 := wT E bd (copyS H S) ++ (wT E ad S)) (kc' := 0) (ks' := 0) C ([(o, .inr (8, [.ref (ad 0), .ref (bd 0)]))]) (k_X7_copyFrom l E bd ad H S hH0 hS) mX7_copyFrom iX7_copyFrom wd809 0 6 rfl rfl rfl rfl rfl (Nat.le_of_ble_eq_true rfl) ⟨Nat.le_of_ble_eq_true rfl, Nat.le_of_ble_eq_true rfl⟩ ⟨Nat.le_of_ble_eq_true rfl, Nat.le_of_ble_eq_true rfl⟩ rfl rfl (by simp only [List.append_assoc]) dX9_foresee_27 rfl ?_
  refine g_perm (ws1 := [(o, .inr (8, [.ref (ad 0), .ref (bd 0)]))] ++ (wT E ad S ++ (wT E bd (copyS H S)))) pm_210 ?_
  refine g_aload_n C dX9_foresee_30 rfl 0 rfl ?_
  refine g_get (v := .ref (bd 0)) (T := TX9) (N := 2) (ci := 8) C in_X9 0 rfl rfl 1 (by decide) wd245 (Or.inl rfl) rfl dX9_foresee_31 rfl ?_
  refine g_iload_n C dX9_foresee_34 rfl 1 rfl ?_
  have kb35 := hoursI_b (S := (copyS H S)) (okT_copy hH0 hS) (okH_copy (S := H) hH) n
  refine g_perm (ws1 := wT E bd (copyS H S) ++ ([(o, .inr (8, [.ref (ad 0), .ref (bd 0)]))] ++ (wT E ad S))) pm_201 ?_
  refine g_callVf (As := [.int (iI (n : Int))]) (rv := none) (w1 := wT E bd (hoursI (copyS H S) n)) (kc' := 0) (ks' := 0) C ([(o, .inr (8, [.ref (ad 0), .ref (bd 0)]))] ++ (wT E ad S)) (k_X7_passHours l E bd (copyS H S) n (okT_copy hH0 hS) (by first | omega | (show 0 ≤ S.2 0 ∧ S.2 0 + (n : Int) ≤ 2000000000; omega)) (okH_copy (S := H) hH) (by omega)) mX7_passHours iX7_passHours wd718 0 6 rfl rfl rfl rfl rfl (Nat.le_of_ble_eq_true rfl) ⟨Nat.le_of_ble_eq_true rfl, Nat.le_of_ble_eq_true rfl⟩ ⟨Nat.le_of_ble_eq_true rfl, Nat.le_of_ble_eq_true rfl⟩ rfl rfl rfl dX9_foresee_35 rfl ?_
  refine g_perm (ws1 := [(o, .inr (8, [.ref (ad 0), .ref (bd 0)]))] ++ (wT E ad S ++ (wT E bd (hoursI (copyS H S) n)))) pm_120 ?_
  refine g_iload_n C dX9_foresee_38 rfl 2 rfl ?_
  by_cases c39_0 : what = 0
  · refine g_tableIn C dX9_foresee_39 64 0 c39_0 (by omega) (by decide) (by decide) rfl (by decide) ?_
    refine g_aload_n C dX9_foresee_64 rfl 0 rfl ?_
    refine g_get (v := .ref (bd 0)) (T := TX9) (N := 2) (ci := 8) C in_X9 0 rfl rfl 1 (by decide) wd245 (Or.inl rfl) rfl dX9_foresee_65 rfl ?_
    refine g_get (v := .ref (bd 21)) (T := TX7) (N := 8) (ci := 6) C in_X7 33 rfl rfl 5 (by decide) wd223 (Or.inl rfl) rfl dX9_foresee_68 rfl ?_
    refine g_iconst C dX9_foresee_71 rfl ?_
    refine g_perm (ws1 := wT E bd (hoursI (copyS H S) n) ++ ([(o, .inr (8, [.ref (ad 0), .ref (bd 0)]))] ++ (wT E ad S))) pm_201 ?_
    refine g_callVf (As := [.int (iI (2))]) (rv := some (.int (iI (hsum (hoursI (copyS H S) n) (2))))) (w1 := wT E bd (hoursI (copyS H S) n)) (kc' := 0) (ks' := 0) C ([(o, .inr (8, [.ref (ad 0), .ref (bd 0)]))] ++ (wT E ad S)) (k_X2_peopleWho l E bd (hoursI (copyS H S) n) (2) kb35.1 (by omega)) mX2_peopleWho iX2_peopleWho wd255 21 2 rfl rfl rfl rfl rfl (Nat.le_of_ble_eq_true rfl) ⟨Nat.le_of_ble_eq_true rfl, Nat.le_of_ble_eq_true rfl⟩ ⟨Nat.le_of_ble_eq_true rfl, Nat.le_of_ble_eq_true rfl⟩ rfl rfl rfl dX9_foresee_72 rfl ?_
    refine g_perm (ws1 := [(o, .inr (8, [.ref (ad 0), .ref (bd 0)]))] ++ (wT E ad S ++ (wT E bd (hoursI (copyS H S) n)))) pm_120 ?_
    have n72 := hsum_b (S := (hoursI (copyS H S) n)) (st := (2)) kb35.1
    exact z_iret C Z rfl dX9_foresee_75 (by exact congrArg (fun z => some (Value.int (iI z))) (by unfold cForV; first | (rw [if_pos (by omega)]) | (rw [if_neg (by omega), if_pos (by omega)]) | (rw [if_neg (by omega), if_neg (by omega), if_pos (by omega)]) | (rw [if_neg (by omega), if_neg (by omega), if_neg (by omega)]))) rfl
  by_cases c39_1 : what = 1
  · refine g_tableIn C dX9_foresee_39 76 1 c39_1 (by omega) (by decide) (by decide) rfl (by decide) ?_
    refine g_aload_n C dX9_foresee_76 rfl 0 rfl ?_
    refine g_get (v := .ref (bd 0)) (T := TX9) (N := 2) (ci := 8) C in_X9 0 rfl rfl 1 (by decide) wd245 (Or.inl rfl) rfl dX9_foresee_77 rfl ?_
    refine g_get (v := .ref (bd 21)) (T := TX7) (N := 8) (ci := 6) C in_X7 33 rfl rfl 5 (by decide) wd223 (Or.inl rfl) rfl dX9_foresee_80 rfl ?_
    refine g_get (v := .int (iI ((hoursI (copyS H S) n).2 5))) (T := TX2) (N := 5) (ci := 2) C in_X2 54 rfl rfl 4 (by decide) wd169 (Or.inl rfl) rfl dX9_foresee_83 rfl ?_
    refine g_aload_n C dX9_foresee_86 rfl 0 rfl ?_
    refine g_get (v := .ref (ad 0)) (T := TX9) (N := 2) (ci := 8) C in_X9 0 rfl rfl 0 (by decide) wd244 (Or.inl rfl) rfl dX9_foresee_87 rfl ?_
    refine g_get (v := .ref (ad 21)) (T := TX7) (N := 8) (ci := 6) C in_X7 1 rfl rfl 5 (by decide) wd223 (Or.inl rfl) rfl dX9_foresee_90 rfl ?_
    refine g_get (v := .int (iI (S.2 5))) (T := TX2) (N := 5) (ci := 2) C in_X2 22 rfl rfl 4 (by decide) wd169 (Or.inl rfl) rfl dX9_foresee_93 rfl ?_
    refine g_isub C dX9_foresee_96 rfl ?_
    exact z_iret C Z rfl dX9_foresee_97 (by exact congrArg (fun z => some (Value.int (iI z))) (by unfold cForV; first | (rw [if_pos (by omega)]) | (rw [if_neg (by omega), if_pos (by omega)]) | (rw [if_neg (by omega), if_neg (by omega), if_pos (by omega)]) | (rw [if_neg (by omega), if_neg (by omega), if_neg (by omega)]))) rfl
  by_cases c39_2 : what = 2
  · refine g_tableIn C dX9_foresee_39 98 2 c39_2 (by omega) (by decide) (by decide) rfl (by decide) ?_
    refine g_aload_n C dX9_foresee_98 rfl 0 rfl ?_
    refine g_get (v := .ref (bd 0)) (T := TX9) (N := 2) (ci := 8) C in_X9 0 rfl rfl 1 (by decide) wd245 (Or.inl rfl) rfl dX9_foresee_99 rfl ?_
    refine g_get (v := .ref (bd 1)) (T := TX7) (N := 8) (ci := 6) C in_X7 33 rfl rfl 1 (by decide) wd215 (Or.inl rfl) rfl dX9_foresee_102 rfl ?_
    refine g_perm (ws1 := wT E bd (hoursI (copyS H S) n) ++ ([(o, .inr (8, [.ref (ad 0), .ref (bd 0)]))] ++ (wT E ad S))) pm_201 ?_
    refine g_callVf (As := []) (rv := some (.int (iI (wet ((hoursI (copyS H S) n).1 4))))) (w1 := wT E bd (hoursI (copyS H S) n)) (kc' := 0) (ks' := 0) C ([(o, .inr (8, [.ref (ad 0), .ref (bd 0)]))] ++ (wT E ad S)) (k_X3_wetStreets l E bd (hoursI (copyS H S) n) (okT_L (S := (hoursI (copyS H S) n)) kb35.1)) mX3_wetStreets iX3_wetStreets wd855 1 3 rfl rfl rfl rfl rfl (Nat.le_of_ble_eq_true rfl) ⟨Nat.le_of_ble_eq_true rfl, Nat.le_of_ble_eq_true rfl⟩ ⟨Nat.le_of_ble_eq_true rfl, Nat.le_of_ble_eq_true rfl⟩ rfl rfl rfl dX9_foresee_105 rfl ?_
    refine g_perm (ws1 := [(o, .inr (8, [.ref (ad 0), .ref (bd 0)]))] ++ (wT E ad S ++ (wT E bd (hoursI (copyS H S) n)))) pm_120 ?_
    exact z_iret C Z rfl dX9_foresee_108 (by exact congrArg (fun z => some (Value.int (iI z))) (by unfold cForV; first | (rw [if_pos (by omega)]) | (rw [if_neg (by omega), if_pos (by omega)]) | (rw [if_neg (by omega), if_neg (by omega), if_pos (by omega)]) | (rw [if_neg (by omega), if_neg (by omega), if_neg (by omega)]))) rfl
  refine g_tableOut C dX9_foresee_39 109 (by omega) (by omega) (by decide) ?_
  refine g_aload_n C dX9_foresee_109 rfl 0 rfl ?_
  refine g_get (v := .ref (bd 0)) (T := TX9) (N := 2) (ci := 8) C in_X9 0 rfl rfl 1 (by decide) wd245 (Or.inl rfl) rfl dX9_foresee_110 rfl ?_
  refine g_get (v := .ref (bd 7)) (T := TX7) (N := 8) (ci := 6) C in_X7 33 rfl rfl 2 (by decide) wd217 (Or.inl rfl) rfl dX9_foresee_113 rfl ?_
  refine g_perm (ws1 := wT E bd (hoursI (copyS H S) n) ++ ([(o, .inr (8, [.ref (ad 0), .ref (bd 0)]))] ++ (wT E ad S))) pm_201 ?_
  refine g_callVf (As := []) (rv := some (.int (iI (sm ((hoursI (copyS H S) n).1 10) 0 (((hoursI (copyS H S) n).2 1)).toNat)))) (w1 := wT E bd (hoursI (copyS H S) n)) (kc' := 0) (ks' := 0) C ([(o, .inr (8, [.ref (ad 0), .ref (bd 0)]))] ++ (wT E ad S)) (k_X5_fuelOfAll l E bd (hoursI (copyS H S) n) kb35.1) mX5_fuelOfAll iX5_fuelOfAll wd856 7 4 rfl rfl rfl rfl rfl (Nat.le_of_ble_eq_true rfl) ⟨Nat.le_of_ble_eq_true rfl, Nat.le_of_ble_eq_true rfl⟩ ⟨Nat.le_of_ble_eq_true rfl, Nat.le_of_ble_eq_true rfl⟩ rfl rfl rfl dX9_foresee_116 rfl ?_
  refine g_perm (ws1 := [(o, .inr (8, [.ref (ad 0), .ref (bd 0)]))] ++ (wT E ad S ++ (wT E bd (hoursI (copyS H S) n)))) pm_120 ?_
  exact z_iret C Z rfl dX9_foresee_119 (by exact congrArg (fun z => some (Value.int (iI z))) (by unfold cForV; first | (rw [if_pos (by omega)]) | (rw [if_neg (by omega), if_pos (by omega)]) | (rw [if_neg (by omega), if_neg (by omega), if_pos (by omega)]) | (rw [if_neg (by omega), if_neg (by omega), if_neg (by omega)]))) rfl
abbrev r_X9_rings : Room := { frames := 4, cells := 0, slots := 0, locals := 88 }
set_option maxHeartbeats 4000000 in
set_option maxRecDepth 100000 in
theorem k_X9_rings (l : Launch) (E : gE) (o : Nat) (ad bd : Nat → Nat) (S H : gS) (g : Int) (hS : okT S) (hH0 : okT H) (hh : 0 ≤ S.2 0 ∧ S.2 0 ≤ 1999999000) (hg : 0 ≤ g ∧ g < S.2 2) : gK l E yX9_rings cX9_rings 3 (some .int) r_X9_rings [.ref o, .int (iI g)] ([(o, .inr (8, [.ref (ad 0), .ref (bd 0)]))] ++ (wT E ad S ++ (wT E bd H))) (some (.int (iI (cgR (copyS H S) g)))) ([(o, .inr (8, [.ref (ad 0), .ref (bd 0)]))] ++ (wT E ad S ++ (wT E bd (hWI (copyS H S) (cgN (copyS H S) g))))) := by
  refine gK_by RX9 rfl mX9_rings [(0, .ref o), (1, .int (iI g))] (Nat.le_of_ble_eq_true rfl) rfl ?_
  intro zp ze zs zm za zb zh zc zA zQ C Z
  have hi1 := okT_i2 hS
  refine g_aload_n C dX9_rings_0 rfl 0 rfl ?_
  refine g_get (v := .ref (ad 0)) (T := TX9) (N := 2) (ci := 8) C in_X9 0 rfl rfl 0 (by decide) wd244 (Or.inl rfl) rfl dX9_rings_1 rfl ?_
  refine g_get (v := .ref (ad 13)) (T := TX7) (N := 8) (ci := 6) C in_X7 1 rfl rfl 3 (by decide) wd219 (Or.inl rfl) rfl dX9_rings_4 rfl ?_
  refine g_iload_n C dX9_rings_7 rfl 1 rfl ?_
  refine g_perm (ws1 := wT E ad S ++ ([(o, .inr (8, [.ref (ad 0), .ref (bd 0)]))] ++ (wT E bd H))) pm_102 ?_
  refine g_callUf (As := [.int (iI g)]) (rv := some (.int (iI (bI (0 ≤ g ∧ g < (S.2 2)))))) (w1 := wT E ad S) (kc' := 0) (ks' := 0) C "FloodWardens$Numbered" RX1 ([(o, .inr (8, [.ref (ad 0), .ref (bd 0)]))] ++ (wT E bd H)) (k_X4_has_X1 l E ad S g hS (by omega)) mX4_has ⟨wd591, wd673, wd672⟩ rfl (by decide +kernel) wd671 13 1 rfl rfl rfl rfl rfl (Nat.le_of_ble_eq_true rfl) ⟨Nat.le_of_ble_eq_true rfl, Nat.le_of_ble_eq_true rfl⟩ ⟨Nat.le_of_ble_eq_true rfl, Nat.le_of_ble_eq_true rfl⟩ rfl rfl rfl dX9_rings_8 rfl ?_
  refine g_perm (ws1 := [(o, .inr (8, [.ref (ad 0), .ref (bd 0)]))] ++ (wT E ad S ++ (wT E bd H))) pm_102 ?_
  have n8 := bI_w (0 ≤ g ∧ g < (S.2 2))
  rw [show (bI (0 ≤ g ∧ g < (S.2 2))) = 1 from by omega]
  refine g_callS1 (As := [.int (iI (1))]) (rv := none) (kc' := 0) (ks' := 0) C (k_X9_checkIndex_1 l E) mX9_checkIndex wd418 wd417 rfl rfl (Nat.le_of_ble_eq_true rfl) ⟨Nat.le_of_ble_eq_true rfl, Nat.le_of_ble_eq_true rfl⟩ ⟨Nat.le_of_ble_eq_true rfl, Nat.le_of_ble_eq_true rfl⟩ rfl rfl dX9_rings_11 rfl ?_
  refine g_aload_n C dX9_rings_14 rfl 0 rfl ?_
  refine g_get (v := .ref (bd 0)) (T := TX9) (N := 2) (ci := 8) C in_X9 0 rfl rfl 1 (by decide) wd245 (Or.inl rfl) rfl dX9_rings_15 rfl ?_
  refine g_aload_n C dX9_rings_18 rfl 0 rfl ?_
  refine g_get (v := .ref (ad 0)) (T := TX9) (N := 2) (ci := 8) C in_X9 0 rfl rfl 0 (by decide) wd244 (Or.inl rfl) rfl dX9_rings_19 rfl ?_
  refine g_perm (ws1 := wT E bd H ++ (wT E ad S ++ ([(o, .inr (8, [.ref (ad 0), .ref (bd 0)]))]))) pm_210 ?_
  refine g_callVf (As := [.ref (ad 0)]) (rv := none) (w1 := wT E bd (copyS H S) ++ (wT E ad S)) (kc' := 0) (ks' := 0) C ([(o, .inr (8, [.ref (ad 0), .ref (bd 0)]))]) (k_X7_copyFrom l E bd ad H S hH0 hS) mX7_copyFrom iX7_copyFrom wd809 0 6 rfl rfl rfl rfl rfl (Nat.le_of_ble_eq_true rfl) ⟨Nat.le_of_ble_eq_true rfl, Nat.le_of_ble_eq_true rfl⟩ ⟨Nat.le_of_ble_eq_true rfl, Nat.le_of_ble_eq_true rfl⟩ rfl rfl (by simp only [List.append_assoc]) dX9_rings_22 rfl ?_
  refine g_perm (ws1 := [(o, .inr (8, [.ref (ad 0), .ref (bd 0)]))] ++ (wT E ad S ++ (wT E bd (copyS H S)))) pm_210 ?_
  refine g_iconst C dX9_rings_25 rfl ?_
  refine g_istore_n (lv' := [(2, .int (iI (0))), (0, .ref o), (1, .int (iI g))]) C dX9_rings_26 rfl (by decide) rfl ?_
  have L27 : ∀ k9 : Nat, k9 ≤ 48 → (fstI (cgF (copyS H S) g) 1 k9 = -1) → gG E zp l ze r_X9_rings zs zm za zb zh zc zA 3 0 0 zQ ([(o, .inr (8, [.ref (ad 0), .ref (bd 0)]))] ++ (wT E ad S ++ (wT E bd (hWI (copyS H S) k9)))) 27 [(2, .int (iI (k9 : Int))), (0, .ref o), (1, .int (iI g))] [] := by
    refine g_up (48) _ ?_
    intro k9 ih27 hk27 hy27
    have kb27 := hWI_b (okT_copy hH0 hS) k9
    have eh27 : (hWI (copyS H S) k9).2 0 = S.2 0 + (k9 : Int) := kb27.2.1
    refine g_iload_n C dX9_rings_27 rfl 0 rfl ?_
    refine g_bipush C dX9_rings_28 rfl rfl ?_
    refine g_icmp_ge C dX9_rings_30 69 (by decide) rfl (by omega) (by omega) (fun c30 => ?_) (fun c30 => ?_)
    · skip
      have hk69 : k9 = 48 := by omega
      refine g_aload_n C dX9_rings_69 rfl 1 rfl ?_
      refine g_get (v := .ref (bd 0)) (T := TX9) (N := 2) (ci := 8) C in_X9 0 rfl rfl 1 (by decide) wd245 (Or.inl rfl) rfl dX9_rings_70 rfl ?_
      refine g_get (v := .ref (bd 13)) (T := TX7) (N := 8) (ci := 6) C in_X7 33 rfl rfl 3 (by decide) wd219 (Or.inl rfl) rfl dX9_rings_73 rfl ?_
      refine g_iload_n C dX9_rings_76 rfl 2 rfl ?_
      refine g_aload_n C dX9_rings_77 rfl 1 rfl ?_
      refine g_get (v := .ref (bd 0)) (T := TX9) (N := 2) (ci := 8) C in_X9 0 rfl rfl 1 (by decide) wd245 (Or.inl rfl) rfl dX9_rings_78 rfl ?_
      refine g_get (v := .ref (bd 1)) (T := TX7) (N := 8) (ci := 6) C in_X7 33 rfl rfl 1 (by decide) wd215 (Or.inl rfl) rfl dX9_rings_81 rfl ?_
      refine g_perm (ws1 := wT E bd (hWI (copyS H S) k9) ++ ([(o, .inr (8, [.ref (ad 0), .ref (bd 0)]))] ++ (wT E ad S))) pm_201 ?_
      refine g_callVf (As := [.int (iI g), .ref (bd 1)]) (rv := some (.int (iI (bI (((hWI (copyS H S) k9).1 15) g ≤ ((hWI (copyS H S) k9).1 4) (((hWI (copyS H S) k9).1 14) g)))))) (w1 := wT E bd (hWI (copyS H S) k9)) (kc' := 0) (ks' := 0) C ([(o, .inr (8, [.ref (ad 0), .ref (bd 0)]))] ++ (wT E ad S)) (k_X1_isRinging l E bd (hWI (copyS H S) k9) g kb27.1 (by omega)) mX1_isRinging iX1_isRinging wd867 13 1 rfl rfl rfl rfl rfl (Nat.le_of_ble_eq_true rfl) ⟨Nat.le_of_ble_eq_true rfl, Nat.le_of_ble_eq_true rfl⟩ ⟨Nat.le_of_ble_eq_true rfl, Nat.le_of_ble_eq_true rfl⟩ rfl rfl rfl dX9_rings_84 rfl ?_
      refine g_perm (ws1 := [(o, .inr (8, [.ref (ad 0), .ref (bd 0)]))] ++ (wT E ad S ++ (wT E bd (hWI (copyS H S) k9)))) pm_120 ?_
      have n84 := bI_w (((hWI (copyS H S) k9).1 15) g ≤ ((hWI (copyS H S) k9).1 4) (((hWI (copyS H S) k9).1 14) g))
      refine g_if_eq C dX9_rings_87 95 (by decide) rfl (by omega) (fun c87 => ?_) (fun c87 => ?_)
      · skip
        have h95 := fst_no (k := k9) hy27 (by show ¬ bI ((hWI (copyS H S) k9).1 15 g ≤ (hWI (copyS H S) k9).1 4 ((hWI (copyS H S) k9).1 14 g)) = 1; omega)
        rw [show k9 + 1 = 49 from by omega] at h95
        have hr54 : cgR (copyS H S) g = -1 := h95
        have hn54 : cgN (copyS H S) g = k9 := by unfold cgN; rw [hr54, if_pos rfl]; omega
        refine g_iconst C dX9_rings_95 rfl ?_
        exact z_iret C Z rfl dX9_rings_96 (by rw [hr54]) (by rw [hn54])
      · skip
        have hr54 : cgR (copyS H S) g = 48 := (fst_yes (k := k9) hy27 (by show bI ((hWI (copyS H S) k9).1 15 g ≤ (hWI (copyS H S) k9).1 4 ((hWI (copyS H S) k9).1 14 g)) = 1; omega) (by omega)).trans (by omega)
        have hn54 : cgN (copyS H S) g = k9 := by unfold cgN; rw [hr54, if_neg (by omega)]; omega
        refine g_bipush C dX9_rings_90 rfl rfl ?_
        refine g_goto C dX9_rings_92 96 (by decide) ?_
        exact z_iret C Z rfl dX9_rings_96 (by rw [hr54]) (by rw [hn54])
    · skip
      refine g_aload_n C dX9_rings_33 rfl 1 rfl ?_
      refine g_get (v := .ref (bd 0)) (T := TX9) (N := 2) (ci := 8) C in_X9 0 rfl rfl 1 (by decide) wd245 (Or.inl rfl) rfl dX9_rings_34 rfl ?_
      refine g_get (v := .ref (bd 13)) (T := TX7) (N := 8) (ci := 6) C in_X7 33 rfl rfl 3 (by decide) wd219 (Or.inl rfl) rfl dX9_rings_37 rfl ?_
      refine g_iload_n C dX9_rings_40 rfl 2 rfl ?_
      refine g_aload_n C dX9_rings_41 rfl 1 rfl ?_
      refine g_get (v := .ref (bd 0)) (T := TX9) (N := 2) (ci := 8) C in_X9 0 rfl rfl 1 (by decide) wd245 (Or.inl rfl) rfl dX9_rings_42 rfl ?_
      refine g_get (v := .ref (bd 1)) (T := TX7) (N := 8) (ci := 6) C in_X7 33 rfl rfl 1 (by decide) wd215 (Or.inl rfl) rfl dX9_rings_45 rfl ?_
      refine g_perm (ws1 := wT E bd (hWI (copyS H S) k9) ++ ([(o, .inr (8, [.ref (ad 0), .ref (bd 0)]))] ++ (wT E ad S))) pm_201 ?_
      refine g_callVf (As := [.int (iI g), .ref (bd 1)]) (rv := some (.int (iI (bI (((hWI (copyS H S) k9).1 15) g ≤ ((hWI (copyS H S) k9).1 4) (((hWI (copyS H S) k9).1 14) g)))))) (w1 := wT E bd (hWI (copyS H S) k9)) (kc' := 0) (ks' := 0) C ([(o, .inr (8, [.ref (ad 0), .ref (bd 0)]))] ++ (wT E ad S)) (k_X1_isRinging l E bd (hWI (copyS H S) k9) g kb27.1 (by omega)) mX1_isRinging iX1_isRinging wd867 13 1 rfl rfl rfl rfl rfl (Nat.le_of_ble_eq_true rfl) ⟨Nat.le_of_ble_eq_true rfl, Nat.le_of_ble_eq_true rfl⟩ ⟨Nat.le_of_ble_eq_true rfl, Nat.le_of_ble_eq_true rfl⟩ rfl rfl rfl dX9_rings_48 rfl ?_
      refine g_perm (ws1 := [(o, .inr (8, [.ref (ad 0), .ref (bd 0)]))] ++ (wT E ad S ++ (wT E bd (hWI (copyS H S) k9)))) pm_120 ?_
      have n48 := bI_w (((hWI (copyS H S) k9).1 15) g ≤ ((hWI (copyS H S) k9).1 4) (((hWI (copyS H S) k9).1 14) g))
      refine g_if_eq C dX9_rings_51 56 (by decide) rfl (by omega) (fun c51 => ?_) (fun c51 => ?_)
      · skip
        refine g_aload_n C dX9_rings_56 rfl 1 rfl ?_
        refine g_get (v := .ref (bd 0)) (T := TX9) (N := 2) (ci := 8) C in_X9 0 rfl rfl 1 (by decide) wd245 (Or.inl rfl) rfl dX9_rings_57 rfl ?_
        refine g_perm (ws1 := wT E bd (hWI (copyS H S) k9) ++ ([(o, .inr (8, [.ref (ad 0), .ref (bd 0)]))] ++ (wT E ad S))) pm_201 ?_
        refine g_callVf (As := []) (rv := none) (w1 := wT E bd (hourW (hWI (copyS H S) k9))) (kc' := 0) (ks' := 0) C ([(o, .inr (8, [.ref (ad 0), .ref (bd 0)]))] ++ (wT E ad S)) (k_X7_passWaterHour l E bd (hWI (copyS H S) k9) kb27.1 (by omega)) mX7_passWaterHour iX7_passWaterHour wd868 0 6 rfl rfl rfl rfl rfl (Nat.le_of_ble_eq_true rfl) ⟨Nat.le_of_ble_eq_true rfl, Nat.le_of_ble_eq_true rfl⟩ ⟨Nat.le_of_ble_eq_true rfl, Nat.le_of_ble_eq_true rfl⟩ rfl rfl rfl dX9_rings_60 rfl ?_
        refine g_perm (ws1 := [(o, .inr (8, [.ref (ad 0), .ref (bd 0)]))] ++ (wT E ad S ++ (wT E bd (hourW (hWI (copyS H S) k9))))) pm_120 ?_
        refine g_iinc (lv' := [(2, .int (iI ((k9 : Int) + 1))), (0, .ref o), (1, .int (iI g))]) C dX9_rings_63 rfl 0 rfl (by decide) rfl ?_
        refine g_goto C dX9_rings_66 27 (by decide) ?_
        exact g_to [0, 1, 2] (ih27 (by omega) (fst_no hy27 (by show ¬ bI ((hWI (copyS H S) k9).1 15 g ≤ (hWI (copyS H S) k9).1 4 ((hWI (copyS H S) k9).1 14 g)) = 1; omega))) rfl rfl rfl
      · skip
        have hr54 : cgR (copyS H S) g = (k9 : Int) := fst_yes hy27 (by show bI ((hWI (copyS H S) k9).1 15 g ≤ (hWI (copyS H S) k9).1 4 ((hWI (copyS H S) k9).1 14 g)) = 1; omega) (by omega)
        have hn54 : cgN (copyS H S) g = k9 := by unfold cgN; rw [hr54, if_neg (by omega)]; rfl
        refine g_iload_n C dX9_rings_54 rfl 0 rfl ?_
        exact z_iret C Z rfl dX9_rings_55 (by rw [hr54]) (by rw [hn54])
  refine g_to [0, 1, 2] (L27 0 (by omega) (rfl)) rfl rfl rfl
abbrev r_X9_waterBehind : Room := { frames := 4, cells := 0, slots := 0, locals := 88 }
set_option maxHeartbeats 4000000 in
set_option maxRecDepth 100000 in
theorem k_X9_waterBehind (l : Launch) (E : gE) (o : Nat) (ad bd : Nat → Nat) (S H : gS) (n : Nat) (q : Int) (hS : okT S) (hH0 : okT H) (hh : 0 ≤ S.2 0 ∧ S.2 0 ≤ 1999999000) (hq : q = -1 ∨ (0 ≤ q ∧ q < 80) ∧ S.1 3 q < 5) (hn : n ≤ 6) : gK l E yX9_waterBehind cX9_waterBehind 4 (some .int) r_X9_waterBehind [.ref o, .int (iI (n : Int)), .int (iI q)] ([(o, .inr (8, [.ref (ad 0), .ref (bd 0)]))] ++ (wT E ad S ++ (wT E bd H))) (some (.int (iI (cvV (cwX S H q n))))) ([(o, .inr (8, [.ref (ad 0), .ref (bd 0)]))] ++ (wT E ad S ++ (wT E bd (cwX S H q n)))) := by
  refine gK_by RX9 rfl mX9_waterBehind [(0, .ref o), (1, .int (iI (n : Int))), (2, .int (iI q))] (Nat.le_of_ble_eq_true rfl) rfl ?_
  intro zp ze zs zm za zb zh zc zA zQ C Z
  refine g_aload_n C dX9_waterBehind_0 rfl 0 rfl ?_
  refine g_get (v := .ref (bd 0)) (T := TX9) (N := 2) (ci := 8) C in_X9 0 rfl rfl 1 (by decide) wd245 (Or.inl rfl) rfl dX9_waterBehind_1 rfl ?_
  refine g_aload_n C dX9_waterBehind_4 rfl 0 rfl ?_
  refine g_get (v := .ref (ad 0)) (T := TX9) (N := 2) (ci := 8) C in_X9 0 rfl rfl 0 (by decide) wd244 (Or.inl rfl) rfl dX9_waterBehind_5 rfl ?_
  refine g_perm (ws1 := wT E bd H ++ (wT E ad S ++ ([(o, .inr (8, [.ref (ad 0), .ref (bd 0)]))]))) pm_210 ?_
  refine g_callVf (As := [.ref (ad 0)]) (rv := none) (w1 := wT E bd (copyS H S) ++ (wT E ad S)) (kc' := 0) (ks' := 0) C ([(o, .inr (8, [.ref (ad 0), .ref (bd 0)]))]) (k_X7_copyFrom l E bd ad H S hH0 hS) mX7_copyFrom iX7_copyFrom wd809 0 6 rfl rfl rfl rfl rfl (Nat.le_of_ble_eq_true rfl) ⟨Nat.le_of_ble_eq_true rfl, Nat.le_of_ble_eq_true rfl⟩ ⟨Nat.le_of_ble_eq_true rfl, Nat.le_of_ble_eq_true rfl⟩ rfl rfl (by simp only [List.append_assoc]) dX9_waterBehind_8 rfl ?_
  refine g_perm (ws1 := [(o, .inr (8, [.ref (ad 0), .ref (bd 0)]))] ++ (wT E ad S ++ (wT E bd (copyS H S)))) pm_210 ?_
  refine g_iload_n C dX9_waterBehind_11 rfl 2 rfl ?_
  have J12 : gG E zp l ze r_X9_waterBehind zs zm za zb zh zc zA 4 0 0 zQ ([(o, .inr (8, [.ref (ad 0), .ref (bd 0)]))] ++ (wT E ad S ++ (wT E bd (cwB S H q)))) 37 [(0, .ref o), (1, .int (iI (n : Int))), (2, .int (iI q))] [] := by
    refine g_iconst C dX9_waterBehind_37 rfl ?_
    refine g_istore_n (lv' := [(3, .int (iI (0))), (0, .ref o), (1, .int (iI (n : Int))), (2, .int (iI q))]) C dX9_waterBehind_38 rfl (by decide) rfl ?_
    have L39 : ∀ k9 : Nat, k9 ≤ n → gG E zp l ze r_X9_waterBehind zs zm za zb zh zc zA 4 0 0 zQ ([(o, .inr (8, [.ref (ad 0), .ref (bd 0)]))] ++ (wT E ad S ++ (wT E bd (hWI (cwB S H q) k9)))) 39 [(3, .int (iI (k9 : Int))), (0, .ref o), (1, .int (iI (n : Int))), (2, .int (iI q))] [] := by
      refine g_up (n) _ ?_
      intro k9 ih39 hk39
      have iv39_0 := hWI_b (okT_cw hS hH0 hq) k9
      obtain ⟨x, hx39⟩ : ∃ z, z = hWI (cwB S H q) k9 := ⟨_, rfl⟩
      rw [← hx39]
      rw [← hx39] at iv39_0
      have eh39 : x.2 0 = S.2 0 + (k9 : Int) := iv39_0.2.1.trans (by rw [cw_0])
      refine g_iload_n C dX9_waterBehind_39 rfl 0 rfl ?_
      refine g_iload_n C dX9_waterBehind_40 rfl 2 rfl ?_
      refine g_icmp_ge C dX9_waterBehind_41 57 (by decide) rfl (by omega) (by omega) (fun c41 => ?_) (fun c41 => ?_)
      · skip
        have hz39 : x = cwX S H q n := by rw [hx39, show k9 = n from by omega]; rfl
        refine g_aload_n C dX9_waterBehind_57 rfl 1 rfl ?_
        refine g_get (v := .ref (bd 0)) (T := TX9) (N := 2) (ci := 8) C in_X9 0 rfl rfl 1 (by decide) wd245 (Or.inl rfl) rfl dX9_waterBehind_58 rfl ?_
        refine g_get (v := .ref (bd 1)) (T := TX7) (N := 8) (ci := 6) C in_X7 33 rfl rfl 1 (by decide) wd215 (Or.inl rfl) rfl dX9_waterBehind_61 rfl ?_
        refine g_perm (ws1 := wT E bd x ++ ([(o, .inr (8, [.ref (ad 0), .ref (bd 0)]))] ++ (wT E ad S))) pm_201 ?_
        refine g_callVf (As := []) (rv := some (.int (iI (sm (x.1 4) 10 70)))) (w1 := wT E bd x) (kc' := 0) (ks' := 0) C ([(o, .inr (8, [.ref (ad 0), .ref (bd 0)]))] ++ (wT E ad S)) (k_X3_waterInStreets l E bd x (okT_L (S := x) iv39_0.1)) mX3_waterInStreets iX3_waterInStreets wd880 1 3 rfl rfl rfl rfl rfl (Nat.le_of_ble_eq_true rfl) ⟨Nat.le_of_ble_eq_true rfl, Nat.le_of_ble_eq_true rfl⟩ ⟨Nat.le_of_ble_eq_true rfl, Nat.le_of_ble_eq_true rfl⟩ rfl rfl rfl dX9_waterBehind_64 rfl ?_
        refine g_perm (ws1 := [(o, .inr (8, [.ref (ad 0), .ref (bd 0)]))] ++ (wT E ad S ++ (wT E bd x))) pm_120 ?_
        have n64 := sm_b (o := 10) (okT_4 iv39_0.1) 70
        exact z_iret C Z rfl dX9_waterBehind_67 (by rw [← hz39]; rfl) (by rw [hz39])
      · skip
        refine g_aload_n C dX9_waterBehind_44 rfl 1 rfl ?_
        refine g_get (v := .ref (bd 0)) (T := TX9) (N := 2) (ci := 8) C in_X9 0 rfl rfl 1 (by decide) wd245 (Or.inl rfl) rfl dX9_waterBehind_45 rfl ?_
        refine g_perm (ws1 := wT E bd x ++ ([(o, .inr (8, [.ref (ad 0), .ref (bd 0)]))] ++ (wT E ad S))) pm_201 ?_
        refine g_callVf (As := []) (rv := none) (w1 := wT E bd (hourW x)) (kc' := 0) (ks' := 0) C ([(o, .inr (8, [.ref (ad 0), .ref (bd 0)]))] ++ (wT E ad S)) (k_X7_passWaterHour l E bd x iv39_0.1 (by omega)) mX7_passWaterHour iX7_passWaterHour wd868 0 6 rfl rfl rfl rfl rfl (Nat.le_of_ble_eq_true rfl) ⟨Nat.le_of_ble_eq_true rfl, Nat.le_of_ble_eq_true rfl⟩ ⟨Nat.le_of_ble_eq_true rfl, Nat.le_of_ble_eq_true rfl⟩ rfl rfl rfl dX9_waterBehind_48 rfl ?_
        refine g_perm (ws1 := [(o, .inr (8, [.ref (ad 0), .ref (bd 0)]))] ++ (wT E ad S ++ (wT E bd (hourW x)))) pm_120 ?_
        refine g_iinc (lv' := [(3, .int (iI ((k9 : Int) + 1))), (0, .ref o), (1, .int (iI (n : Int))), (2, .int (iI q))]) C dX9_waterBehind_51 rfl 0 rfl (by decide) rfl ?_
        refine g_goto C dX9_waterBehind_54 39 (by decide) ?_
        have e39 : hWB k9 x = (hourW x) := by
          rfl
        have i39 := ih39 (by omega)
        rw [show hWI (cwB S H q) (k9 + 1) = (hourW x) from by rw [← e39, hx39]; rfl] at i39
        exact g_to [0, 1, 2, 3] (i39) rfl rfl rfl
    refine g_to [0, 1, 2, 3] (L39 0 (by omega)) rfl rfl rfl
  refine g_if_lt C dX9_waterBehind_12 37 (by decide) rfl (by omega) (fun c12 => ?_) (fun c12 => ?_)
  · skip
    exact g_to [0, 1, 2] (J12) (by unfold cwB; first | (rw [if_pos (by omega)]) | (rw [if_neg (by omega)])) rfl rfl
  · skip
    refine g_iload_n C dX9_waterBehind_15 rfl 2 rfl ?_
    refine g_bipush C dX9_waterBehind_16 rfl rfl ?_
    refine g_icmp_ge C dX9_waterBehind_18 37 (by decide) rfl (by omega) (by omega) (fun c18 => ?_) (fun c18 => ?_)
    · skip
      exact g_to [0, 1, 2] (J12) (by unfold cwB; first | (rw [if_pos (by omega)]) | (rw [if_neg (by omega)])) rfl rfl
    · skip
      refine g_aload_n C dX9_waterBehind_21 rfl 0 rfl ?_
      refine g_get (v := .ref (bd 0)) (T := TX9) (N := 2) (ci := 8) C in_X9 0 rfl rfl 1 (by decide) wd245 (Or.inl rfl) rfl dX9_waterBehind_22 rfl ?_
      refine g_get (v := .ref (bd 1)) (T := TX7) (N := 8) (ci := 6) C in_X7 33 rfl rfl 1 (by decide) wd215 (Or.inl rfl) rfl dX9_waterBehind_25 rfl ?_
      refine g_get (v := .ref (bd 3)) (T := TX3) (N := 5) (ci := 3) C in_X3 34 rfl rfl 1 (by decide) wd45 (Or.inl rfl) rfl dX9_waterBehind_28 rfl ?_
      refine g_iload_n C dX9_waterBehind_31 rfl 2 rfl ?_
      refine g_dup2 C dX9_waterBehind_32 rfl rfl rfl ?_
      refine g_iald (f := ((copyS H S).1 3)) C dX9_waterBehind_33 rfl 36 rfl (by omega) (by decide) ?_
      have b33 := okT_3 (okT_copy hH0 hS) q
      refine g_iconst C dX9_waterBehind_34 rfl ?_
      refine g_iadd C dX9_waterBehind_35 rfl ?_
      refine g_iast (f := ((copyS H S).1 3)) (ws' := [(o, .inr (8, [.ref (ad 0), .ref (bd 0)]))] ++ (wT E ad S ++ (wT E bd (setA (copyS H S) 3 (fset ((copyS H S).1 3) q ((((copyS H S).1 3) q) + (1))))))) C dX9_waterBehind_36 rfl 36 rfl (by omega) (by decide) rfl ?_
      exact g_to [0, 1, 2] (J12) (by unfold cwB; first | (rw [if_pos (by omega)]) | (rw [if_neg (by omega)])) rfl rfl
abbrev r_X9_advise : Room := { frames := 5, cells := 0, slots := 0, locals := 111 }
set_option maxHeartbeats 4000000 in
set_option maxRecDepth 100000 in
theorem k_X9_advise (l : Launch) (E : gE) (o : Nat) (ad bd : Nat → Nat) (S H : gS) (n : Nat) (hS : okT S) (hH0 : okT H) (hh : 0 ≤ S.2 0 ∧ S.2 0 ≤ 1999999000) (hn : 1 ≤ n ∧ n ≤ 6) : gK l E yX9_advise cX9_advise 7 (some .int) r_X9_advise [.ref o, .int (iI (n : Int))] ([(o, .inr (8, [.ref (ad 0), .ref (bd 0)]))] ++ (wT E ad S ++ (wT E bd H))) (some (.int (iI (caI S H n 10).2.1))) ([(o, .inr (8, [.ref (ad 0), .ref (bd 0)]))] ++ (wT E ad S ++ (wT E bd (caI S H n 10).1))) := by
  refine gK_by RX9 rfl mX9_advise [(0, .ref o), (1, .int (iI (n : Int)))] (Nat.le_of_ble_eq_true rfl) rfl ?_
  intro zp ze zs zm za zb zh zc zA zQ C Z
  refine g_iload_n C dX9_advise_0 rfl 1 rfl ?_
  refine g_iconst C dX9_advise_1 rfl ?_
  refine g_bipush C dX9_advise_2 rfl rfl ?_
  refine g_callS1 (As := [.int (iI (n : Int)), .int (iI (1)), .int (iI (6))]) (rv := some (.int (iI (bI ((1) ≤ (n : Int) ∧ (n : Int) ≤ (6)))))) (kc' := 0) (ks' := 0) C (k_X9_isWithin l E (n : Int) (1) (6) (by omega) (by omega) (by omega)) mX9_isWithin wd415 wd414 rfl rfl (Nat.le_of_ble_eq_true rfl) ⟨Nat.le_of_ble_eq_true rfl, Nat.le_of_ble_eq_true rfl⟩ ⟨Nat.le_of_ble_eq_true rfl, Nat.le_of_ble_eq_true rfl⟩ rfl rfl dX9_advise_4 rfl ?_
  have n4 := bI_w ((1) ≤ (n : Int) ∧ (n : Int) ≤ (6))
  rw [show (bI ((1) ≤ (n : Int) ∧ (n : Int) ≤ (6))) = 1 from by omega]
  refine g_callS1 (As := [.int (iI (1))]) (rv := none) (kc' := 0) (ks' := 0) C (k_X9_checkArgument_1 l E) mX9_checkArgument wd489 wd488 rfl rfl (Nat.le_of_ble_eq_true rfl) ⟨Nat.le_of_ble_eq_true rfl, Nat.le_of_ble_eq_true rfl⟩ ⟨Nat.le_of_ble_eq_true rfl, Nat.le_of_ble_eq_true rfl⟩ rfl rfl dX9_advise_7 rfl ?_
  refine g_iconst C dX9_advise_10 rfl ?_
  refine g_istore_n (lv' := [(2, .int (iI (-1))), (0, .ref o), (1, .int (iI (n : Int)))]) C dX9_advise_11 rfl (by decide) rfl ?_
  refine g_aload_n C dX9_advise_12 rfl 1 rfl ?_
  refine g_iload_n C dX9_advise_13 rfl 2 rfl ?_
  refine g_iconst C dX9_advise_14 rfl ?_
  have kb15 := cwX_b (S := S) (H := H) (q := (-1)) (n := n) hS hH0 (by omega)
  refine g_callV0 (As := [.int (iI (n : Int)), .int (iI (-1))]) (rv := some (.int (iI (cvV (cwX S H (-1) n))))) (w1 := [(o, .inr (8, [.ref (ad 0), .ref (bd 0)]))] ++ (wT E ad S ++ (wT E bd (cwX S H (-1) n)))) (kc' := 0) (ks' := 0) C (k_X9_waterBehind l E o ad bd S H n (-1) hS hH0 (by omega) (by omega) (by omega)) mX9_waterBehind iX9_waterBehind wd876 0 8 rfl rfl rfl rfl rfl (Nat.le_of_ble_eq_true rfl) ⟨Nat.le_of_ble_eq_true rfl, Nat.le_of_ble_eq_true rfl⟩ ⟨Nat.le_of_ble_eq_true rfl, Nat.le_of_ble_eq_true rfl⟩ rfl rfl dX9_advise_15 rfl ?_
  have n15 := kb15.2
  refine g_istore_n (lv' := [(3, .int (iI (cvV (cwX S H (-1) n)))), (2, .int (iI (-1))), (0, .ref o), (1, .int (iI (n : Int)))]) C dX9_advise_18 rfl (by decide) rfl ?_
  refine g_iconst C dX9_advise_19 rfl ?_
  refine g_istore (lv' := [(4, .int (iI (0))), (3, .int (iI (cvV (cwX S H (-1) n)))), (2, .int (iI (-1))), (0, .ref o), (1, .int (iI (n : Int)))]) C dX9_advise_20 rfl (by decide) rfl ?_
  have L22 : ∀ k9 : Nat, k9 ≤ 10 → gG E zp l ze r_X9_advise zs zm za zb zh zc zA 7 0 0 zQ ([(o, .inr (8, [.ref (ad 0), .ref (bd 0)]))] ++ (wT E ad S ++ (wT E bd (caI S H n k9).1))) 22 [(4, .int (iI (k9 : Int))), (3, .int (iI (caI S H n k9).2.2)), (2, .int (iI (caI S H n k9).2.1)), (0, .ref o), (1, .int (iI (n : Int)))] [] := by
    refine g_up (10) _ ?_
    intro k9 ih22 hk22
    have iv22_0 := caI_b (n := n) hS hH0 k9 hk22
    obtain ⟨x, hx22⟩ : ∃ z, z = caI S H n k9 := ⟨_, rfl⟩
    rw [← hx22]
    rw [← hx22] at iv22_0
    have bl22 := iv22_0.2
    refine g_iload C dX9_advise_22 rfl 0 rfl ?_
    refine g_bipush C dX9_advise_24 rfl rfl ?_
    refine g_icmp_ge C dX9_advise_26 81 (by decide) rfl (by omega) (by omega) (fun c26 => ?_) (fun c26 => ?_)
    · skip
      have hz22 : x = caI S H n 10 := by rw [hx22, show k9 = 10 from by omega] <;> rfl
      refine g_iload_n C dX9_advise_81 rfl 2 rfl ?_
      exact z_iret C Z rfl dX9_advise_82 (by rw [hz22]) (by rw [hz22])
    · skip
      refine g_iload C dX9_advise_29 rfl 0 rfl ?_
      refine g_iconst C dX9_advise_31 rfl ?_
      refine g_callS1 (As := [.int (iI (k9 : Int)), .int (iI (1))]) (rv := some (.int (iI (10 * (1) + (k9 : Int))))) (kc' := 0) (ks' := 0) C (k_X9_placeOf l E (k9 : Int) (1)) mX9_placeOf wd508 wd507 rfl rfl (Nat.le_of_ble_eq_true rfl) ⟨Nat.le_of_ble_eq_true rfl, Nat.le_of_ble_eq_true rfl⟩ ⟨Nat.le_of_ble_eq_true rfl, Nat.le_of_ble_eq_true rfl⟩ rfl rfl dX9_advise_32 rfl ?_
      refine g_istore (lv' := [(5, .int (iI (10 * (1) + (k9 : Int)))), (4, .int (iI (k9 : Int))), (3, .int (iI x.2.2)), (2, .int (iI x.2.1)), (0, .ref o), (1, .int (iI (n : Int)))]) C dX9_advise_35 rfl (by decide) rfl ?_
      refine g_aload_n C dX9_advise_37 rfl 4 rfl ?_
      refine g_get (v := .ref (ad 0)) (T := TX9) (N := 2) (ci := 8) C in_X9 0 rfl rfl 0 (by decide) wd244 (Or.inl rfl) rfl dX9_advise_38 rfl ?_
      refine g_get (v := .ref (ad 1)) (T := TX7) (N := 8) (ci := 6) C in_X7 1 rfl rfl 1 (by decide) wd215 (Or.inl rfl) rfl dX9_advise_41 rfl ?_
      refine g_get (v := .ref (ad 3)) (T := TX3) (N := 5) (ci := 3) C in_X3 2 rfl rfl 1 (by decide) wd45 (Or.inl rfl) rfl dX9_advise_44 rfl ?_
      refine g_iload C dX9_advise_47 rfl 0 rfl ?_
      refine g_iald (f := (S.1 3)) C dX9_advise_49 rfl 4 rfl (by omega) (by decide) ?_
      have b49 := okT_3 hS (10 * (1) + (k9 : Int))
      refine g_iconst C dX9_advise_50 rfl ?_
      refine g_icmp_ge C dX9_advise_51 75 (by decide) rfl (by omega) (by omega) (fun c51 => ?_) (fun c51 => ?_)
      · skip
        refine g_iinc (lv' := [(4, .int (iI ((k9 : Int) + 1))), (5, .int (iI (10 * (1) + (k9 : Int)))), (3, .int (iI x.2.2)), (2, .int (iI x.2.1)), (0, .ref o), (1, .int (iI (n : Int)))]) C dX9_advise_75 rfl 1 rfl (by decide) rfl ?_
        refine g_goto C dX9_advise_78 22 (by decide) ?_
        have e22 : (caB S n) k9 x = (x.1, x.2.1, x.2.2) := by
          unfold caB
          first | (rw [if_pos (by omega)] <;> rfl) | (rw [if_neg (by omega), if_pos (by omega)] <;> rfl) | (rw [if_neg (by omega), if_neg (by omega)] <;> rfl)
        have i22 := ih22 (by omega)
        rw [show caI S H n (k9 + 1) = (x.1, x.2.1, x.2.2) from by rw [← e22, hx22]; rfl] at i22
        exact g_to [0, 2, 3, 4, 5] (i22) rfl rfl rfl
      · skip
        refine g_aload_n C dX9_advise_54 rfl 4 rfl ?_
        refine g_iload_n C dX9_advise_55 rfl 5 rfl ?_
        refine g_iload C dX9_advise_56 rfl 0 rfl ?_
        have kb58 := cwX_b (S := S) (H := x.1) (q := (10 * (1) + (k9 : Int))) (n := n) hS iv22_0.1 (by omega)
        refine g_callV0 (As := [.int (iI (n : Int)), .int (iI (10 * (1) + (k9 : Int)))]) (rv := some (.int (iI (cvV (cwX S x.1 (10 * (1) + (k9 : Int)) n))))) (w1 := [(o, .inr (8, [.ref (ad 0), .ref (bd 0)]))] ++ (wT E ad S ++ (wT E bd (cwX S x.1 (10 * (1) + (k9 : Int)) n)))) (kc' := 0) (ks' := 0) C (k_X9_waterBehind l E o ad bd S x.1 n (10 * (1) + (k9 : Int)) hS iv22_0.1 (by omega) (by omega) (by omega)) mX9_waterBehind iX9_waterBehind wd876 0 8 rfl rfl rfl rfl rfl (Nat.le_of_ble_eq_true rfl) ⟨Nat.le_of_ble_eq_true rfl, Nat.le_of_ble_eq_true rfl⟩ ⟨Nat.le_of_ble_eq_true rfl, Nat.le_of_ble_eq_true rfl⟩ rfl rfl dX9_advise_58 rfl ?_
        have n58 := kb58.2
        refine g_istore (lv' := [(6, .int (iI (cvV (cwX S x.1 (10 * (1) + (k9 : Int)) n)))), (5, .int (iI (10 * (1) + (k9 : Int)))), (4, .int (iI (k9 : Int))), (3, .int (iI x.2.2)), (2, .int (iI x.2.1)), (0, .ref o), (1, .int (iI (n : Int)))]) C dX9_advise_61 rfl (by decide) rfl ?_
        refine g_iload C dX9_advise_63 rfl 0 rfl ?_
        refine g_iload_n C dX9_advise_65 rfl 3 rfl ?_
        refine g_icmp_ge C dX9_advise_66 75 (by decide) rfl (by omega) (by omega) (fun c66 => ?_) (fun c66 => ?_)
        · skip
          refine g_iinc (lv' := [(4, .int (iI ((k9 : Int) + 1))), (6, .int (iI (cvV (cwX S x.1 (10 * (1) + (k9 : Int)) n)))), (5, .int (iI (10 * (1) + (k9 : Int)))), (3, .int (iI x.2.2)), (2, .int (iI x.2.1)), (0, .ref o), (1, .int (iI (n : Int)))]) C dX9_advise_75 rfl 2 rfl (by decide) rfl ?_
          refine g_goto C dX9_advise_78 22 (by decide) ?_
          have e22 : (caB S n) k9 x = ((cwX S x.1 (10 * (1) + (k9 : Int)) n), x.2.1, x.2.2) := by
            unfold caB
            first | (rw [if_pos (by omega)] <;> rfl) | (rw [if_neg (by omega), if_pos (by omega)] <;> rfl) | (rw [if_neg (by omega), if_neg (by omega)] <;> rfl)
          have i22 := ih22 (by omega)
          rw [show caI S H n (k9 + 1) = ((cwX S x.1 (10 * (1) + (k9 : Int)) n), x.2.1, x.2.2) from by rw [← e22, hx22]; rfl] at i22
          exact g_to [0, 3, 4, 5, 6] (i22) rfl rfl rfl
        · skip
          refine g_iload C dX9_advise_69 rfl 0 rfl ?_
          refine g_istore_n (lv' := [(3, .int (iI (cvV (cwX S x.1 (10 * (1) + (k9 : Int)) n)))), (6, .int (iI (cvV (cwX S x.1 (10 * (1) + (k9 : Int)) n)))), (5, .int (iI (10 * (1) + (k9 : Int)))), (4, .int (iI (k9 : Int))), (2, .int (iI x.2.1)), (0, .ref o), (1, .int (iI (n : Int)))]) C dX9_advise_71 rfl (by decide) rfl ?_
          refine g_iload C dX9_advise_72 rfl 3 rfl ?_
          refine g_istore_n (lv' := [(2, .int (iI (k9 : Int))), (3, .int (iI (cvV (cwX S x.1 (10 * (1) + (k9 : Int)) n)))), (6, .int (iI (cvV (cwX S x.1 (10 * (1) + (k9 : Int)) n)))), (5, .int (iI (10 * (1) + (k9 : Int)))), (4, .int (iI (k9 : Int))), (0, .ref o), (1, .int (iI (n : Int)))]) C dX9_advise_74 rfl (by decide) rfl ?_
          refine g_iinc (lv' := [(4, .int (iI ((k9 : Int) + 1))), (2, .int (iI (k9 : Int))), (3, .int (iI (cvV (cwX S x.1 (10 * (1) + (k9 : Int)) n)))), (6, .int (iI (cvV (cwX S x.1 (10 * (1) + (k9 : Int)) n)))), (5, .int (iI (10 * (1) + (k9 : Int)))), (0, .ref o), (1, .int (iI (n : Int)))]) C dX9_advise_75 rfl 4 rfl (by decide) rfl ?_
          refine g_goto C dX9_advise_78 22 (by decide) ?_
          have e22 : (caB S n) k9 x = ((cwX S x.1 (10 * (1) + (k9 : Int)) n), (k9 : Int), (cvV (cwX S x.1 (10 * (1) + (k9 : Int)) n))) := by
            unfold caB
            first | (rw [if_pos (by omega)] <;> rfl) | (rw [if_neg (by omega), if_pos (by omega)] <;> rfl) | (rw [if_neg (by omega), if_neg (by omega)] <;> rfl)
          have i22 := ih22 (by omega)
          rw [show caI S H n (k9 + 1) = ((cwX S x.1 (10 * (1) + (k9 : Int)) n), (k9 : Int), (cvV (cwX S x.1 (10 * (1) + (k9 : Int)) n))) from by rw [← e22, hx22]; rfl] at i22
          exact g_to [0, 2, 1, 5, 6] (i22) rfl rfl rfl
  refine g_to [0, 1, 2, 3, 4] (L22 0 (by omega)) rfl rfl rfl
abbrev r_X9_share : Room := { frames := 1, cells := 0, slots := 0, locals := 23 }
set_option maxHeartbeats 4000000 in
set_option maxRecDepth 100000 in
theorem k_X9_share (l : Launch) (E : gE) (o tr : Nat) (ad : Nat → Nat) (S : gS) (hS : okT S) : gK l E yX9_share cX9_share 3 (some .double) r_X9_share [.ref o] ([(o, .inr (8, [.ref (ad 0), .ref tr]))] ++ (wT E ad S)) (some (.double (shr (hsum S 2) (hsum S 2 + hsum S 0 + hsum S 1)))) ([(o, .inr (8, [.ref (ad 0), .ref tr]))] ++ (wT E ad S)) := by
  refine gK_by RX9 rfl mX9_share [(0, .ref o)] (Nat.le_of_ble_eq_true rfl) rfl ?_
  intro zp ze zs zm za zb zh zc zA zQ C Z
  refine g_aload_n C dX9_share_0 rfl 0 rfl ?_
  refine g_get (v := .ref (ad 0)) (T := TX9) (N := 2) (ci := 8) C in_X9 0 rfl rfl 0 (by decide) wd244 (Or.inl rfl) rfl dX9_share_1 rfl ?_
  refine g_get (v := .ref (ad 21)) (T := TX7) (N := 8) (ci := 6) C in_X7 1 rfl rfl 5 (by decide) wd223 (Or.inl rfl) rfl dX9_share_4 rfl ?_
  refine g_iconst C dX9_share_7 rfl ?_
  refine g_perm (ws1 := wT E ad S ++ ([(o, .inr (8, [.ref (ad 0), .ref tr]))])) pm_10 ?_
  refine g_callVf (As := [.int (iI (2))]) (rv := some (.int (iI (hsum S (2))))) (w1 := wT E ad S) (kc' := 0) (ks' := 0) C ([(o, .inr (8, [.ref (ad 0), .ref tr]))]) (k_X2_peopleWho l E ad S (2) hS (by omega)) mX2_peopleWho iX2_peopleWho wd255 21 2 rfl rfl rfl rfl rfl (Nat.le_of_ble_eq_true rfl) ⟨Nat.le_of_ble_eq_true rfl, Nat.le_of_ble_eq_true rfl⟩ ⟨Nat.le_of_ble_eq_true rfl, Nat.le_of_ble_eq_true rfl⟩ rfl rfl rfl dX9_share_8 rfl ?_
  refine g_perm (ws1 := [(o, .inr (8, [.ref (ad 0), .ref tr]))] ++ (wT E ad S)) pm_10 ?_
  have n8 := hsum_b (S := S) (st := (2)) hS
  refine g_istore_n (lv' := [(1, .int (iI (hsum S (2)))), (0, .ref o)]) C dX9_share_11 rfl (by decide) rfl ?_
  refine g_iload_n C dX9_share_12 rfl 0 rfl ?_
  refine g_aload_n C dX9_share_13 rfl 1 rfl ?_
  refine g_get (v := .ref (ad 0)) (T := TX9) (N := 2) (ci := 8) C in_X9 0 rfl rfl 0 (by decide) wd244 (Or.inl rfl) rfl dX9_share_14 rfl ?_
  refine g_get (v := .ref (ad 21)) (T := TX7) (N := 8) (ci := 6) C in_X7 1 rfl rfl 5 (by decide) wd223 (Or.inl rfl) rfl dX9_share_17 rfl ?_
  refine g_iconst C dX9_share_20 rfl ?_
  refine g_perm (ws1 := wT E ad S ++ ([(o, .inr (8, [.ref (ad 0), .ref tr]))])) pm_10 ?_
  refine g_callVf (As := [.int (iI (0))]) (rv := some (.int (iI (hsum S (0))))) (w1 := wT E ad S) (kc' := 0) (ks' := 0) C ([(o, .inr (8, [.ref (ad 0), .ref tr]))]) (k_X2_peopleWho l E ad S (0) hS (by omega)) mX2_peopleWho iX2_peopleWho wd255 21 2 rfl rfl rfl rfl rfl (Nat.le_of_ble_eq_true rfl) ⟨Nat.le_of_ble_eq_true rfl, Nat.le_of_ble_eq_true rfl⟩ ⟨Nat.le_of_ble_eq_true rfl, Nat.le_of_ble_eq_true rfl⟩ rfl rfl rfl dX9_share_21 rfl ?_
  refine g_perm (ws1 := [(o, .inr (8, [.ref (ad 0), .ref tr]))] ++ (wT E ad S)) pm_10 ?_
  have n21 := hsum_b (S := S) (st := (0)) hS
  refine g_iadd C dX9_share_24 rfl ?_
  refine g_aload_n C dX9_share_25 rfl 1 rfl ?_
  refine g_get (v := .ref (ad 0)) (T := TX9) (N := 2) (ci := 8) C in_X9 0 rfl rfl 0 (by decide) wd244 (Or.inl rfl) rfl dX9_share_26 rfl ?_
  refine g_get (v := .ref (ad 21)) (T := TX7) (N := 8) (ci := 6) C in_X7 1 rfl rfl 5 (by decide) wd223 (Or.inl rfl) rfl dX9_share_29 rfl ?_
  refine g_iconst C dX9_share_32 rfl ?_
  refine g_perm (ws1 := wT E ad S ++ ([(o, .inr (8, [.ref (ad 0), .ref tr]))])) pm_10 ?_
  refine g_callVf (As := [.int (iI (1))]) (rv := some (.int (iI (hsum S (1))))) (w1 := wT E ad S) (kc' := 0) (ks' := 0) C ([(o, .inr (8, [.ref (ad 0), .ref tr]))]) (k_X2_peopleWho l E ad S (1) hS (by omega)) mX2_peopleWho iX2_peopleWho wd255 21 2 rfl rfl rfl rfl rfl (Nat.le_of_ble_eq_true rfl) ⟨Nat.le_of_ble_eq_true rfl, Nat.le_of_ble_eq_true rfl⟩ ⟨Nat.le_of_ble_eq_true rfl, Nat.le_of_ble_eq_true rfl⟩ rfl rfl rfl dX9_share_33 rfl ?_
  refine g_perm (ws1 := [(o, .inr (8, [.ref (ad 0), .ref tr]))] ++ (wT E ad S)) pm_10 ?_
  have n33 := hsum_b (S := S) (st := (1)) hS
  refine g_iadd C dX9_share_36 rfl ?_
  refine g_istore_n (lv' := [(2, .int (iI (((hsum S (2)) + (hsum S (0))) + (hsum S (1))))), (1, .int (iI (hsum S (2)))), (0, .ref o)]) C dX9_share_37 rfl (by decide) rfl ?_
  refine g_iload_n C dX9_share_38 rfl 0 rfl ?_
  refine g_if_le C dX9_share_39 50 (by decide) rfl (by omega) (fun c39 => ?_) (fun c39 => ?_)
  · skip
    refine g_dconst0 C dX9_share_50 rfl ?_
    exact z_dret C Z dX9_share_51 (by unfold shr; first | (rw [if_pos (by omega)] <;> rfl) | (rw [if_neg (by omega)] <;> rfl)) rfl
  · skip
    refine g_iload_n C dX9_share_42 rfl 1 rfl ?_
    refine g_i2d C dX9_share_43 rfl ?_
    refine g_iload_n C dX9_share_44 rfl 0 rfl ?_
    refine g_i2d C dX9_share_45 rfl ?_
    refine g_ddiv C dX9_share_46 rfl (shr_n (by omega) (by omega)) ?_
    refine g_goto C dX9_share_47 51 (by decide) ?_
    exact z_dret C Z dX9_share_51 (by unfold shr; first | (rw [if_pos (by omega)] <;> rfl) | (rw [if_neg (by omega)] <;> rfl)) rfl
