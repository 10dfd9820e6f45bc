abbrev r_X7_passWaterHour : Room := { frames := 3, cells := 0, slots := 0, locals := 68 }
set_option maxHeartbeats 4000000 in
set_option maxRecDepth 100000 in
theorem k_X7_passWaterHour (l : Launch) (E : gE) (ad : Nat → Nat) (S : gS) (hS : okT S) (hh : 0 ≤ S.2 0 ∧ S.2 0 ≤ 2000000000) : gK l E yX7_passWaterHour cX7_passWaterHour 1 none r_X7_passWaterHour [.ref (ad 0)] (wT E ad S) (none) (wT E ad (hourW S)) := by
  refine gK_by RX7 rfl mX7_passWaterHour [(0, .ref (ad 0))] (Nat.le_of_ble_eq_true rfl) rfl ?_
  intro zp ze zs zm za zb zh zc zA zQ C Z
  refine g_aload_n C dX7_passWaterHour_0 rfl 0 rfl ?_
  refine g_get (v := .ref (ad 1)) (T := TX7) (N := 8) (ci := 6) C in_X7 0 rfl rfl 1 (by decide) wd214 (Or.inl rfl) rfl dX7_passWaterHour_1 rfl ?_
  refine g_aload_n C dX7_passWaterHour_4 rfl 0 rfl ?_
  refine g_get (v := .int (iI (S.2 0))) (T := TX7) (N := 8) (ci := 6) C in_X7 0 rfl rfl 0 (by decide) wd213 (Or.inl rfl) rfl dX7_passWaterHour_5 rfl ?_
  refine g_callV0 (As := [.int (iI (S.2 0))]) (rv := none) (w1 := wT E ad (setA S 4 (rise (S.1 6) (S.1 4) (S.2 0)))) (kc' := 0) (ks' := 0) C (k_X3_rise l E ad S (S.2 0) (by omega) hS) mX3_rise iX3_rise wd730 1 3 rfl rfl rfl rfl rfl (Nat.le_of_ble_eq_true rfl) ⟨Nat.le_of_ble_eq_true rfl, Nat.le_of_ble_eq_true rfl⟩ ⟨Nat.le_of_ble_eq_true rfl, Nat.le_of_ble_eq_true rfl⟩ rfl rfl dX7_passWaterHour_8 rfl ?_
  refine g_aload_n C dX7_passWaterHour_11 rfl 0 rfl ?_
  refine g_get (v := .ref (ad 1)) (T := TX7) (N := 8) (ci := 6) C in_X7 0 rfl rfl 1 (by decide) wd214 (Or.inl rfl) rfl dX7_passWaterHour_12 rfl ?_
  refine g_callV0 (As := []) (rv := none) (w1 := wT E ad (flowS (setA S 4 (rise (S.1 6) (S.1 4) (S.2 0))))) (kc' := 0) (ks' := 0) C (k_X3_flow l E ad (setA S 4 (rise (S.1 6) (S.1 4) (S.2 0))) (okT_s4 (S := S) hS (rise_b (okT_6 (S := S) hS) (okT_4 (S := S) hS)))) mX3_flow iX3_flow wd737 1 3 rfl rfl rfl rfl rfl (Nat.le_of_ble_eq_true rfl) ⟨Nat.le_of_ble_eq_true rfl, Nat.le_of_ble_eq_true rfl⟩ ⟨Nat.le_of_ble_eq_true rfl, Nat.le_of_ble_eq_true rfl⟩ rfl rfl dX7_passWaterHour_15 rfl ?_
  refine g_aload_n C dX7_passWaterHour_18 rfl 0 rfl ?_
  refine g_get (v := .ref (ad 7)) (T := TX7) (N := 8) (ci := 6) C in_X7 0 rfl rfl 2 (by decide) wd216 (Or.inl rfl) rfl dX7_passWaterHour_19 rfl ?_
  refine g_aload_n C dX7_passWaterHour_22 rfl 0 rfl ?_
  refine g_get (v := .ref (ad 1)) (T := TX7) (N := 8) (ci := 6) C in_X7 0 rfl rfl 1 (by decide) wd214 (Or.inl rfl) rfl dX7_passWaterHour_23 rfl ?_
  refine g_callV0 (As := [.ref (ad 1)]) (rv := none) (w1 := wT E ad (workS (flowS (setA S 4 (rise (S.1 6) (S.1 4) (S.2 0)))))) (kc' := 0) (ks' := 0) C (k_X5_work l E ad (flowS (setA S 4 (rise (S.1 6) (S.1 4) (S.2 0)))) (okT_flow (S := (setA S 4 (rise (S.1 6) (S.1 4) (S.2 0)))) (okT_s4 (S := S) hS (rise_b (okT_6 (S := S) hS) (okT_4 (S := S) hS))))) mX5_work iX5_work wd757 7 4 rfl rfl rfl rfl rfl (Nat.le_of_ble_eq_true rfl) ⟨Nat.le_of_ble_eq_true rfl, Nat.le_of_ble_eq_true rfl⟩ ⟨Nat.le_of_ble_eq_true rfl, Nat.le_of_ble_eq_true rfl⟩ rfl rfl dX7_passWaterHour_26 rfl ?_
  refine g_aload_n C dX7_passWaterHour_29 rfl 0 rfl ?_
  refine g_dup C dX7_passWaterHour_30 rfl rfl ?_
  refine g_get (v := .int (iI ((workS (flowS (setA S 4 (rise (S.1 6) (S.1 4) (S.2 0))))).2 0))) (T := TX7) (N := 8) (ci := 6) C in_X7 0 rfl rfl 0 (by decide) wd213 (Or.inl rfl) rfl dX7_passWaterHour_31 rfl ?_
  refine g_iconst C dX7_passWaterHour_34 rfl ?_
  refine g_iadd C dX7_passWaterHour_35 rfl ?_
  refine g_put (T := TX7) (N := 8) (ci := 6) (ws' := wT E ad (setI (workS (flowS (setA S 4 (rise (S.1 6) (S.1 4) (S.2 0))))) 0 (((workS (flowS (setA S 4 (rise (S.1 6) (S.1 4) (S.2 0))))).2 0) + (1)))) C in_X7 tyX7 tyX7_ok nmX7 0 rfl rfl 0 (by decide) wd213 (Or.inl rfl) rfl (ty := .int) (by decide +kernel) rfl rfl (Nat.le_of_ble_eq_true rfl) rfl dX7_passWaterHour_36 rfl ?_
  exact z_vret C Z dX7_passWaterHour_39 rfl rfl
abbrev r_X7_passHour : Room := { frames := 4, cells := 0, slots := 0, locals := 93 }
set_option maxHeartbeats 4000000 in
set_option maxRecDepth 100000 in
theorem k_X7_passHour (l : Launch) (E : gE) (ad : Nat → Nat) (S : gS) (hS : okT S) (hh : 0 ≤ S.2 0 ∧ S.2 0 ≤ 2000000000) (hH : okH S) : gK l E yX7_passHour cX7_passHour 1 none r_X7_passHour [.ref (ad 0)] (wT E ad S) (none) (wT E ad (hourS S)) := by
  refine gK_by RX7 rfl mX7_passHour [(0, .ref (ad 0))] (Nat.le_of_ble_eq_true rfl) rfl ?_
  intro zp ze zs zm za zb zh zc zA zQ C Z
  refine g_aload_n C dX7_passHour_0 rfl 0 rfl ?_
  refine g_callV0 (As := []) (rv := none) (w1 := wT E ad (hourW S)) (kc' := 0) (ks' := 0) C (k_X7_passWaterHour l E ad S hS (by omega)) mX7_passWaterHour iX7_passWaterHour wd726 0 6 rfl rfl rfl rfl rfl (Nat.le_of_ble_eq_true rfl) ⟨Nat.le_of_ble_eq_true rfl, Nat.le_of_ble_eq_true rfl⟩ ⟨Nat.le_of_ble_eq_true rfl, Nat.le_of_ble_eq_true rfl⟩ rfl rfl dX7_passHour_1 rfl ?_
  refine g_aload_n C dX7_passHour_4 rfl 0 rfl ?_
  refine g_get (v := .ref (ad 13)) (T := TX7) (N := 8) (ci := 6) C in_X7 0 rfl rfl 3 (by decide) wd218 (Or.inl rfl) rfl dX7_passHour_5 rfl ?_
  refine g_aload_n C dX7_passHour_8 rfl 0 rfl ?_
  refine g_get (v := .ref (ad 1)) (T := TX7) (N := 8) (ci := 6) C in_X7 0 rfl rfl 1 (by decide) wd214 (Or.inl rfl) rfl dX7_passHour_9 rfl ?_
  refine g_callV0 (As := [.ref (ad 1)]) (rv := some (.int (iI (ringN ((hourW S).1 4) ((hourW S).1 14) ((hourW S).1 15) (((hourW S).2 2)).toNat)))) (w1 := wT E ad (hourW S)) (kc' := 0) (ks' := 0) C (k_X1_ringing l E ad (hourW S) (okT_hourW (S := S) hS)) mX1_ringing iX1_ringing wd282 13 1 rfl rfl rfl rfl rfl (Nat.le_of_ble_eq_true rfl) ⟨Nat.le_of_ble_eq_true rfl, Nat.le_of_ble_eq_true rfl⟩ ⟨Nat.le_of_ble_eq_true rfl, Nat.le_of_ble_eq_true rfl⟩ rfl rfl dX7_passHour_12 rfl ?_
  have n12 := ring_b ((hourW S).1 4) ((hourW S).1 14) ((hourW S).1 15) (((hourW S).2 2)).toNat
  have m12 := okT_i2 (okT_hourW (S := S) hS)
  refine g_if_le C dX7_passHour_15 37 (by decide) rfl (by omega) (fun c15 => ?_) (fun c15 => ?_)
  · skip
    refine g_to [0] (ws1 := wT E ad (calledS (hourW S)))  ?_ (by unfold calledS; first | (rw [if_pos (by omega)]) | (rw [if_neg (by omega)])) rfl rfl
    refine g_aload_n C dX7_passHour_37 rfl 0 rfl ?_
    refine g_get (v := .ref (ad 21)) (T := TX7) (N := 8) (ci := 6) C in_X7 0 rfl rfl 5 (by decide) wd222 (Or.inl rfl) rfl dX7_passHour_38 rfl ?_
    refine g_aload_n C dX7_passHour_41 rfl 0 rfl ?_
    refine g_get (v := .ref (ad 16)) (T := TX7) (N := 8) (ci := 6) C in_X7 0 rfl rfl 4 (by decide) wd220 (Or.inl rfl) rfl dX7_passHour_42 rfl ?_
    refine g_aload_n C dX7_passHour_45 rfl 0 rfl ?_
    refine g_get (v := .ref (ad 28)) (T := TX7) (N := 8) (ci := 6) C in_X7 0 rfl rfl 7 (by decide) wd226 (Or.inl rfl) rfl dX7_passHour_46 rfl ?_
    refine g_aload_n C dX7_passHour_49 rfl 0 rfl ?_
    refine g_get (v := .ref (ad 1)) (T := TX7) (N := 8) (ci := 6) C in_X7 0 rfl rfl 1 (by decide) wd214 (Or.inl rfl) rfl dX7_passHour_50 rfl ?_
    refine g_callV0 (As := [.ref (ad 16), .ref (ad 28), .ref (ad 1)]) (rv := none) (w1 := wT E ad (fleeS (calledS (hourW S)))) (kc' := 0) (ks' := 0) C (k_X2_goToRefuges l E ad (calledS (hourW S)) (okT_called (okT_hourW hS))) mX2_goToRefuges iX2_goToRefuges wd779 21 2 rfl rfl rfl rfl rfl (Nat.le_of_ble_eq_true rfl) ⟨Nat.le_of_ble_eq_true rfl, Nat.le_of_ble_eq_true rfl⟩ ⟨Nat.le_of_ble_eq_true rfl, Nat.le_of_ble_eq_true rfl⟩ rfl rfl dX7_passHour_53 rfl ?_
    refine g_aload_n C dX7_passHour_56 rfl 0 rfl ?_
    refine g_get (v := .ref (ad 21)) (T := TX7) (N := 8) (ci := 6) C in_X7 0 rfl rfl 5 (by decide) wd222 (Or.inl rfl) rfl dX7_passHour_57 rfl ?_
    refine g_aload_n C dX7_passHour_60 rfl 0 rfl ?_
    refine g_get (v := .ref (ad 1)) (T := TX7) (N := 8) (ci := 6) C in_X7 0 rfl rfl 1 (by decide) wd214 (Or.inl rfl) rfl dX7_passHour_61 rfl ?_
    refine g_callV0 (As := [.ref (ad 1)]) (rv := none) (w1 := wT E ad (drownS (fleeS (calledS (hourW S))))) (kc' := 0) (ks' := 0) C (k_X2_drown l E ad (fleeS (calledS (hourW S))) (okT_fleeI (S := (calledS (hourW S))) (okT_called (okT_hourW hS)) _) (okH_fleeI (okH_called (hourW_H (S := S) hH)) _)) mX2_drown iX2_drown wd798 21 2 rfl rfl rfl rfl rfl (Nat.le_of_ble_eq_true rfl) ⟨Nat.le_of_ble_eq_true rfl, Nat.le_of_ble_eq_true rfl⟩ ⟨Nat.le_of_ble_eq_true rfl, Nat.le_of_ble_eq_true rfl⟩ rfl rfl dX7_passHour_64 rfl ?_
    exact z_vret C Z dX7_passHour_67 rfl rfl
  · skip
    refine g_aload_n C dX7_passHour_18 rfl 0 rfl ?_
    refine g_get (v := .ref (ad 25)) (T := TX7) (N := 8) (ci := 6) C in_X7 0 rfl rfl 6 (by decide) wd224 (Or.inl rfl) rfl dX7_passHour_19 rfl ?_
    refine g_aload_n C dX7_passHour_22 rfl 0 rfl ?_
    refine g_get (v := .ref (ad 21)) (T := TX7) (N := 8) (ci := 6) C in_X7 0 rfl rfl 5 (by decide) wd222 (Or.inl rfl) rfl dX7_passHour_23 rfl ?_
    refine g_aload_n C dX7_passHour_26 rfl 0 rfl ?_
    refine g_get (v := .ref (ad 28)) (T := TX7) (N := 8) (ci := 6) C in_X7 0 rfl rfl 7 (by decide) wd226 (Or.inl rfl) rfl dX7_passHour_27 rfl ?_
    refine g_aload_n C dX7_passHour_30 rfl 0 rfl ?_
    refine g_get (v := .ref (ad 1)) (T := TX7) (N := 8) (ci := 6) C in_X7 0 rfl rfl 1 (by decide) wd214 (Or.inl rfl) rfl dX7_passHour_31 rfl ?_
    refine g_callV0 (As := [.ref (ad 21), .ref (ad 28), .ref (ad 1)]) (rv := none) (w1 := wT E ad (clS (hourW S))) (kc' := 0) (ks' := 0) C (k_X0_callOut l E ad (hourW S) (okT_hourW (S := S) hS)) mX0_callOut iX0_callOut wd762 25 0 rfl rfl rfl rfl rfl (Nat.le_of_ble_eq_true rfl) ⟨Nat.le_of_ble_eq_true rfl, Nat.le_of_ble_eq_true rfl⟩ ⟨Nat.le_of_ble_eq_true rfl, Nat.le_of_ble_eq_true rfl⟩ rfl rfl dX7_passHour_34 rfl ?_
    refine g_to [0] (ws1 := wT E ad (calledS (hourW S)))  ?_ (by unfold calledS; first | (rw [if_pos (by omega)]) | (rw [if_neg (by omega)])) rfl rfl
    refine g_aload_n C dX7_passHour_37 rfl 0 rfl ?_
    refine g_get (v := .ref (ad 21)) (T := TX7) (N := 8) (ci := 6) C in_X7 0 rfl rfl 5 (by decide) wd222 (Or.inl rfl) rfl dX7_passHour_38 rfl ?_
    refine g_aload_n C dX7_passHour_41 rfl 0 rfl ?_
    refine g_get (v := .ref (ad 16)) (T := TX7) (N := 8) (ci := 6) C in_X7 0 rfl rfl 4 (by decide) wd220 (Or.inl rfl) rfl dX7_passHour_42 rfl ?_
    refine g_aload_n C dX7_passHour_45 rfl 0 rfl ?_
    refine g_get (v := .ref (ad 28)) (T := TX7) (N := 8) (ci := 6) C in_X7 0 rfl rfl 7 (by decide) wd226 (Or.inl rfl) rfl dX7_passHour_46 rfl ?_
    refine g_aload_n C dX7_passHour_49 rfl 0 rfl ?_
    refine g_get (v := .ref (ad 1)) (T := TX7) (N := 8) (ci := 6) C in_X7 0 rfl rfl 1 (by decide) wd214 (Or.inl rfl) rfl dX7_passHour_50 rfl ?_
    refine g_callV0 (As := [.ref (ad 16), .ref (ad 28), .ref (ad 1)]) (rv := none) (w1 := wT E ad (fleeS (calledS (hourW S)))) (kc' := 0) (ks' := 0) C (k_X2_goToRefuges l E ad (calledS (hourW S)) (okT_called (okT_hourW hS))) mX2_goToRefuges iX2_goToRefuges wd779 21 2 rfl rfl rfl rfl rfl (Nat.le_of_ble_eq_true rfl) ⟨Nat.le_of_ble_eq_true rfl, Nat.le_of_ble_eq_true rfl⟩ ⟨Nat.le_of_ble_eq_true rfl, Nat.le_of_ble_eq_true rfl⟩ rfl rfl dX7_passHour_53 rfl ?_
    refine g_aload_n C dX7_passHour_56 rfl 0 rfl ?_
    refine g_get (v := .ref (ad 21)) (T := TX7) (N := 8) (ci := 6) C in_X7 0 rfl rfl 5 (by decide) wd222 (Or.inl rfl) rfl dX7_passHour_57 rfl ?_
    refine g_aload_n C dX7_passHour_60 rfl 0 rfl ?_
    refine g_get (v := .ref (ad 1)) (T := TX7) (N := 8) (ci := 6) C in_X7 0 rfl rfl 1 (by decide) wd214 (Or.inl rfl) rfl dX7_passHour_61 rfl ?_
    refine g_callV0 (As := [.ref (ad 1)]) (rv := none) (w1 := wT E ad (drownS (fleeS (calledS (hourW S))))) (kc' := 0) (ks' := 0) C (k_X2_drown l E ad (fleeS (calledS (hourW S))) (okT_fleeI (S := (calledS (hourW S))) (okT_called (okT_hourW hS)) _) (okH_fleeI (okH_called (hourW_H (S := S) hH)) _)) mX2_drown iX2_drown wd798 21 2 rfl rfl rfl rfl rfl (Nat.le_of_ble_eq_true rfl) ⟨Nat.le_of_ble_eq_true rfl, Nat.le_of_ble_eq_true rfl⟩ ⟨Nat.le_of_ble_eq_true rfl, Nat.le_of_ble_eq_true rfl⟩ rfl rfl dX7_passHour_64 rfl ?_
    exact z_vret C Z dX7_passHour_67 rfl rfl
abbrev r_X7_passHours : Room := { frames := 5, cells := 0, slots := 0, locals := 113 }
set_option maxHeartbeats 4000000 in
set_option maxRecDepth 100000 in
theorem k_X7_passHours (l : Launch) (E : gE) (ad : Nat → Nat) (S : gS) (n : Nat) (hS : okT S) (hh : 0 ≤ S.2 0 ∧ S.2 0 + n ≤ 2000000000) (hH : okH S) (hn : n ≤ 1000) : gK l E yX7_passHours cX7_passHours 3 none r_X7_passHours [.ref (ad 0), .int (iI (n : Int))] (wT E ad S) (none) (wT E ad (hoursI S n)) := by
  refine gK_by RX7 rfl mX7_passHours [(0, .ref (ad 0)), (1, .int (iI (n : Int)))] (Nat.le_of_ble_eq_true rfl) rfl ?_
  intro zp ze zs zm za zb zh zc zA zQ C Z
  refine g_iconst C dX7_passHours_0 rfl ?_
  refine g_istore_n (lv' := [(2, .int (iI (0))), (0, .ref (ad 0)), (1, .int (iI (n : Int)))]) C dX7_passHours_1 rfl (by decide) rfl ?_
  have L2 : ∀ k9 : Nat, k9 ≤ n → gG E zp l ze r_X7_passHours zs zm za zb zh zc zA 3 0 0 zQ (wT E ad (hoursI S k9)) 2 [(2, .int (iI (k9 : Int))), (0, .ref (ad 0)), (1, .int (iI (n : Int)))] [] := by
    refine g_up (n) _ ?_
    intro k9 ih2 hk2
    have iv2_0 := hoursI_b hS hH k9
    obtain ⟨x, hx2⟩ : ∃ z, z = hoursI S k9 := ⟨_, rfl⟩
    rw [← hx2]
    rw [← hx2] at iv2_0
    refine g_iload_n C dX7_passHours_2 rfl 0 rfl ?_
    refine g_iload_n C dX7_passHours_3 rfl 2 rfl ?_
    refine g_icmp_ge C dX7_passHours_4 17 (by decide) rfl (by omega) (by omega) (fun c4 => ?_) (fun c4 => ?_)
    · skip
      have hz2 : x = hoursI S n := by rw [hx2, show k9 = n from by omega] <;> rfl
      exact z_vret C Z dX7_passHours_17 rfl (by rw [hz2])
    · skip
      refine g_aload_n C dX7_passHours_7 rfl 1 rfl ?_
      refine g_callV0 (As := []) (rv := none) (w1 := wT E ad (hourS x)) (kc' := 0) (ks' := 0) C (k_X7_passHour l E ad x iv2_0.1 (by omega) iv2_0.2.1) mX7_passHour iX7_passHour wd722 0 6 rfl rfl rfl rfl rfl (Nat.le_of_ble_eq_true rfl) ⟨Nat.le_of_ble_eq_true rfl, Nat.le_of_ble_eq_true rfl⟩ ⟨Nat.le_of_ble_eq_true rfl, Nat.le_of_ble_eq_true rfl⟩ rfl rfl dX7_passHours_8 rfl ?_
      refine g_iinc (lv' := [(2, .int (iI ((k9 : Int) + 1))), (0, .ref (ad 0)), (1, .int (iI (n : Int)))]) C dX7_passHours_11 rfl 0 rfl (by decide) rfl ?_
      refine g_goto C dX7_passHours_14 2 (by decide) ?_
      have e2 : (fun (_ : Nat) T => hourS T) k9 x = (hourS x) := by
        rfl
      have i2 := ih2 (by omega)
      rw [show hoursI S (k9 + 1) = (hourS x) from by rw [← e2, hx2]; rfl] at i2
      exact g_to [0, 1, 2] (i2) rfl rfl rfl
  refine g_to [0, 1, 2] (L2 0 (by omega)) rfl rfl rfl
abbrev r_X7_tellCell : Room := { frames := 2, cells := 0, slots := 0, locals := 44 }
set_option maxHeartbeats 4000000 in
set_option maxRecDepth 100000 in
theorem k_X7_tellCell (l : Launch) (E : gE) (ad : Nat → Nat) (S : gS) (q wh : Int) (hS : okT S) (hq : 0 ≤ q ∧ q < 80) (hw : -2147483648 ≤ wh ∧ wh ≤ 2147483647) : gK l E yX7_tellCell cX7_tellCell 3 (some .int) r_X7_tellCell [.ref (ad 0), .int (iI q), .int (iI wh)] (wT E ad S) (some (.int (iI (cellTell S q wh)))) (wT E ad S) := by
  refine gK_by RX7 rfl mX7_tellCell [(0, .ref (ad 0)), (1, .int (iI q)), (2, .int (iI wh))] (Nat.le_of_ble_eq_true rfl) rfl ?_
  intro zp ze zs zm za zb zh zc zA zQ C Z
  refine g_iload_n C dX7_tellCell_0 rfl 2 rfl ?_
  by_cases c1_0 : wh = 0
  · refine g_tableIn C dX7_tellCell_1 36 0 c1_0 (by omega) (by decide) (by decide) rfl (by decide) ?_
    refine g_aload_n C dX7_tellCell_36 rfl 0 rfl ?_
    refine g_get (v := .ref (ad 1)) (T := TX7) (N := 8) (ci := 6) C in_X7 0 rfl rfl 1 (by decide) wd214 (Or.inl rfl) rfl dX7_tellCell_37 rfl ?_
    refine g_get (v := .ref (ad 2)) (T := TX3) (N := 5) (ci := 3) C in_X3 1 rfl rfl 0 (by decide) wd43 (Or.inl rfl) rfl dX7_tellCell_40 rfl ?_
    refine g_iload_n C dX7_tellCell_43 rfl 1 rfl ?_
    refine g_iald (f := (S.1 2)) C dX7_tellCell_44 rfl 2 rfl (by omega) (by decide) ?_
    have b44 := okT_2 hS q
    exact z_iret C Z rfl dX7_tellCell_45 (by exact congrArg (fun z => some (Value.int (iI z))) (by unfold cellTell; (repeat' split) <;> first | rfl | omega)) rfl
  by_cases c1_1 : wh = 1
  · refine g_tableIn C dX7_tellCell_1 46 1 c1_1 (by omega) (by decide) (by decide) rfl (by decide) ?_
    refine g_aload_n C dX7_tellCell_46 rfl 0 rfl ?_
    refine g_get (v := .ref (ad 1)) (T := TX7) (N := 8) (ci := 6) C in_X7 0 rfl rfl 1 (by decide) wd214 (Or.inl rfl) rfl dX7_tellCell_47 rfl ?_
    refine g_get (v := .ref (ad 3)) (T := TX3) (N := 5) (ci := 3) C in_X3 1 rfl rfl 1 (by decide) wd46 (Or.inl rfl) rfl dX7_tellCell_50 rfl ?_
    refine g_iload_n C dX7_tellCell_53 rfl 1 rfl ?_
    refine g_iald (f := (S.1 3)) C dX7_tellCell_54 rfl 3 rfl (by omega) (by decide) ?_
    have b54 := okT_3 hS q
    exact z_iret C Z rfl dX7_tellCell_55 (by exact congrArg (fun z => some (Value.int (iI z))) (by unfold cellTell; (repeat' split) <;> first | rfl | omega)) rfl
  by_cases c1_2 : wh = 2
  · refine g_tableIn C dX7_tellCell_1 56 2 c1_2 (by omega) (by decide) (by decide) rfl (by decide) ?_
    refine g_aload_n C dX7_tellCell_56 rfl 0 rfl ?_
    refine g_get (v := .ref (ad 1)) (T := TX7) (N := 8) (ci := 6) C in_X7 0 rfl rfl 1 (by decide) wd214 (Or.inl rfl) rfl dX7_tellCell_57 rfl ?_
    refine g_get (v := .ref (ad 4)) (T := TX3) (N := 5) (ci := 3) C in_X3 1 rfl rfl 2 (by decide) wd50 (Or.inl rfl) rfl dX7_tellCell_60 rfl ?_
    refine g_iload_n C dX7_tellCell_63 rfl 1 rfl ?_
    refine g_iald (f := (S.1 4)) C dX7_tellCell_64 rfl 4 rfl (by omega) (by decide) ?_
    have b64 := okT_4 hS q
    exact z_iret C Z rfl dX7_tellCell_65 (by exact congrArg (fun z => some (Value.int (iI z))) (by unfold cellTell; (repeat' split) <;> first | rfl | omega)) rfl
  by_cases c1_3 : wh = 3
  · refine g_tableIn C dX7_tellCell_1 66 3 c1_3 (by omega) (by decide) (by decide) rfl (by decide) ?_
    refine g_aload_n C dX7_tellCell_66 rfl 0 rfl ?_
    refine g_get (v := .ref (ad 1)) (T := TX7) (N := 8) (ci := 6) C in_X7 0 rfl rfl 1 (by decide) wd214 (Or.inl rfl) rfl dX7_tellCell_67 rfl ?_
    refine g_iload_n C dX7_tellCell_70 rfl 1 rfl ?_
    refine g_callV0 (As := [.int (iI q)]) (rv := some (.int (iI ((lev (S.1 2) (S.1 3) (S.1 4)) q)))) (w1 := wT E ad S) (kc' := 0) (ks' := 0) C (k_X3_level l E ad S q (okT_L (S := S) hS) (by omega)) mX3_level iX3_level wd294 1 3 rfl rfl rfl rfl rfl (Nat.le_of_ble_eq_true rfl) ⟨Nat.le_of_ble_eq_true rfl, Nat.le_of_ble_eq_true rfl⟩ ⟨Nat.le_of_ble_eq_true rfl, Nat.le_of_ble_eq_true rfl⟩ rfl rfl dX7_tellCell_71 rfl ?_
    have n71 := lev_b (okT_L (S := S) hS).1 (okT_L (S := S) hS).2.1 (okT_L (S := S) hS).2.2 q
    exact z_iret C Z rfl dX7_tellCell_74 (by exact congrArg (fun z => some (Value.int (iI z))) (by unfold cellTell; (repeat' split) <;> first | rfl | omega)) rfl
  by_cases c1_4 : wh = 4
  · refine g_tableIn C dX7_tellCell_1 75 4 c1_4 (by omega) (by decide) (by decide) rfl (by decide) ?_
    refine g_aload_n C dX7_tellCell_75 rfl 0 rfl ?_
    refine g_get (v := .ref (ad 21)) (T := TX7) (N := 8) (ci := 6) C in_X7 0 rfl rfl 5 (by decide) wd222 (Or.inl rfl) rfl dX7_tellCell_76 rfl ?_
    refine g_iload_n C dX7_tellCell_79 rfl 1 rfl ?_
    refine g_callV0 (As := [.int (iI q)]) (rv := some (.int (iI (outS S q)))) (w1 := wT E ad S) (kc' := 0) (ks' := 0) C (k_X2_peopleOutAt l E ad S q hS (by omega)) mX2_peopleOutAt iX2_peopleOutAt wd298 21 2 rfl rfl rfl rfl rfl (Nat.le_of_ble_eq_true rfl) ⟨Nat.le_of_ble_eq_true rfl, Nat.le_of_ble_eq_true rfl⟩ ⟨Nat.le_of_ble_eq_true rfl, Nat.le_of_ble_eq_true rfl⟩ rfl rfl dX7_tellCell_80 rfl ?_
    exact z_iret C Z rfl dX7_tellCell_83 (by exact congrArg (fun z => some (Value.int (iI z))) (by unfold cellTell; (repeat' split) <;> first | rfl | omega)) rfl
  refine g_tableOut C dX7_tellCell_1 84 (by omega) (by omega) (by decide) ?_
  refine g_aload_n C dX7_tellCell_84 rfl 0 rfl ?_
  refine g_get (v := .ref (ad 1)) (T := TX7) (N := 8) (ci := 6) C in_X7 0 rfl rfl 1 (by decide) wd214 (Or.inl rfl) rfl dX7_tellCell_85 rfl ?_
  refine g_iload_n C dX7_tellCell_88 rfl 1 rfl ?_
  refine g_callV0 (As := [.int (iI q)]) (rv := some (.int (iI (bI ((S.1 4) q < 3))))) (w1 := wT E ad S) (kc' := 0) (ks' := 0) C (k_X3_isWalkable l E ad S q (okT_L (S := S) hS) (by omega)) mX3_isWalkable iX3_isWalkable wd306 1 3 rfl rfl rfl rfl rfl (Nat.le_of_ble_eq_true rfl) ⟨Nat.le_of_ble_eq_true rfl, Nat.le_of_ble_eq_true rfl⟩ ⟨Nat.le_of_ble_eq_true rfl, Nat.le_of_ble_eq_true rfl⟩ rfl rfl dX7_tellCell_89 rfl ?_
  have n89 := bI_w ((S.1 4) q < 3)
  refine g_if_eq C dX7_tellCell_92 99 (by decide) rfl (by omega) (fun c92 => ?_) (fun c92 => ?_)
  · skip
    refine g_iconst C dX7_tellCell_99 rfl ?_
    exact z_iret C Z rfl dX7_tellCell_100 (by exact congrArg (fun z => some (Value.int (iI z))) (by unfold cellTell; (repeat' split) <;> first | rfl | omega)) rfl
  · skip
    refine g_iconst C dX7_tellCell_95 rfl ?_
    refine g_goto C dX7_tellCell_96 100 (by decide) ?_
    exact z_iret C Z rfl dX7_tellCell_100 (by exact congrArg (fun z => some (Value.int (iI z))) (by unfold cellTell; (repeat' split) <;> first | rfl | omega)) rfl
abbrev r_X7_stepsToRefuge : Room := { frames := 3, cells := 0, slots := 0, locals := 68 }
set_option maxHeartbeats 4000000 in
set_option maxRecDepth 100000 in
theorem k_X7_stepsToRefuge (l : Launch) (E : gE) (ad : Nat → Nat) (S : gS) (k : Int) (hS : okT S) (hk : 0 ≤ k ∧ k < 10) : gK l E yX7_stepsToRefuge cX7_stepsToRefuge 3 (some .int) r_X7_stepsToRefuge [.ref (ad 0), .int (iI k)] (wT E ad S) (some (.int (iI (wayV S k)))) (wT E ad (wayS S k)) := by
  refine gK_by RX7 rfl mX7_stepsToRefuge [(0, .ref (ad 0)), (1, .int (iI k))] (Nat.le_of_ble_eq_true rfl) rfl ?_
  intro zp ze zs zm za zb zh zc zA zQ C Z
  refine g_aload_n C dX7_stepsToRefuge_0 rfl 0 rfl ?_
  refine g_get (v := .ref (ad 21)) (T := TX7) (N := 8) (ci := 6) C in_X7 0 rfl rfl 5 (by decide) wd222 (Or.inl rfl) rfl dX7_stepsToRefuge_1 rfl ?_
  refine g_get (v := .ref (ad 24)) (T := TX2) (N := 5) (ci := 2) C in_X2 21 rfl rfl 3 (by decide) wd166 (Or.inl rfl) rfl dX7_stepsToRefuge_4 rfl ?_
  refine g_iload_n C dX7_stepsToRefuge_7 rfl 1 rfl ?_
  refine g_iald (f := (S.1 24)) C dX7_stepsToRefuge_8 rfl 24 rfl (by omega) (by decide) ?_
  have b8 := okT_24 hS k
  refine g_iconst C dX7_stepsToRefuge_9 rfl ?_
  refine g_icmp_ne C dX7_stepsToRefuge_10 15 (by decide) rfl (by omega) (by omega) (fun c10 => ?_) (fun c10 => ?_)
  · skip
    refine g_aload_n C dX7_stepsToRefuge_15 rfl 0 rfl ?_
    refine g_get (v := .ref (ad 21)) (T := TX7) (N := 8) (ci := 6) C in_X7 0 rfl rfl 5 (by decide) wd222 (Or.inl rfl) rfl dX7_stepsToRefuge_16 rfl ?_
    refine g_get (v := .ref (ad 24)) (T := TX2) (N := 5) (ci := 2) C in_X2 21 rfl rfl 3 (by decide) wd166 (Or.inl rfl) rfl dX7_stepsToRefuge_19 rfl ?_
    refine g_iload_n C dX7_stepsToRefuge_22 rfl 1 rfl ?_
    refine g_iald (f := (S.1 24)) C dX7_stepsToRefuge_23 rfl 24 rfl (by omega) (by decide) ?_
    have b23 := okT_24 hS k
    refine g_iconst C dX7_stepsToRefuge_24 rfl ?_
    refine g_icmp_ne C dX7_stepsToRefuge_25 30 (by decide) rfl (by omega) (by omega) (fun c25 => ?_) (fun c25 => ?_)
    · skip
      refine g_aload_n C dX7_stepsToRefuge_30 rfl 0 rfl ?_
      refine g_get (v := .ref (ad 28)) (T := TX7) (N := 8) (ci := 6) C in_X7 0 rfl rfl 7 (by decide) wd226 (Or.inl rfl) rfl dX7_stepsToRefuge_31 rfl ?_
      refine g_aload_n C dX7_stepsToRefuge_34 rfl 0 rfl ?_
      refine g_get (v := .ref (ad 21)) (T := TX7) (N := 8) (ci := 6) C in_X7 0 rfl rfl 5 (by decide) wd222 (Or.inl rfl) rfl dX7_stepsToRefuge_35 rfl ?_
      refine g_get (v := .ref (ad 22)) (T := TX2) (N := 5) (ci := 2) C in_X2 21 rfl rfl 0 (by decide) wd93 (Or.inr wd87) rfl dX7_stepsToRefuge_38 rfl ?_
      refine g_iload_n C dX7_stepsToRefuge_41 rfl 1 rfl ?_
      refine g_iald (f := (S.1 22)) C dX7_stepsToRefuge_42 rfl 22 rfl (by omega) (by decide) ?_
      have b42 := okT_22 hS k
      refine g_aload_n C dX7_stepsToRefuge_43 rfl 0 rfl ?_
      refine g_get (v := .ref (ad 1)) (T := TX7) (N := 8) (ci := 6) C in_X7 0 rfl rfl 1 (by decide) wd214 (Or.inl rfl) rfl dX7_stepsToRefuge_44 rfl ?_
      refine g_callV0 (As := [.int (iI ((S.1 22) k)), .ref (ad 1)]) (rv := none) (w1 := wT E ad (searchS S ((S.1 22) k))) (kc' := 0) (ks' := 0) C (k_X8_search l E ad S ((S.1 22) k) hS (by omega)) mX8_search iX8_search wd368 28 7 rfl rfl rfl rfl rfl (Nat.le_of_ble_eq_true rfl) ⟨Nat.le_of_ble_eq_true rfl, Nat.le_of_ble_eq_true rfl⟩ ⟨Nat.le_of_ble_eq_true rfl, Nat.le_of_ble_eq_true rfl⟩ rfl rfl dX7_stepsToRefuge_47 rfl ?_
      refine g_aload_n C dX7_stepsToRefuge_50 rfl 0 rfl ?_
      refine g_get (v := .ref (ad 16)) (T := TX7) (N := 8) (ci := 6) C in_X7 0 rfl rfl 4 (by decide) wd220 (Or.inl rfl) rfl dX7_stepsToRefuge_51 rfl ?_
      refine g_aload_n C dX7_stepsToRefuge_54 rfl 0 rfl ?_
      refine g_get (v := .ref (ad 21)) (T := TX7) (N := 8) (ci := 6) C in_X7 0 rfl rfl 5 (by decide) wd222 (Or.inl rfl) rfl dX7_stepsToRefuge_55 rfl ?_
      refine g_get (v := .ref (ad 23)) (T := TX2) (N := 5) (ci := 2) C in_X2 21 rfl rfl 2 (by decide) wd164 (Or.inl rfl) rfl dX7_stepsToRefuge_58 rfl ?_
      refine g_iload_n C dX7_stepsToRefuge_61 rfl 1 rfl ?_
      refine g_iald (f := ((searchS S ((S.1 22) k)).1 23)) C dX7_stepsToRefuge_62 rfl 23 rfl (by omega) (by decide) ?_
      have b62 := okT_23 (okT_srch (S := S) (c := ((S.1 22) k)) hS (by omega)) k
      refine g_aload_n C dX7_stepsToRefuge_63 rfl 0 rfl ?_
      refine g_get (v := .ref (ad 28)) (T := TX7) (N := 8) (ci := 6) C in_X7 0 rfl rfl 7 (by decide) wd226 (Or.inl rfl) rfl dX7_stepsToRefuge_64 rfl ?_
      refine g_callV0 (As := [.int (iI (((searchS S ((S.1 22) k)).1 23) k)), .ref (ad 28)]) (rv := some (.int (iI (roomS (searchS S ((S.1 22) k)) (((searchS S ((S.1 22) k)).1 23) k))))) (w1 := wT E ad (searchS S ((S.1 22) k))) (kc' := 0) (ks' := 0) C (k_X6_nearestWithRoom l E ad (searchS S ((S.1 22) k)) (((searchS S ((S.1 22) k)).1 23) k) (okT_srch (S := S) (c := ((S.1 22) k)) hS (by omega)) (by omega)) mX6_nearestWithRoom iX6_nearestWithRoom wd380 16 5 rfl rfl rfl rfl rfl (Nat.le_of_ble_eq_true rfl) ⟨Nat.le_of_ble_eq_true rfl, Nat.le_of_ble_eq_true rfl⟩ ⟨Nat.le_of_ble_eq_true rfl, Nat.le_of_ble_eq_true rfl⟩ rfl rfl dX7_stepsToRefuge_67 rfl ?_
      have n67 := roomS_b (S := (searchS S ((S.1 22) k))) (m := (((searchS S ((S.1 22) k)).1 23) k)) (okT_srch (S := S) (c := ((S.1 22) k)) hS (by omega))
      refine g_istore_n (lv' := [(2, .int (iI (roomS (searchS S ((S.1 22) k)) (((searchS S ((S.1 22) k)).1 23) k)))), (0, .ref (ad 0)), (1, .int (iI k))]) C dX7_stepsToRefuge_70 rfl (by decide) rfl ?_
      refine g_iload_n C dX7_stepsToRefuge_71 rfl 0 rfl ?_
      refine g_iconst C dX7_stepsToRefuge_72 rfl ?_
      refine g_icmp_ne C dX7_stepsToRefuge_73 80 (by decide) rfl (by omega) (by omega) (fun c73 => ?_) (fun c73 => ?_)
      · skip
        refine g_aload_n C dX7_stepsToRefuge_80 rfl 1 rfl ?_
        refine g_get (v := .ref (ad 28)) (T := TX7) (N := 8) (ci := 6) C in_X7 0 rfl rfl 7 (by decide) wd226 (Or.inl rfl) rfl dX7_stepsToRefuge_81 rfl ?_
        refine g_get (v := .ref (ad 29)) (T := TX8) (N := 4) (ci := 7) C in_X8 28 rfl rfl 0 (by decide) wd198 (Or.inl rfl) rfl dX7_stepsToRefuge_84 rfl ?_
        refine g_aload_n C dX7_stepsToRefuge_87 rfl 1 rfl ?_
        refine g_get (v := .ref (ad 16)) (T := TX7) (N := 8) (ci := 6) C in_X7 0 rfl rfl 4 (by decide) wd220 (Or.inl rfl) rfl dX7_stepsToRefuge_88 rfl ?_
        refine g_get (v := .ref (ad 17)) (T := TX6) (N := 5) (ci := 5) C in_X6 16 rfl rfl 0 (by decide) wd94 (Or.inr wd85) rfl dX7_stepsToRefuge_91 rfl ?_
        refine g_iload_n C dX7_stepsToRefuge_94 rfl 0 rfl ?_
        refine g_iald (f := ((searchS S ((S.1 22) k)).1 17)) C dX7_stepsToRefuge_95 rfl 17 rfl (by omega) (by decide) ?_
        have b95 := okT_17 (okT_srch (S := S) (c := ((S.1 22) k)) hS (by omega)) (roomS (searchS S ((S.1 22) k)) (((searchS S ((S.1 22) k)).1 23) k))
        refine g_iald (f := ((searchS S ((S.1 22) k)).1 29)) C dX7_stepsToRefuge_96 rfl 29 rfl (by omega) (by decide) ?_
        have b96 := okT_29 (okT_srch (S := S) (c := ((S.1 22) k)) hS (by omega)) (((searchS S ((S.1 22) k)).1 17) (roomS (searchS S ((S.1 22) k)) (((searchS S ((S.1 22) k)).1 23) k)))
        exact z_iret C Z rfl dX7_stepsToRefuge_97 (by exact congrArg (fun z => some (Value.int (iI z))) (by unfold wayV; first | (rw [if_pos (by omega)]) | (rw [if_neg (by omega), if_pos (by omega)]) | (rw [if_neg (by omega), if_neg (by omega), if_pos (by omega)]) | (rw [if_neg (by omega), if_neg (by omega), if_neg (by omega)]))) (by unfold wayS; first | (rw [if_pos (by omega)]) | (rw [if_neg (by omega), if_pos (by omega)]) | (rw [if_neg (by omega), if_neg (by omega)]))
      · skip
        refine g_iconst C dX7_stepsToRefuge_76 rfl ?_
        refine g_goto C dX7_stepsToRefuge_77 97 (by decide) ?_
        exact z_iret C Z rfl dX7_stepsToRefuge_97 (by exact congrArg (fun z => some (Value.int (iI z))) (by unfold wayV; first | (rw [if_pos (by omega)]) | (rw [if_neg (by omega), if_pos (by omega)]) | (rw [if_neg (by omega), if_neg (by omega), if_pos (by omega)]) | (rw [if_neg (by omega), if_neg (by omega), if_neg (by omega)]))) (by unfold wayS; first | (rw [if_pos (by omega)]) | (rw [if_neg (by omega), if_pos (by omega)]) | (rw [if_neg (by omega), if_neg (by omega)]))
    · skip
      refine g_iconst C dX7_stepsToRefuge_28 rfl ?_
      exact z_iret C Z rfl dX7_stepsToRefuge_29 (by exact congrArg (fun z => some (Value.int (iI z))) (by unfold wayV; first | (rw [if_pos (by omega)]) | (rw [if_neg (by omega), if_pos (by omega)]) | (rw [if_neg (by omega), if_neg (by omega), if_pos (by omega)]) | (rw [if_neg (by omega), if_neg (by omega), if_neg (by omega)]))) (by unfold wayS; first | (rw [if_pos (by omega)]) | (rw [if_neg (by omega), if_pos (by omega)]) | (rw [if_neg (by omega), if_neg (by omega)]))
  · skip
    refine g_iconst C dX7_stepsToRefuge_13 rfl ?_
    exact z_iret C Z rfl dX7_stepsToRefuge_14 (by exact congrArg (fun z => some (Value.int (iI z))) (by unfold wayV; first | (rw [if_pos (by omega)]) | (rw [if_neg (by omega), if_pos (by omega)]) | (rw [if_neg (by omega), if_neg (by omega), if_pos (by omega)]) | (rw [if_neg (by omega), if_neg (by omega), if_neg (by omega)]))) (by unfold wayS; first | (rw [if_pos (by omega)]) | (rw [if_neg (by omega), if_pos (by omega)]) | (rw [if_neg (by omega), if_neg (by omega)]))
abbrev r_X7_tellHousehold : Room := { frames := 4, cells := 0, slots := 0, locals := 90 }
set_option maxHeartbeats 4000000 in
set_option maxRecDepth 100000 in
theorem k_X7_tellHousehold (l : Launch) (E : gE) (ad : Nat → Nat) (S : gS) (k wh : Int) (hS : okT S) (hk : 0 ≤ k ∧ k < 10) (hw : -2147483648 ≤ wh ∧ wh ≤ 2147483647) : gK l E yX7_tellHousehold cX7_tellHousehold 3 (some .int) r_X7_tellHousehold [.ref (ad 0), .int (iI k), .int (iI wh)] (wT E ad S) (some (.int (iI (hTell S k wh)))) (wT E ad (hTellS S k wh)) := by
  refine gK_by RX7 rfl mX7_tellHousehold [(0, .ref (ad 0)), (1, .int (iI k)), (2, .int (iI wh))] (Nat.le_of_ble_eq_true rfl) rfl ?_
  intro zp ze zs zm za zb zh zc zA zQ C Z
  refine g_iload_n C dX7_tellHousehold_0 rfl 2 rfl ?_
  by_cases c1_0 : wh = 0
  · refine g_tableIn C dX7_tellHousehold_1 32 0 c1_0 (by omega) (by decide) (by decide) rfl (by decide) ?_
    refine g_aload_n C dX7_tellHousehold_32 rfl 0 rfl ?_
    refine g_get (v := .ref (ad 21)) (T := TX7) (N := 8) (ci := 6) C in_X7 0 rfl rfl 5 (by decide) wd222 (Or.inl rfl) rfl dX7_tellHousehold_33 rfl ?_
    refine g_iload_n C dX7_tellHousehold_36 rfl 1 rfl ?_
    refine g_callU0 (As := [.int (iI k)]) (rv := some (.int (iI ((S.1 22) k % 10)))) (w1 := wT E ad S) (kc' := 0) (ks' := 0) C "FloodWardens$Numbered" RX2 (k_X4_xOf_X2 l E ad S k hS (by omega)) mX4_xOf ⟨wd322, wd360, wd359⟩ rfl (by decide +kernel) wd358 21 2 rfl rfl rfl rfl rfl (Nat.le_of_ble_eq_true rfl) ⟨Nat.le_of_ble_eq_true rfl, Nat.le_of_ble_eq_true rfl⟩ ⟨Nat.le_of_ble_eq_true rfl, Nat.le_of_ble_eq_true rfl⟩ rfl rfl dX7_tellHousehold_37 rfl ?_
    exact z_iret C Z rfl dX7_tellHousehold_40 (by exact congrArg (fun z => some (Value.int (iI z))) (by unfold hTell; first | (rw [if_pos (by omega)]) | (rw [if_neg (by omega), if_pos (by omega)]) | (rw [if_neg (by omega), if_neg (by omega), if_pos (by omega)]) | (rw [if_neg (by omega), if_neg (by omega), if_neg (by omega), if_pos (by omega)]) | (rw [if_neg (by omega), if_neg (by omega), if_neg (by omega), if_neg (by omega)]))) (by unfold hTellS; first | (rw [if_pos (by omega)]) | (rw [if_neg (by omega), if_pos (by omega)]) | (rw [if_neg (by omega), if_neg (by omega), if_pos (by omega)]) | (rw [if_neg (by omega), if_neg (by omega), if_neg (by omega), if_pos (by omega)]) | (rw [if_neg (by omega), if_neg (by omega), if_neg (by omega), if_neg (by omega)]))
  by_cases c1_1 : wh = 1
  · refine g_tableIn C dX7_tellHousehold_1 41 1 c1_1 (by omega) (by decide) (by decide) rfl (by decide) ?_
    refine g_aload_n C dX7_tellHousehold_41 rfl 0 rfl ?_
    refine g_get (v := .ref (ad 21)) (T := TX7) (N := 8) (ci := 6) C in_X7 0 rfl rfl 5 (by decide) wd222 (Or.inl rfl) rfl dX7_tellHousehold_42 rfl ?_
    refine g_iload_n C dX7_tellHousehold_45 rfl 1 rfl ?_
    refine g_callU0 (As := [.int (iI k)]) (rv := some (.int (iI ((S.1 22) k / 10)))) (w1 := wT E ad S) (kc' := 0) (ks' := 0) C "FloodWardens$Numbered" RX2 (k_X4_yOf_X2 l E ad S k hS (by omega)) mX4_yOf ⟨wd328, wd363, wd362⟩ rfl (by decide +kernel) wd361 21 2 rfl rfl rfl rfl rfl (Nat.le_of_ble_eq_true rfl) ⟨Nat.le_of_ble_eq_true rfl, Nat.le_of_ble_eq_true rfl⟩ ⟨Nat.le_of_ble_eq_true rfl, Nat.le_of_ble_eq_true rfl⟩ rfl rfl dX7_tellHousehold_46 rfl ?_
    exact z_iret C Z rfl dX7_tellHousehold_49 (by exact congrArg (fun z => some (Value.int (iI z))) (by unfold hTell; first | (rw [if_pos (by omega)]) | (rw [if_neg (by omega), if_pos (by omega)]) | (rw [if_neg (by omega), if_neg (by omega), if_pos (by omega)]) | (rw [if_neg (by omega), if_neg (by omega), if_neg (by omega), if_pos (by omega)]) | (rw [if_neg (by omega), if_neg (by omega), if_neg (by omega), if_neg (by omega)]))) (by unfold hTellS; first | (rw [if_pos (by omega)]) | (rw [if_neg (by omega), if_pos (by omega)]) | (rw [if_neg (by omega), if_neg (by omega), if_pos (by omega)]) | (rw [if_neg (by omega), if_neg (by omega), if_neg (by omega), if_pos (by omega)]) | (rw [if_neg (by omega), if_neg (by omega), if_neg (by omega), if_neg (by omega)]))
  by_cases c1_2 : wh = 2
  · refine g_tableIn C dX7_tellHousehold_1 50 2 c1_2 (by omega) (by decide) (by decide) rfl (by decide) ?_
    refine g_aload_n C dX7_tellHousehold_50 rfl 0 rfl ?_
    refine g_get (v := .ref (ad 21)) (T := TX7) (N := 8) (ci := 6) C in_X7 0 rfl rfl 5 (by decide) wd222 (Or.inl rfl) rfl dX7_tellHousehold_51 rfl ?_
    refine g_get (v := .ref (ad 23)) (T := TX2) (N := 5) (ci := 2) C in_X2 21 rfl rfl 2 (by decide) wd164 (Or.inl rfl) rfl dX7_tellHousehold_54 rfl ?_
    refine g_iload_n C dX7_tellHousehold_57 rfl 1 rfl ?_
    refine g_iald (f := (S.1 23)) C dX7_tellHousehold_58 rfl 23 rfl (by omega) (by decide) ?_
    have b58 := okT_23 hS k
    exact z_iret C Z rfl dX7_tellHousehold_59 (by exact congrArg (fun z => some (Value.int (iI z))) (by unfold hTell; first | (rw [if_pos (by omega)]) | (rw [if_neg (by omega), if_pos (by omega)]) | (rw [if_neg (by omega), if_neg (by omega), if_pos (by omega)]) | (rw [if_neg (by omega), if_neg (by omega), if_neg (by omega), if_pos (by omega)]) | (rw [if_neg (by omega), if_neg (by omega), if_neg (by omega), if_neg (by omega)]))) (by unfold hTellS; first | (rw [if_pos (by omega)]) | (rw [if_neg (by omega), if_pos (by omega)]) | (rw [if_neg (by omega), if_neg (by omega), if_pos (by omega)]) | (rw [if_neg (by omega), if_neg (by omega), if_neg (by omega), if_pos (by omega)]) | (rw [if_neg (by omega), if_neg (by omega), if_neg (by omega), if_neg (by omega)]))
  by_cases c1_3 : wh = 3
  · refine g_tableIn C dX7_tellHousehold_1 60 3 c1_3 (by omega) (by decide) (by decide) rfl (by decide) ?_
    refine g_aload_n C dX7_tellHousehold_60 rfl 0 rfl ?_
    refine g_get (v := .ref (ad 21)) (T := TX7) (N := 8) (ci := 6) C in_X7 0 rfl rfl 5 (by decide) wd222 (Or.inl rfl) rfl dX7_tellHousehold_61 rfl ?_
    refine g_get (v := .ref (ad 24)) (T := TX2) (N := 5) (ci := 2) C in_X2 21 rfl rfl 3 (by decide) wd166 (Or.inl rfl) rfl dX7_tellHousehold_64 rfl ?_
    refine g_iload_n C dX7_tellHousehold_67 rfl 1 rfl ?_
    refine g_iald (f := (S.1 24)) C dX7_tellHousehold_68 rfl 24 rfl (by omega) (by decide) ?_
    have b68 := okT_24 hS k
    exact z_iret C Z rfl dX7_tellHousehold_69 (by exact congrArg (fun z => some (Value.int (iI z))) (by unfold hTell; first | (rw [if_pos (by omega)]) | (rw [if_neg (by omega), if_pos (by omega)]) | (rw [if_neg (by omega), if_neg (by omega), if_pos (by omega)]) | (rw [if_neg (by omega), if_neg (by omega), if_neg (by omega), if_pos (by omega)]) | (rw [if_neg (by omega), if_neg (by omega), if_neg (by omega), if_neg (by omega)]))) (by unfold hTellS; first | (rw [if_pos (by omega)]) | (rw [if_neg (by omega), if_pos (by omega)]) | (rw [if_neg (by omega), if_neg (by omega), if_pos (by omega)]) | (rw [if_neg (by omega), if_neg (by omega), if_neg (by omega), if_pos (by omega)]) | (rw [if_neg (by omega), if_neg (by omega), if_neg (by omega), if_neg (by omega)]))
  refine g_tableOut C dX7_tellHousehold_1 70 (by omega) (by omega) (by decide) ?_
  refine g_aload_n C dX7_tellHousehold_70 rfl 0 rfl ?_
  refine g_iload_n C dX7_tellHousehold_71 rfl 1 rfl ?_
  refine g_callV0 (As := [.int (iI k)]) (rv := some (.int (iI (wayV S k)))) (w1 := wT E ad (wayS S k)) (kc' := 0) (ks' := 0) C (k_X7_stepsToRefuge l E ad S k hS (by omega)) mX7_stepsToRefuge iX7_stepsToRefuge wd364 0 6 rfl rfl rfl rfl rfl (Nat.le_of_ble_eq_true rfl) ⟨Nat.le_of_ble_eq_true rfl, Nat.le_of_ble_eq_true rfl⟩ ⟨Nat.le_of_ble_eq_true rfl, Nat.le_of_ble_eq_true rfl⟩ rfl rfl dX7_tellHousehold_72 rfl ?_
  exact z_iret C Z rfl dX7_tellHousehold_75 (by exact congrArg (fun z => some (Value.int (iI z))) (by unfold hTell; first | (rw [if_pos (by omega)]) | (rw [if_neg (by omega), if_pos (by omega)]) | (rw [if_neg (by omega), if_neg (by omega), if_pos (by omega)]) | (rw [if_neg (by omega), if_neg (by omega), if_neg (by omega), if_pos (by omega)]) | (rw [if_neg (by omega), if_neg (by omega), if_neg (by omega), if_neg (by omega)]))) (by unfold hTellS; first | (rw [if_pos (by omega)]) | (rw [if_neg (by omega), if_pos (by omega)]) | (rw [if_neg (by omega), if_neg (by omega), if_pos (by omega)]) | (rw [if_neg (by omega), if_neg (by omega), if_neg (by omega), if_pos (by omega)]) | (rw [if_neg (by omega), if_neg (by omega), if_neg (by omega), if_neg (by omega)]))
abbrev r_X7_tellCount : Room := { frames := 2, cells := 0, slots := 0, locals := 45 }
set_option maxHeartbeats 4000000 in
set_option maxRecDepth 100000 in
theorem k_X7_tellCount (l : Launch) (E : gE) (ad : Nat → Nat) (S : gS) (wh : Int) (hS : okT S) (hw : -2147483648 ≤ wh ∧ wh ≤ 2147483647) : gK l E yX7_tellCount cX7_tellCount 2 (some .int) r_X7_tellCount [.ref (ad 0), .int (iI wh)] (wT E ad S) (some (.int (iI (nTell S wh)))) (wT E ad S) := by
  refine gK_by RX7 rfl mX7_tellCount [(0, .ref (ad 0)), (1, .int (iI wh))] (Nat.le_of_ble_eq_true rfl) rfl ?_
  intro zp ze zs zm za zb zh zc zA zQ C Z
  refine g_iload_n C dX7_tellCount_0 rfl 1 rfl ?_
  by_cases c1_0 : wh = 0
  · refine g_tableIn C dX7_tellCount_1 52 0 c1_0 (by omega) (by decide) (by decide) rfl (by decide) ?_
    refine g_aload_n C dX7_tellCount_52 rfl 0 rfl ?_
    refine g_get (v := .int (iI (S.2 0))) (T := TX7) (N := 8) (ci := 6) C in_X7 0 rfl rfl 0 (by decide) wd213 (Or.inl rfl) rfl dX7_tellCount_53 rfl ?_
    exact z_iret C Z rfl dX7_tellCount_56 (by exact congrArg (fun z => some (Value.int (iI z))) (by unfold nTell; (repeat' split) <;> first | rfl | omega)) rfl
  by_cases c1_1 : wh = 1
  · refine g_tableIn C dX7_tellCount_1 57 1 c1_1 (by omega) (by decide) (by decide) rfl (by decide) ?_
    refine g_aload_n C dX7_tellCount_57 rfl 0 rfl ?_
    refine g_get (v := .ref (ad 21)) (T := TX7) (N := 8) (ci := 6) C in_X7 0 rfl rfl 5 (by decide) wd222 (Or.inl rfl) rfl dX7_tellCount_58 rfl ?_
    refine g_get (v := .int (iI (S.2 4))) (T := TX2) (N := 5) (ci := 2) C in_X2 21 rfl rfl 1 (by decide) wd107 (Or.inr wd104) rfl dX7_tellCount_61 rfl ?_
    have f61 := okT_i4 hS
    exact z_iret C Z rfl dX7_tellCount_64 (by exact congrArg (fun z => some (Value.int (iI z))) (by unfold nTell; (repeat' split) <;> first | rfl | omega)) rfl
  by_cases c1_2 : wh = 2
  · refine g_tableIn C dX7_tellCount_1 65 2 c1_2 (by omega) (by decide) (by decide) rfl (by decide) ?_
    refine g_aload_n C dX7_tellCount_65 rfl 0 rfl ?_
    refine g_get (v := .ref (ad 21)) (T := TX7) (N := 8) (ci := 6) C in_X7 0 rfl rfl 5 (by decide) wd222 (Or.inl rfl) rfl dX7_tellCount_66 rfl ?_
    refine g_iconst C dX7_tellCount_69 rfl ?_
    refine g_callV0 (As := [.int (iI (0))]) (rv := some (.int (iI (hsum S (0))))) (w1 := wT E ad S) (kc' := 0) (ks' := 0) C (k_X2_peopleWho l E ad S (0) hS (by omega)) mX2_peopleWho iX2_peopleWho wd269 21 2 rfl rfl rfl rfl rfl (Nat.le_of_ble_eq_true rfl) ⟨Nat.le_of_ble_eq_true rfl, Nat.le_of_ble_eq_true rfl⟩ ⟨Nat.le_of_ble_eq_true rfl, Nat.le_of_ble_eq_true rfl⟩ rfl rfl dX7_tellCount_70 rfl ?_
    have n70 := hsum_b (S := S) (st := (0)) hS
    exact z_iret C Z rfl dX7_tellCount_73 (by exact congrArg (fun z => some (Value.int (iI z))) (by unfold nTell; (repeat' split) <;> first | rfl | omega)) rfl
  by_cases c1_3 : wh = 3
  · refine g_tableIn C dX7_tellCount_1 74 3 c1_3 (by omega) (by decide) (by decide) rfl (by decide) ?_
    refine g_aload_n C dX7_tellCount_74 rfl 0 rfl ?_
    refine g_get (v := .ref (ad 21)) (T := TX7) (N := 8) (ci := 6) C in_X7 0 rfl rfl 5 (by decide) wd222 (Or.inl rfl) rfl dX7_tellCount_75 rfl ?_
    refine g_iconst C dX7_tellCount_78 rfl ?_
    refine g_callV0 (As := [.int (iI (1))]) (rv := some (.int (iI (hsum S (1))))) (w1 := wT E ad S) (kc' := 0) (ks' := 0) C (k_X2_peopleWho l E ad S (1) hS (by omega)) mX2_peopleWho iX2_peopleWho wd269 21 2 rfl rfl rfl rfl rfl (Nat.le_of_ble_eq_true rfl) ⟨Nat.le_of_ble_eq_true rfl, Nat.le_of_ble_eq_true rfl⟩ ⟨Nat.le_of_ble_eq_true rfl, Nat.le_of_ble_eq_true rfl⟩ rfl rfl dX7_tellCount_79 rfl ?_
    have n79 := hsum_b (S := S) (st := (1)) hS
    exact z_iret C Z rfl dX7_tellCount_82 (by exact congrArg (fun z => some (Value.int (iI z))) (by unfold nTell; (repeat' split) <;> first | rfl | omega)) rfl
  by_cases c1_4 : wh = 4
  · refine g_tableIn C dX7_tellCount_1 83 4 c1_4 (by omega) (by decide) (by decide) rfl (by decide) ?_
    refine g_aload_n C dX7_tellCount_83 rfl 0 rfl ?_
    refine g_get (v := .ref (ad 21)) (T := TX7) (N := 8) (ci := 6) C in_X7 0 rfl rfl 5 (by decide) wd222 (Or.inl rfl) rfl dX7_tellCount_84 rfl ?_
    refine g_iconst C dX7_tellCount_87 rfl ?_
    refine g_callV0 (As := [.int (iI (2))]) (rv := some (.int (iI (hsum S (2))))) (w1 := wT E ad S) (kc' := 0) (ks' := 0) C (k_X2_peopleWho l E ad S (2) hS (by omega)) mX2_peopleWho iX2_peopleWho wd269 21 2 rfl rfl rfl rfl rfl (Nat.le_of_ble_eq_true rfl) ⟨Nat.le_of_ble_eq_true rfl, Nat.le_of_ble_eq_true rfl⟩ ⟨Nat.le_of_ble_eq_true rfl, Nat.le_of_ble_eq_true rfl⟩ rfl rfl dX7_tellCount_88 rfl ?_
    have n88 := hsum_b (S := S) (st := (2)) hS
    exact z_iret C Z rfl dX7_tellCount_91 (by exact congrArg (fun z => some (Value.int (iI z))) (by unfold nTell; (repeat' split) <;> first | rfl | omega)) rfl
  by_cases c1_5 : wh = 5
  · refine g_tableIn C dX7_tellCount_1 92 5 c1_5 (by omega) (by decide) (by decide) rfl (by decide) ?_
    refine g_aload_n C dX7_tellCount_92 rfl 0 rfl ?_
    refine g_get (v := .ref (ad 21)) (T := TX7) (N := 8) (ci := 6) C in_X7 0 rfl rfl 5 (by decide) wd222 (Or.inl rfl) rfl dX7_tellCount_93 rfl ?_
    refine g_get (v := .int (iI (S.2 5))) (T := TX2) (N := 5) (ci := 2) C in_X2 21 rfl rfl 4 (by decide) wd168 (Or.inl rfl) rfl dX7_tellCount_96 rfl ?_
    exact z_iret C Z rfl dX7_tellCount_99 (by exact congrArg (fun z => some (Value.int (iI z))) (by unfold nTell; (repeat' split) <;> first | rfl | omega)) rfl
  by_cases c1_6 : wh = 6
  · refine g_tableIn C dX7_tellCount_1 100 6 c1_6 (by omega) (by decide) (by decide) rfl (by decide) ?_
    refine g_aload_n C dX7_tellCount_100 rfl 0 rfl ?_
    refine g_get (v := .ref (ad 1)) (T := TX7) (N := 8) (ci := 6) C in_X7 0 rfl rfl 1 (by decide) wd214 (Or.inl rfl) rfl dX7_tellCount_101 rfl ?_
    refine g_callV0 (As := []) (rv := some (.int (iI (wet (S.1 4))))) (w1 := wT E ad S) (kc' := 0) (ks' := 0) C (k_X3_wetStreets l E ad S (okT_L (S := S) hS)) mX3_wetStreets iX3_wetStreets wd270 1 3 rfl rfl rfl rfl rfl (Nat.le_of_ble_eq_true rfl) ⟨Nat.le_of_ble_eq_true rfl, Nat.le_of_ble_eq_true rfl⟩ ⟨Nat.le_of_ble_eq_true rfl, Nat.le_of_ble_eq_true rfl⟩ rfl rfl dX7_tellCount_104 rfl ?_
    exact z_iret C Z rfl dX7_tellCount_107 (by exact congrArg (fun z => some (Value.int (iI z))) (by unfold nTell; (repeat' split) <;> first | rfl | omega)) rfl
  by_cases c1_7 : wh = 7
  · refine g_tableIn C dX7_tellCount_1 108 7 c1_7 (by omega) (by decide) (by decide) rfl (by decide) ?_
    refine g_aload_n C dX7_tellCount_108 rfl 0 rfl ?_
    refine g_get (v := .ref (ad 1)) (T := TX7) (N := 8) (ci := 6) C in_X7 0 rfl rfl 1 (by decide) wd214 (Or.inl rfl) rfl dX7_tellCount_109 rfl ?_
    refine g_callV0 (As := []) (rv := some (.int (iI (sm (S.1 4) 10 70)))) (w1 := wT E ad S) (kc' := 0) (ks' := 0) C (k_X3_waterInStreets l E ad S (okT_L (S := S) hS)) mX3_waterInStreets iX3_waterInStreets wd274 1 3 rfl rfl rfl rfl rfl (Nat.le_of_ble_eq_true rfl) ⟨Nat.le_of_ble_eq_true rfl, Nat.le_of_ble_eq_true rfl⟩ ⟨Nat.le_of_ble_eq_true rfl, Nat.le_of_ble_eq_true rfl⟩ rfl rfl dX7_tellCount_112 rfl ?_
    have n112 := sm_b (o := 10) (okT_4 hS) 70
    exact z_iret C Z rfl dX7_tellCount_115 (by exact congrArg (fun z => some (Value.int (iI z))) (by unfold nTell; (repeat' split) <;> first | rfl | omega)) rfl
  by_cases c1_8 : wh = 8
  · refine g_tableIn C dX7_tellCount_1 116 8 c1_8 (by omega) (by decide) (by decide) rfl (by decide) ?_
    refine g_aload_n C dX7_tellCount_116 rfl 0 rfl ?_
    refine g_get (v := .ref (ad 1)) (T := TX7) (N := 8) (ci := 6) C in_X7 0 rfl rfl 1 (by decide) wd214 (Or.inl rfl) rfl dX7_tellCount_117 rfl ?_
    refine g_callV0 (As := []) (rv := some (.int (iI (sm (S.1 3) 0 80)))) (w1 := wT E ad S) (kc' := 0) (ks' := 0) C (k_X3_bagsInTown l E ad S (okT_L (S := S) hS)) mX3_bagsInTown iX3_bagsInTown wd278 1 3 rfl rfl rfl rfl rfl (Nat.le_of_ble_eq_true rfl) ⟨Nat.le_of_ble_eq_true rfl, Nat.le_of_ble_eq_true rfl⟩ ⟨Nat.le_of_ble_eq_true rfl, Nat.le_of_ble_eq_true rfl⟩ rfl rfl dX7_tellCount_120 rfl ?_
    have n120 := sm_b (o := 0) (okT_3 hS) 80
    exact z_iret C Z rfl dX7_tellCount_123 (by exact congrArg (fun z => some (Value.int (iI z))) (by unfold nTell; (repeat' split) <;> first | rfl | omega)) rfl
  refine g_tableOut C dX7_tellCount_1 124 (by omega) (by omega) (by decide) ?_
  refine g_aload_n C dX7_tellCount_124 rfl 0 rfl ?_
  refine g_get (v := .ref (ad 13)) (T := TX7) (N := 8) (ci := 6) C in_X7 0 rfl rfl 3 (by decide) wd218 (Or.inl rfl) rfl dX7_tellCount_125 rfl ?_
  refine g_aload_n C dX7_tellCount_128 rfl 0 rfl ?_
  refine g_get (v := .ref (ad 1)) (T := TX7) (N := 8) (ci := 6) C in_X7 0 rfl rfl 1 (by decide) wd214 (Or.inl rfl) rfl dX7_tellCount_129 rfl ?_
  refine g_callV0 (As := [.ref (ad 1)]) (rv := some (.int (iI (ringN (S.1 4) (S.1 14) (S.1 15) ((S.2 2)).toNat)))) (w1 := wT E ad S) (kc' := 0) (ks' := 0) C (k_X1_ringing l E ad S hS) mX1_ringing iX1_ringing wd282 13 1 rfl rfl rfl rfl rfl (Nat.le_of_ble_eq_true rfl) ⟨Nat.le_of_ble_eq_true rfl, Nat.le_of_ble_eq_true rfl⟩ ⟨Nat.le_of_ble_eq_true rfl, Nat.le_of_ble_eq_true rfl⟩ rfl rfl dX7_tellCount_132 rfl ?_
  have n132 := ring_b (S.1 4) (S.1 14) (S.1 15) ((S.2 2)).toNat
  have m132 := okT_i2 hS
  exact z_iret C Z rfl dX7_tellCount_135 (by exact congrArg (fun z => some (Value.int (iI z))) (by unfold nTell; (repeat' split) <;> first | rfl | omega)) rfl
