abbrev r_X2_isOut : Room := { frames := 0, cells := 0, slots := 0, locals := 0 }
set_option maxHeartbeats 4000000 in
set_option maxRecDepth 100000 in
theorem k_X2_isOut (l : Launch) (E : gE) (ad : Nat → Nat) (S : gS) (k : Int) (hS : okT S) (hk : 0 ≤ k ∧ k < 10) : gK l E yX2_isOut cX2_isOut 2 (some .boolean) r_X2_isOut [.ref (ad 21), .int (iI k)] (wT E ad S) (some (.int (iI (bI (S.1 24 k = 0 ∨ S.1 24 k = 1))))) (wT E ad S) := by
  refine gK_by RX2 rfl mX2_isOut [(0, .ref (ad 21)), (1, .int (iI k))] (Nat.le_of_ble_eq_true rfl) rfl ?_
  intro zp ze zs zm za zb zh zc zA zQ C Z
  refine g_aload_n C dX2_isOut_0 rfl 0 rfl ?_
  refine g_get (v := .ref (ad 24)) (T := TX2) (N := 5) (ci := 2) C in_X2 21 rfl rfl 3 (by decide) wd165 (Or.inl rfl) rfl dX2_isOut_1 rfl ?_
  refine g_iload_n C dX2_isOut_4 rfl 1 rfl ?_
  refine g_iald (f := (S.1 24)) C dX2_isOut_5 rfl 24 rfl (by omega) (by decide) ?_
  have b5 := okT_24 hS k
  refine g_if_eq C dX2_isOut_6 19 (by decide) rfl (by omega) (fun c6 => ?_) (fun c6 => ?_)
  · skip
    refine g_iconst C dX2_isOut_19 rfl ?_
    refine g_goto C dX2_isOut_20 24 (by decide) ?_
    exact z_iret C Z (z_nar (by omega)) dX2_isOut_24 (by exact congrArg (fun z => some (Value.int (iI z))) (by first | (rw [bI_t (by omega)]) | (rw [bI_f (by omega)]))) rfl
  · skip
    refine g_aload_n C dX2_isOut_9 rfl 0 rfl ?_
    refine g_get (v := .ref (ad 24)) (T := TX2) (N := 5) (ci := 2) C in_X2 21 rfl rfl 3 (by decide) wd165 (Or.inl rfl) rfl dX2_isOut_10 rfl ?_
    refine g_iload_n C dX2_isOut_13 rfl 1 rfl ?_
    refine g_iald (f := (S.1 24)) C dX2_isOut_14 rfl 24 rfl (by omega) (by decide) ?_
    have b14 := okT_24 hS k
    refine g_iconst C dX2_isOut_15 rfl ?_
    refine g_icmp_ne C dX2_isOut_16 23 (by decide) rfl (by omega) (by omega) (fun c16 => ?_) (fun c16 => ?_)
    · skip
      refine g_iconst C dX2_isOut_23 rfl ?_
      exact z_iret C Z (z_nar (by omega)) dX2_isOut_24 (by exact congrArg (fun z => some (Value.int (iI z))) (by first | (rw [bI_t (by omega)]) | (rw [bI_f (by omega)]))) rfl
    · skip
      refine g_iconst C dX2_isOut_19 rfl ?_
      refine g_goto C dX2_isOut_20 24 (by decide) ?_
      exact z_iret C Z (z_nar (by omega)) dX2_isOut_24 (by exact congrArg (fun z => some (Value.int (iI z))) (by first | (rw [bI_t (by omega)]) | (rw [bI_f (by omega)]))) rfl
abbrev r_X2_peopleWho : Room := { frames := 0, cells := 0, slots := 0, locals := 0 }
set_option maxHeartbeats 4000000 in
set_option maxRecDepth 100000 in
theorem k_X2_peopleWho (l : Launch) (E : gE) (ad : Nat → Nat) (S : gS) (st : Int) (hS : okT S) (hst : 0 ≤ st ∧ st ≤ 3) : gK l E yX2_peopleWho cX2_peopleWho 4 (some .int) r_X2_peopleWho [.ref (ad 21), .int (iI st)] (wT E ad S) (some (.int (iI (hsum S st)))) (wT E ad S) := by
  refine gK_by RX2 rfl mX2_peopleWho [(0, .ref (ad 21)), (1, .int (iI st))] (Nat.le_of_ble_eq_true rfl) rfl ?_
  intro zp ze zs zm za zb zh zc zA zQ C Z
  refine g_iconst C dX2_peopleWho_0 rfl ?_
  refine g_istore_n (lv' := [(2, .int (iI (0))), (0, .ref (ad 21)), (1, .int (iI st))]) C dX2_peopleWho_1 rfl (by decide) rfl ?_
  refine g_iconst C dX2_peopleWho_2 rfl ?_
  refine g_istore_n (lv' := [(3, .int (iI (0))), (2, .int (iI (0))), (0, .ref (ad 21)), (1, .int (iI st))]) C dX2_peopleWho_3 rfl (by decide) rfl ?_
  have L4 : ∀ k9 : Nat, k9 ≤ (S.2 4).toNat → gG E zp l ze r_X2_peopleWho zs zm za zb zh zc zA 4 0 0 zQ (wT E ad S) 4 [(3, .int (iI (k9 : Int))), (2, .int (iI (itr (hsumB (S.1 24) (S.1 23) st) 0 k9))), (0, .ref (ad 21)), (1, .int (iI st))] [] := by
    refine g_up ((S.2 4).toNat) _ ?_
    intro k9 ih4 hk4
    obtain ⟨x, hx4⟩ : ∃ z, z = itr (hsumB (S.1 24) (S.1 23) st) 0 k9 := ⟨_, rfl⟩
    rw [← hx4]
    have ff := okT_i4 hS
    refine g_iload_n C dX2_peopleWho_4 rfl 0 rfl ?_
    refine g_aload_n C dX2_peopleWho_5 rfl 2 rfl ?_
    refine g_get (v := .int (iI (S.2 4))) (T := TX2) (N := 5) (ci := 2) C in_X2 21 rfl rfl 1 (by decide) wd103 (Or.inr wd104) rfl dX2_peopleWho_6 rfl ?_
    have f6 := okT_i4 hS
    refine g_icmp_ge C dX2_peopleWho_9 41 (by decide) rfl (by omega) (by omega) (fun c9 => ?_) (fun c9 => ?_)
    · skip
      have hz4 : x = hsum S st := by rw [hx4, show k9 = (S.2 4).toNat from by omega] <;> rfl
      refine g_iload_n C dX2_peopleWho_41 rfl 1 rfl ?_
      exact z_iret C Z rfl dX2_peopleWho_42 (by exact congrArg (fun z => some (Value.int (iI z))) (hz4.symm)) rfl
    · skip
      refine g_iload_n C dX2_peopleWho_12 rfl 1 rfl ?_
      refine g_aload_n C dX2_peopleWho_13 rfl 2 rfl ?_
      refine g_get (v := .ref (ad 24)) (T := TX2) (N := 5) (ci := 2) C in_X2 21 rfl rfl 3 (by decide) wd165 (Or.inl rfl) rfl dX2_peopleWho_14 rfl ?_
      refine g_iload_n C dX2_peopleWho_17 rfl 0 rfl ?_
      refine g_iald (f := (S.1 24)) C dX2_peopleWho_18 rfl 24 rfl (by omega) (by decide) ?_
      have b18 := okT_24 hS (k9 : Int)
      refine g_iload_n C dX2_peopleWho_19 rfl 3 rfl ?_
      refine g_icmp_ne C dX2_peopleWho_20 32 (by decide) rfl (by omega) (by omega) (fun c20 => ?_) (fun c20 => ?_)
      · skip
        refine g_iconst C dX2_peopleWho_32 rfl ?_
        refine g_iadd C dX2_peopleWho_33 rfl ?_
        refine g_istore_n (lv' := [(2, .int (iI (x + (0)))), (3, .int (iI (k9 : Int))), (0, .ref (ad 21)), (1, .int (iI st))]) C dX2_peopleWho_34 rfl (by decide) rfl ?_
        refine g_iinc (lv' := [(3, .int (iI ((k9 : Int) + 1))), (2, .int (iI (x + (0)))), (0, .ref (ad 21)), (1, .int (iI st))]) C dX2_peopleWho_35 rfl 1 rfl (by decide) rfl ?_
        refine g_goto C dX2_peopleWho_38 4 (by decide) ?_
        have e4 : (hsumB (S.1 24) (S.1 23) st) k9 x = (x + (0)) := by
          unfold hsumB
          first | (rw [tod_t (by omega)]) | (rw [tod_f (by omega)])
        have i4 := ih4 (by omega)
        rw [show itr (hsumB (S.1 24) (S.1 23) st) 0 (k9 + 1) = (x + (0)) from by rw [← e4, hx4]; rfl] at i4
        exact g_to [0, 1, 2, 3] (i4) rfl rfl rfl
      · skip
        refine g_aload_n C dX2_peopleWho_23 rfl 2 rfl ?_
        refine g_get (v := .ref (ad 23)) (T := TX2) (N := 5) (ci := 2) C in_X2 21 rfl rfl 2 (by decide) wd163 (Or.inl rfl) rfl dX2_peopleWho_24 rfl ?_
        refine g_iload_n C dX2_peopleWho_27 rfl 0 rfl ?_
        refine g_iald (f := (S.1 23)) C dX2_peopleWho_28 rfl 23 rfl (by omega) (by decide) ?_
        have b28 := okT_23 hS (k9 : Int)
        refine g_goto C dX2_peopleWho_29 33 (by decide) ?_
        refine g_iadd C dX2_peopleWho_33 rfl ?_
        refine g_istore_n (lv' := [(2, .int (iI (x + ((S.1 23) (k9 : Int))))), (3, .int (iI (k9 : Int))), (0, .ref (ad 21)), (1, .int (iI st))]) C dX2_peopleWho_34 rfl (by decide) rfl ?_
        refine g_iinc (lv' := [(3, .int (iI ((k9 : Int) + 1))), (2, .int (iI (x + ((S.1 23) (k9 : Int))))), (0, .ref (ad 21)), (1, .int (iI st))]) C dX2_peopleWho_35 rfl 1 rfl (by decide) rfl ?_
        refine g_goto C dX2_peopleWho_38 4 (by decide) ?_
        have e4 : (hsumB (S.1 24) (S.1 23) st) k9 x = (x + ((S.1 23) (k9 : Int))) := by
          unfold hsumB
          first | (rw [tod_t (by omega)]) | (rw [tod_f (by omega)])
        have i4 := ih4 (by omega)
        rw [show itr (hsumB (S.1 24) (S.1 23) st) 0 (k9 + 1) = (x + ((S.1 23) (k9 : Int))) from by rw [← e4, hx4]; rfl] at i4
        exact g_to [0, 1, 2, 3] (i4) rfl rfl rfl
  refine g_to [0, 1, 2, 3] (L4 0 (by omega)) rfl rfl rfl
abbrev r_X2_peopleOutAt : Room := { frames := 1, cells := 0, slots := 0, locals := 21 }
set_option maxHeartbeats 4000000 in
set_option maxRecDepth 100000 in
theorem k_X2_peopleOutAt (l : Launch) (E : gE) (ad : Nat → Nat) (S : gS) (q : Int) (hS : okT S) (hq : 0 ≤ q ∧ q < 80) : gK l E yX2_peopleOutAt cX2_peopleOutAt 4 (some .int) r_X2_peopleOutAt [.ref (ad 21), .int (iI q)] (wT E ad S) (some (.int (iI (outS S q)))) (wT E ad S) := by
  refine gK_by RX2 rfl mX2_peopleOutAt [(0, .ref (ad 21)), (1, .int (iI q))] (Nat.le_of_ble_eq_true rfl) rfl ?_
  intro zp ze zs zm za zb zh zc zA zQ C Z
  refine g_iconst C dX2_peopleOutAt_0 rfl ?_
  refine g_istore_n (lv' := [(2, .int (iI (0))), (0, .ref (ad 21)), (1, .int (iI q))]) C dX2_peopleOutAt_1 rfl (by decide) rfl ?_
  refine g_iconst C dX2_peopleOutAt_2 rfl ?_
  refine g_istore_n (lv' := [(3, .int (iI (0))), (2, .int (iI (0))), (0, .ref (ad 21)), (1, .int (iI q))]) C dX2_peopleOutAt_3 rfl (by decide) rfl ?_
  have L4 : ∀ k9 : Nat, k9 ≤ (S.2 4).toNat → gG E zp l ze r_X2_peopleOutAt zs zm za zb zh zc zA 4 0 0 zQ (wT E ad S) 4 [(3, .int (iI (k9 : Int))), (2, .int (iI (itr (outB (S.1 24) (S.1 23) (S.1 22) q) 0 k9))), (0, .ref (ad 21)), (1, .int (iI q))] [] := by
    refine g_up ((S.2 4).toNat) _ ?_
    intro k9 ih4 hk4
    obtain ⟨x, hx4⟩ : ∃ z, z = itr (outB (S.1 24) (S.1 23) (S.1 22) q) 0 k9 := ⟨_, rfl⟩
    rw [← hx4]
    have ff := okT_i4 hS
    refine g_iload_n C dX2_peopleOutAt_4 rfl 0 rfl ?_
    refine g_aload_n C dX2_peopleOutAt_5 rfl 2 rfl ?_
    refine g_get (v := .int (iI (S.2 4))) (T := TX2) (N := 5) (ci := 2) C in_X2 21 rfl rfl 1 (by decide) wd103 (Or.inr wd104) rfl dX2_peopleOutAt_6 rfl ?_
    have f6 := okT_i4 hS
    refine g_icmp_ge C dX2_peopleOutAt_9 49 (by decide) rfl (by omega) (by omega) (fun c9 => ?_) (fun c9 => ?_)
    · skip
      have hz4 : x = outS S q := by rw [hx4, show k9 = (S.2 4).toNat from by omega] <;> rfl
      refine g_iload_n C dX2_peopleOutAt_49 rfl 1 rfl ?_
      exact z_iret C Z rfl dX2_peopleOutAt_50 (by exact congrArg (fun z => some (Value.int (iI z))) (hz4.symm)) rfl
    · skip
      refine g_iload_n C dX2_peopleOutAt_12 rfl 1 rfl ?_
      refine g_aload_n C dX2_peopleOutAt_13 rfl 2 rfl ?_
      refine g_iload_n C dX2_peopleOutAt_14 rfl 0 rfl ?_
      refine g_callV0 (As := [.int (iI (k9 : Int))]) (rv := some (.int (iI (bI ((S.1 24) (k9 : Int) = 0 ∨ (S.1 24) (k9 : Int) = 1))))) (w1 := wT E ad S) (kc' := 0) (ks' := 0) C (k_X2_isOut l E ad S (k9 : Int) hS (by omega)) mX2_isOut iX2_isOut wd302 21 2 rfl rfl rfl rfl rfl (Nat.le_of_ble_eq_true rfl) ⟨Nat.le_of_ble_eq_true rfl, Nat.le_of_ble_eq_true rfl⟩ ⟨Nat.le_of_ble_eq_true rfl, Nat.le_of_ble_eq_true rfl⟩ rfl rfl dX2_peopleOutAt_15 rfl ?_
      have n15 := bI_w ((S.1 24) (k9 : Int) = 0 ∨ (S.1 24) (k9 : Int) = 1)
      refine g_if_eq C dX2_peopleOutAt_18 40 (by decide) rfl (by omega) (fun c18 => ?_) (fun c18 => ?_)
      · skip
        refine g_iconst C dX2_peopleOutAt_40 rfl ?_
        refine g_iadd C dX2_peopleOutAt_41 rfl ?_
        refine g_istore_n (lv' := [(2, .int (iI (x + (0)))), (3, .int (iI (k9 : Int))), (0, .ref (ad 21)), (1, .int (iI q))]) C dX2_peopleOutAt_42 rfl (by decide) rfl ?_
        refine g_iinc (lv' := [(3, .int (iI ((k9 : Int) + 1))), (2, .int (iI (x + (0)))), (0, .ref (ad 21)), (1, .int (iI q))]) C dX2_peopleOutAt_43 rfl 1 rfl (by decide) rfl ?_
        refine g_goto C dX2_peopleOutAt_46 4 (by decide) ?_
        have e4 : (outB (S.1 24) (S.1 23) (S.1 22) q) k9 x = (x + (0)) := by
          unfold outB
          first | (rw [tod_t (by omega)]) | (rw [tod_f (by omega)])
        have i4 := ih4 (by omega)
        rw [show itr (outB (S.1 24) (S.1 23) (S.1 22) q) 0 (k9 + 1) = (x + (0)) from by rw [← e4, hx4]; rfl] at i4
        exact g_to [0, 1, 2, 3] (i4) rfl rfl rfl
      · skip
        refine g_aload_n C dX2_peopleOutAt_21 rfl 2 rfl ?_
        refine g_get (v := .ref (ad 22)) (T := TX2) (N := 5) (ci := 2) C in_X2 21 rfl rfl 0 (by decide) wd86 (Or.inr wd87) rfl dX2_peopleOutAt_22 rfl ?_
        refine g_iload_n C dX2_peopleOutAt_25 rfl 0 rfl ?_
        refine g_iald (f := (S.1 22)) C dX2_peopleOutAt_26 rfl 22 rfl (by omega) (by decide) ?_
        have b26 := okT_22 hS (k9 : Int)
        refine g_iload_n C dX2_peopleOutAt_27 rfl 3 rfl ?_
        refine g_icmp_ne C dX2_peopleOutAt_28 40 (by decide) rfl (by omega) (by omega) (fun c28 => ?_) (fun c28 => ?_)
        · skip
          refine g_iconst C dX2_peopleOutAt_40 rfl ?_
          refine g_iadd C dX2_peopleOutAt_41 rfl ?_
          refine g_istore_n (lv' := [(2, .int (iI (x + (0)))), (3, .int (iI (k9 : Int))), (0, .ref (ad 21)), (1, .int (iI q))]) C dX2_peopleOutAt_42 rfl (by decide) rfl ?_
          refine g_iinc (lv' := [(3, .int (iI ((k9 : Int) + 1))), (2, .int (iI (x + (0)))), (0, .ref (ad 21)), (1, .int (iI q))]) C dX2_peopleOutAt_43 rfl 1 rfl (by decide) rfl ?_
          refine g_goto C dX2_peopleOutAt_46 4 (by decide) ?_
          have e4 : (outB (S.1 24) (S.1 23) (S.1 22) q) k9 x = (x + (0)) := by
            unfold outB
            first | (rw [tod_t (by omega)]) | (rw [tod_f (by omega)])
          have i4 := ih4 (by omega)
          rw [show itr (outB (S.1 24) (S.1 23) (S.1 22) q) 0 (k9 + 1) = (x + (0)) from by rw [← e4, hx4]; rfl] at i4
          exact g_to [0, 1, 2, 3] (i4) rfl rfl rfl
        · skip
          refine g_aload_n C dX2_peopleOutAt_31 rfl 2 rfl ?_
          refine g_get (v := .ref (ad 23)) (T := TX2) (N := 5) (ci := 2) C in_X2 21 rfl rfl 2 (by decide) wd163 (Or.inl rfl) rfl dX2_peopleOutAt_32 rfl ?_
          refine g_iload_n C dX2_peopleOutAt_35 rfl 0 rfl ?_
          refine g_iald (f := (S.1 23)) C dX2_peopleOutAt_36 rfl 23 rfl (by omega) (by decide) ?_
          have b36 := okT_23 hS (k9 : Int)
          refine g_goto C dX2_peopleOutAt_37 41 (by decide) ?_
          refine g_iadd C dX2_peopleOutAt_41 rfl ?_
          refine g_istore_n (lv' := [(2, .int (iI (x + ((S.1 23) (k9 : Int))))), (3, .int (iI (k9 : Int))), (0, .ref (ad 21)), (1, .int (iI q))]) C dX2_peopleOutAt_42 rfl (by decide) rfl ?_
          refine g_iinc (lv' := [(3, .int (iI ((k9 : Int) + 1))), (2, .int (iI (x + ((S.1 23) (k9 : Int))))), (0, .ref (ad 21)), (1, .int (iI q))]) C dX2_peopleOutAt_43 rfl 1 rfl (by decide) rfl ?_
          refine g_goto C dX2_peopleOutAt_46 4 (by decide) ?_
          have e4 : (outB (S.1 24) (S.1 23) (S.1 22) q) k9 x = (x + ((S.1 23) (k9 : Int))) := by
            unfold outB
            first | (rw [tod_t (by omega)]) | (rw [tod_f (by omega)])
          have i4 := ih4 (by omega)
          rw [show itr (outB (S.1 24) (S.1 23) (S.1 22) q) 0 (k9 + 1) = (x + ((S.1 23) (k9 : Int))) from by rw [← e4, hx4]; rfl] at i4
          exact g_to [0, 1, 2, 3] (i4) rfl rfl rfl
  refine g_to [0, 1, 2, 3] (L4 0 (by omega)) rfl rfl rfl
abbrev r_X2_nearestAtHome : Room := { frames := 1, cells := 0, slots := 0, locals := 22 }
set_option maxHeartbeats 4000000 in
set_option maxRecDepth 100000 in
theorem k_X2_nearestAtHome (l : Launch) (E : gE) (ad : Nat → Nat) (S : gS) (hS : okT S) : gK l E yX2_nearestAtHome cX2_nearestAtHome 5 (some .int) r_X2_nearestAtHome [.ref (ad 21), .ref (ad 28)] (wT E ad S) (some (.int (iI (homeS S)))) (wT E ad S) := by
  refine gK_by RX2 rfl mX2_nearestAtHome [(0, .ref (ad 21)), (1, .ref (ad 28))] (Nat.le_of_ble_eq_true rfl) rfl ?_
  intro zp ze zs zm za zb zh zc zA zQ C Z
  refine g_iconst C dX2_nearestAtHome_0 rfl ?_
  refine g_istore_n (lv' := [(2, .int (iI (-1))), (0, .ref (ad 21)), (1, .ref (ad 28))]) C dX2_nearestAtHome_1 rfl (by decide) rfl ?_
  refine g_iconst C dX2_nearestAtHome_2 rfl ?_
  refine g_istore_n (lv' := [(3, .int (iI (-1))), (2, .int (iI (-1))), (0, .ref (ad 21)), (1, .ref (ad 28))]) C dX2_nearestAtHome_3 rfl (by decide) rfl ?_
  refine g_iconst C dX2_nearestAtHome_4 rfl ?_
  refine g_istore (lv' := [(4, .int (iI (0))), (3, .int (iI (-1))), (2, .int (iI (-1))), (0, .ref (ad 21)), (1, .ref (ad 28))]) C dX2_nearestAtHome_5 rfl (by decide) rfl ?_
  have L7 : ∀ k9 : Nat, k9 ≤ (S.2 4).toNat → gG E zp l ze r_X2_nearestAtHome zs zm za zb zh zc zA 5 0 0 zQ (wT E ad S) 7 [(4, .int (iI (k9 : Int))), (3, .int (iI (homeI (S.1 24) (S.1 22) (S.1 29) k9).2)), (2, .int (iI (homeI (S.1 24) (S.1 22) (S.1 29) k9).1)), (0, .ref (ad 21)), (1, .ref (ad 28))] [] := by
    refine g_up ((S.2 4).toNat) _ ?_
    intro k9 ih7 hk7
    have iv7_0 := homeI_b (hs := S.1 24) (stp := S.1 29) (okT_22 hS) k9
    obtain ⟨x, hx7⟩ : ∃ z, z = homeI (S.1 24) (S.1 22) (S.1 29) k9 := ⟨_, rfl⟩
    rw [← hx7]
    rw [← hx7] at iv7_0
    have ff := okT_i4 hS
    refine g_iload C dX2_nearestAtHome_7 rfl 0 rfl ?_
    refine g_aload_n C dX2_nearestAtHome_9 rfl 3 rfl ?_
    refine g_get (v := .int (iI (S.2 4))) (T := TX2) (N := 5) (ci := 2) C in_X2 21 rfl rfl 1 (by decide) wd103 (Or.inr wd104) rfl dX2_nearestAtHome_10 rfl ?_
    have f10 := okT_i4 hS
    refine g_icmp_ge C dX2_nearestAtHome_13 58 (by decide) rfl (by omega) (by omega) (fun c13 => ?_) (fun c13 => ?_)
    · skip
      have hz7 : x = homeI (S.1 24) (S.1 22) (S.1 29) (S.2 4).toNat := by rw [hx7, show k9 = (S.2 4).toNat from by omega] <;> rfl
      refine g_iload_n C dX2_nearestAtHome_58 rfl 2 rfl ?_
      exact z_iret C Z rfl dX2_nearestAtHome_59 (by unfold homeS; rw [← hz7]) rfl
    · skip
      refine g_aload_n C dX2_nearestAtHome_16 rfl 3 rfl ?_
      refine g_get (v := .ref (ad 24)) (T := TX2) (N := 5) (ci := 2) C in_X2 21 rfl rfl 3 (by decide) wd165 (Or.inl rfl) rfl dX2_nearestAtHome_17 rfl ?_
      refine g_iload C dX2_nearestAtHome_20 rfl 0 rfl ?_
      refine g_iald (f := (S.1 24)) C dX2_nearestAtHome_22 rfl 24 rfl (by omega) (by decide) ?_
      have b22 := okT_24 hS (k9 : Int)
      refine g_if_ne C dX2_nearestAtHome_23 52 (by decide) rfl (by omega) (fun c23 => ?_) (fun c23 => ?_)
      · skip
        refine g_iinc (lv' := [(4, .int (iI ((k9 : Int) + 1))), (3, .int (iI x.2)), (2, .int (iI x.1)), (0, .ref (ad 21)), (1, .ref (ad 28))]) C dX2_nearestAtHome_52 rfl 0 rfl (by decide) rfl ?_
        refine g_goto C dX2_nearestAtHome_55 7 (by decide) ?_
        have e7 : (homeB (S.1 24) (S.1 22) (S.1 29)) k9 x = (x.1, x.2) := by
          unfold homeB
          first | (rw [if_pos (by omega)]) | (rw [if_neg (by omega)])
        have i7 := ih7 (by omega)
        rw [show homeI (S.1 24) (S.1 22) (S.1 29) (k9 + 1) = (x.1, x.2) from by rw [← e7, hx7]; rfl] at i7
        exact g_to [0, 1, 2, 3, 4] (i7) rfl rfl rfl
      · skip
        refine g_aload_n C dX2_nearestAtHome_26 rfl 4 rfl ?_
        refine g_aload_n C dX2_nearestAtHome_27 rfl 3 rfl ?_
        refine g_get (v := .ref (ad 22)) (T := TX2) (N := 5) (ci := 2) C in_X2 21 rfl rfl 0 (by decide) wd86 (Or.inr wd87) rfl dX2_nearestAtHome_28 rfl ?_
        refine g_iload C dX2_nearestAtHome_31 rfl 0 rfl ?_
        refine g_iald (f := (S.1 22)) C dX2_nearestAtHome_33 rfl 22 rfl (by omega) (by decide) ?_
        have b33 := okT_22 hS (k9 : Int)
        refine g_iload_n C dX2_nearestAtHome_34 rfl 1 rfl ?_
        refine g_callV0 (As := [.int (iI ((S.1 22) (k9 : Int))), .int (iI x.2)]) (rv := some (.int (iI (bI ((S.1 29) ((S.1 22) (k9 : Int)) ≠ -1 ∧ (x.2 = -1 ∨ (S.1 29) ((S.1 22) (k9 : Int)) < (S.1 29) x.2)))))) (w1 := wT E ad S) (kc' := 0) (ks' := 0) C (k_X8_isNearer l E ad S ((S.1 22) (k9 : Int)) x.2 hS (by omega) (by omega)) mX8_isNearer iX8_isNearer wd771 28 7 rfl rfl rfl rfl rfl (Nat.le_of_ble_eq_true rfl) ⟨Nat.le_of_ble_eq_true rfl, Nat.le_of_ble_eq_true rfl⟩ ⟨Nat.le_of_ble_eq_true rfl, Nat.le_of_ble_eq_true rfl⟩ rfl rfl dX2_nearestAtHome_35 rfl ?_
        have n35 := bI_w ((S.1 29) ((S.1 22) (k9 : Int)) ≠ -1 ∧ (x.2 = -1 ∨ (S.1 29) ((S.1 22) (k9 : Int)) < (S.1 29) x.2))
        refine g_if_eq C dX2_nearestAtHome_38 52 (by decide) rfl (by omega) (fun c38 => ?_) (fun c38 => ?_)
        · skip
          refine g_iinc (lv' := [(4, .int (iI ((k9 : Int) + 1))), (3, .int (iI x.2)), (2, .int (iI x.1)), (0, .ref (ad 21)), (1, .ref (ad 28))]) C dX2_nearestAtHome_52 rfl 0 rfl (by decide) rfl ?_
          refine g_goto C dX2_nearestAtHome_55 7 (by decide) ?_
          have e7 : (homeB (S.1 24) (S.1 22) (S.1 29)) k9 x = (x.1, x.2) := by
            unfold homeB
            first | (rw [if_pos (by omega)]) | (rw [if_neg (by omega)])
          have i7 := ih7 (by omega)
          rw [show homeI (S.1 24) (S.1 22) (S.1 29) (k9 + 1) = (x.1, x.2) from by rw [← e7, hx7]; rfl] at i7
          exact g_to [0, 1, 2, 3, 4] (i7) rfl rfl rfl
        · skip
          refine g_iload C dX2_nearestAtHome_41 rfl 0 rfl ?_
          refine g_istore_n (lv' := [(2, .int (iI (k9 : Int))), (4, .int (iI (k9 : Int))), (3, .int (iI x.2)), (0, .ref (ad 21)), (1, .ref (ad 28))]) C dX2_nearestAtHome_43 rfl (by decide) rfl ?_
          refine g_aload_n C dX2_nearestAtHome_44 rfl 3 rfl ?_
          refine g_get (v := .ref (ad 22)) (T := TX2) (N := 5) (ci := 2) C in_X2 21 rfl rfl 0 (by decide) wd86 (Or.inr wd87) rfl dX2_nearestAtHome_45 rfl ?_
          refine g_iload C dX2_nearestAtHome_48 rfl 1 rfl ?_
          refine g_iald (f := (S.1 22)) C dX2_nearestAtHome_50 rfl 22 rfl (by omega) (by decide) ?_
          have b50 := okT_22 hS (k9 : Int)
          refine g_istore_n (lv' := [(3, .int (iI ((S.1 22) (k9 : Int)))), (2, .int (iI (k9 : Int))), (4, .int (iI (k9 : Int))), (0, .ref (ad 21)), (1, .ref (ad 28))]) C dX2_nearestAtHome_51 rfl (by decide) rfl ?_
          refine g_iinc (lv' := [(4, .int (iI ((k9 : Int) + 1))), (3, .int (iI ((S.1 22) (k9 : Int)))), (2, .int (iI (k9 : Int))), (0, .ref (ad 21)), (1, .ref (ad 28))]) C dX2_nearestAtHome_52 rfl 2 rfl (by decide) rfl ?_
          refine g_goto C dX2_nearestAtHome_55 7 (by decide) ?_
          have e7 : (homeB (S.1 24) (S.1 22) (S.1 29)) k9 x = ((k9 : Int), ((S.1 22) (k9 : Int))) := by
            unfold homeB
            first | (rw [if_pos (by omega)]) | (rw [if_neg (by omega)])
          have i7 := ih7 (by omega)
          rw [show homeI (S.1 24) (S.1 22) (S.1 29) (k9 + 1) = ((k9 : Int), ((S.1 22) (k9 : Int))) from by rw [← e7, hx7]; rfl] at i7
          exact g_to [0, 1, 2, 3, 4] (i7) rfl rfl rfl
  refine g_to [0, 1, 2, 3, 4] (L7 0 (by omega)) rfl rfl rfl
abbrev r_X2_warnAround : Room := { frames := 2, cells := 0, slots := 0, locals := 44 }
set_option maxHeartbeats 4000000 in
set_option maxRecDepth 100000 in
theorem k_X2_warnAround (l : Launch) (E : gE) (ad : Nat → Nat) (S : gS) (q : Int) (hS : okT S) (hq : 0 ≤ q ∧ q < 80) : gK l E yX2_warnAround cX2_warnAround 4 (some .int) r_X2_warnAround [.ref (ad 21), .int (iI q)] (wT E ad S) (some (.int (iI (warnS S q).2))) (wT E ad (setA S 24 (warnS S q).1)) := by
  refine gK_by RX2 rfl mX2_warnAround [(0, .ref (ad 21)), (1, .int (iI q))] (Nat.le_of_ble_eq_true rfl) rfl ?_
  intro zp ze zs zm za zb zh zc zA zQ C Z
  refine g_iconst C dX2_warnAround_0 rfl ?_
  refine g_istore_n (lv' := [(2, .int (iI (0))), (0, .ref (ad 21)), (1, .int (iI q))]) C dX2_warnAround_1 rfl (by decide) rfl ?_
  refine g_iconst C dX2_warnAround_2 rfl ?_
  refine g_istore_n (lv' := [(3, .int (iI (0))), (2, .int (iI (0))), (0, .ref (ad 21)), (1, .int (iI q))]) C dX2_warnAround_3 rfl (by decide) rfl ?_
  have L4 : ∀ k9 : Nat, k9 ≤ (S.2 4).toNat → gG E zp l ze r_X2_warnAround zs zm za zb zh zc zA 4 0 0 zQ (wT E ad (setA S 24 ((warnI (S.1 24) (S.1 22) q k9).1))) 4 [(3, .int (iI (k9 : Int))), (2, .int (iI (warnI (S.1 24) (S.1 22) q k9).2)), (0, .ref (ad 21)), (1, .int (iI q))] [] := by
    refine g_up ((S.2 4).toNat) _ ?_
    intro k9 ih4 hk4
    have iv4_0 := warnI_b (hc := S.1 22) (q := q) (okT_24 hS) k9
    obtain ⟨x, hx4⟩ : ∃ z, z = warnI (S.1 24) (S.1 22) q k9 := ⟨_, rfl⟩
    rw [← hx4]
    rw [← hx4] at iv4_0
    have ff := okT_i4 hS
    have ff9 := okT_22 hS (k9 : Int)
    refine g_iload_n C dX2_warnAround_4 rfl 0 rfl ?_
    refine g_aload_n C dX2_warnAround_5 rfl 2 rfl ?_
    refine g_get (v := .int (iI (S.2 4))) (T := TX2) (N := 5) (ci := 2) C in_X2 21 rfl rfl 1 (by decide) wd103 (Or.inr wd104) rfl dX2_warnAround_6 rfl ?_
    have f6 := okT_i4 hS
    refine g_icmp_ge C dX2_warnAround_9 50 (by decide) rfl (by omega) (by omega) (fun c9 => ?_) (fun c9 => ?_)
    · skip
      have hz4 : x = warnS S q := by rw [hx4, show k9 = (S.2 4).toNat from by omega] <;> rfl
      refine g_iload_n C dX2_warnAround_50 rfl 1 rfl ?_
      exact z_iret C Z rfl dX2_warnAround_51 (by rw [← hz4]) (by rw [← hz4])
    · skip
      refine g_aload_n C dX2_warnAround_12 rfl 2 rfl ?_
      refine g_get (v := .ref (ad 24)) (T := TX2) (N := 5) (ci := 2) C in_X2 21 rfl rfl 3 (by decide) wd165 (Or.inl rfl) rfl dX2_warnAround_13 rfl ?_
      refine g_iload_n C dX2_warnAround_16 rfl 0 rfl ?_
      refine g_iald (f := x.1) C dX2_warnAround_17 rfl 24 rfl (by omega) (by decide) ?_
      have b17 := iv4_0 (k9 : Int)
      refine g_if_ne C dX2_warnAround_18 44 (by decide) rfl (by omega) (fun c18 => ?_) (fun c18 => ?_)
      · skip
        refine g_iinc (lv' := [(3, .int (iI ((k9 : Int) + 1))), (2, .int (iI x.2)), (0, .ref (ad 21)), (1, .int (iI q))]) C dX2_warnAround_44 rfl 0 rfl (by decide) rfl ?_
        refine g_goto C dX2_warnAround_47 4 (by decide) ?_
        have e4 : (warnB (S.1 22) q) k9 x = (x.1, x.2) := by
          unfold warnB
          first | (rw [if_pos (by omega)]) | (rw [if_neg (by omega)])
        have i4 := ih4 (by omega)
        rw [show warnI (S.1 24) (S.1 22) q (k9 + 1) = (x.1, x.2) from by rw [← e4, hx4]; rfl] at i4
        exact g_to [0, 1, 2, 3] (i4) rfl rfl rfl
      · skip
        refine g_iload_n C dX2_warnAround_21 rfl 3 rfl ?_
        refine g_aload_n C dX2_warnAround_22 rfl 2 rfl ?_
        refine g_get (v := .ref (ad 22)) (T := TX2) (N := 5) (ci := 2) C in_X2 21 rfl rfl 0 (by decide) wd86 (Or.inr wd87) rfl dX2_warnAround_23 rfl ?_
        refine g_iload_n C dX2_warnAround_26 rfl 0 rfl ?_
        refine g_iald (f := (S.1 22)) C dX2_warnAround_27 rfl 22 rfl (by omega) (by decide) ?_
        have b27 := okT_22 hS (k9 : Int)
        refine g_callS1 (As := [.int (iI q), .int (iI ((S.1 22) (k9 : Int)))]) (rv := some (.int (iI (near q ((S.1 22) (k9 : Int)))))) (kc' := 0) (ks' := 0) C (k_X3_isSameOrNeighbour l E q ((S.1 22) (k9 : Int)) (by omega) (by omega)) mX3_isSameOrNeighbour wd777 wd776 rfl rfl (Nat.le_of_ble_eq_true rfl) ⟨Nat.le_of_ble_eq_true rfl, Nat.le_of_ble_eq_true rfl⟩ ⟨Nat.le_of_ble_eq_true rfl, Nat.le_of_ble_eq_true rfl⟩ rfl rfl dX2_warnAround_28 rfl ?_
        have n28 := near_b1 q ((S.1 22) (k9 : Int))
        refine g_if_eq C dX2_warnAround_31 44 (by decide) rfl (by omega) (fun c31 => ?_) (fun c31 => ?_)
        · skip
          refine g_iinc (lv' := [(3, .int (iI ((k9 : Int) + 1))), (2, .int (iI x.2)), (0, .ref (ad 21)), (1, .int (iI q))]) C dX2_warnAround_44 rfl 0 rfl (by decide) rfl ?_
          refine g_goto C dX2_warnAround_47 4 (by decide) ?_
          have e4 : (warnB (S.1 22) q) k9 x = (x.1, x.2) := by
            unfold warnB
            first | (rw [if_pos (by omega)]) | (rw [if_neg (by omega)])
          have i4 := ih4 (by omega)
          rw [show warnI (S.1 24) (S.1 22) q (k9 + 1) = (x.1, x.2) from by rw [← e4, hx4]; rfl] at i4
          exact g_to [0, 1, 2, 3] (i4) rfl rfl rfl
        · skip
          refine g_aload_n C dX2_warnAround_34 rfl 2 rfl ?_
          refine g_get (v := .ref (ad 24)) (T := TX2) (N := 5) (ci := 2) C in_X2 21 rfl rfl 3 (by decide) wd165 (Or.inl rfl) rfl dX2_warnAround_35 rfl ?_
          refine g_iload_n C dX2_warnAround_38 rfl 0 rfl ?_
          refine g_iconst C dX2_warnAround_39 rfl ?_
          refine g_iast (f := x.1) (ws' := wT E ad (setA S 24 (fset x.1 (k9 : Int) (1)))) C dX2_warnAround_40 rfl 24 rfl (by omega) (by decide) rfl ?_
          refine g_iinc (lv' := [(2, .int (iI (x.2 + 1))), (3, .int (iI (k9 : Int))), (0, .ref (ad 21)), (1, .int (iI q))]) C dX2_warnAround_41 rfl 1 rfl (by decide) rfl ?_
          refine g_iinc (lv' := [(3, .int (iI ((k9 : Int) + 1))), (2, .int (iI (x.2 + 1))), (0, .ref (ad 21)), (1, .int (iI q))]) C dX2_warnAround_44 rfl 1 rfl (by decide) rfl ?_
          refine g_goto C dX2_warnAround_47 4 (by decide) ?_
          have e4 : (warnB (S.1 22) q) k9 x = ((fset x.1 (k9 : Int) (1)), (x.2 + 1)) := by
            unfold warnB
            first | (rw [if_pos (by omega)]) | (rw [if_neg (by omega)])
          have i4 := ih4 (by omega)
          rw [show warnI (S.1 24) (S.1 22) q (k9 + 1) = ((fset x.1 (k9 : Int) (1)), (x.2 + 1)) from by rw [← e4, hx4]; rfl] at i4
          exact g_to [0, 1, 2, 3] (i4) rfl rfl rfl
  refine g_to [0, 1, 2, 3] (L4 0 (by omega)) rfl rfl rfl
abbrev r_X2_enterRefuge : Room := { frames := 1, cells := 0, slots := 0, locals := 22 }
set_option maxHeartbeats 4000000 in
set_option maxRecDepth 100000 in
theorem k_X2_enterRefuge (l : Launch) (E : gE) (ad : Nat → Nat) (S : gS) (k : Int) (hS : okT S) (hk : 0 ≤ k ∧ k < 10) : gK l E yX2_enterRefuge cX2_enterRefuge 4 none r_X2_enterRefuge [.ref (ad 21), .int (iI k), .ref (ad 16)] (wT E ad S) (none) (wT E ad (enterS S k)) := by
  refine gK_by RX2 rfl mX2_enterRefuge [(0, .ref (ad 21)), (1, .int (iI k)), (2, .ref (ad 16))] (Nat.le_of_ble_eq_true rfl) rfl ?_
  intro zp ze zs zm za zb zh zc zA zQ C Z
  refine g_aload_n C dX2_enterRefuge_0 rfl 2 rfl ?_
  refine g_aload_n C dX2_enterRefuge_1 rfl 0 rfl ?_
  refine g_get (v := .ref (ad 22)) (T := TX2) (N := 5) (ci := 2) C in_X2 21 rfl rfl 0 (by decide) wd86 (Or.inr wd87) rfl dX2_enterRefuge_2 rfl ?_
  refine g_iload_n C dX2_enterRefuge_5 rfl 1 rfl ?_
  refine g_iald (f := (S.1 22)) C dX2_enterRefuge_6 rfl 22 rfl (by omega) (by decide) ?_
  have b6 := okT_22 hS k
  refine g_callU0 (As := [.int (iI ((S.1 22) k))]) (rv := some (.int (iI (fstI (S.1 17) ((S.1 22) k) ((S.2 3)).toNat)))) (w1 := wT E ad S) (kc' := 0) (ks' := 0) C "FloodWardens$Numbered" RX6 (k_X4_firstIn_X6 l E ad S ((S.1 22) k) hS (by omega)) mX4_firstIn ⟨wd568, wd792, wd790⟩ rfl (by decide +kernel) wd789 16 5 rfl rfl rfl rfl rfl (Nat.le_of_ble_eq_true rfl) ⟨Nat.le_of_ble_eq_true rfl, Nat.le_of_ble_eq_true rfl⟩ ⟨Nat.le_of_ble_eq_true rfl, Nat.le_of_ble_eq_true rfl⟩ rfl rfl dX2_enterRefuge_7 rfl ?_
  have n7 := fst_b (S.1 17) ((S.1 22) k) ((S.2 3)).toNat
  have m7 := okT_i3 hS
  refine g_istore_n (lv' := [(3, .int (iI (fstI (S.1 17) ((S.1 22) k) ((S.2 3)).toNat))), (0, .ref (ad 21)), (1, .int (iI k)), (2, .ref (ad 16))]) C dX2_enterRefuge_10 rfl (by decide) rfl ?_
  refine g_iload_n C dX2_enterRefuge_11 rfl 0 rfl ?_
  refine g_iconst C dX2_enterRefuge_12 rfl ?_
  refine g_icmp_eq C dX2_enterRefuge_13 48 (by decide) rfl (by omega) (by omega) (fun c13 => ?_) (fun c13 => ?_)
  · skip
    exact z_vret C Z dX2_enterRefuge_48 rfl (by unfold enterS hereS; first | (rw [if_pos (by omega)] <;> rfl) | (rw [if_neg (by omega)]))
  · skip
    refine g_aload_n C dX2_enterRefuge_16 rfl 3 rfl ?_
    refine g_iload_n C dX2_enterRefuge_17 rfl 0 rfl ?_
    refine g_aload_n C dX2_enterRefuge_18 rfl 1 rfl ?_
    refine g_get (v := .ref (ad 23)) (T := TX2) (N := 5) (ci := 2) C in_X2 21 rfl rfl 2 (by decide) wd163 (Or.inl rfl) rfl dX2_enterRefuge_19 rfl ?_
    refine g_iload_n C dX2_enterRefuge_22 rfl 2 rfl ?_
    refine g_iald (f := (S.1 23)) C dX2_enterRefuge_23 rfl 23 rfl (by omega) (by decide) ?_
    have b23 := okT_23 hS k
    refine g_callV0 (As := [.int (iI (fstI (S.1 17) ((S.1 22) k) ((S.2 3)).toNat)), .int (iI ((S.1 23) k))]) (rv := some (.int (iI (bI (((S.1 23) k) ≤ (S.1 18) (fstI (S.1 17) ((S.1 22) k) ((S.2 3)).toNat) - (S.1 19) (fstI (S.1 17) ((S.1 22) k) ((S.2 3)).toNat)))))) (w1 := wT E ad S) (kc' := 0) (ks' := 0) C (k_X6_hasRoomFor l E ad S (fstI (S.1 17) ((S.1 22) k) ((S.2 3)).toNat) ((S.1 23) k) hS (by omega) (by omega)) mX6_hasRoomFor iX6_hasRoomFor wd793 16 5 rfl rfl rfl rfl rfl (Nat.le_of_ble_eq_true rfl) ⟨Nat.le_of_ble_eq_true rfl, Nat.le_of_ble_eq_true rfl⟩ ⟨Nat.le_of_ble_eq_true rfl, Nat.le_of_ble_eq_true rfl⟩ rfl rfl dX2_enterRefuge_24 rfl ?_
    have n24 := bI_w (((S.1 23) k) ≤ (S.1 18) (fstI (S.1 17) ((S.1 22) k) ((S.2 3)).toNat) - (S.1 19) (fstI (S.1 17) ((S.1 22) k) ((S.2 3)).toNat))
    refine g_if_eq C dX2_enterRefuge_27 48 (by decide) rfl (by omega) (fun c27 => ?_) (fun c27 => ?_)
    · skip
      exact z_vret C Z dX2_enterRefuge_48 rfl (by unfold enterS hereS; first | (rw [if_pos (by omega)] <;> rfl) | (rw [if_neg (by omega)]))
    · skip
      refine g_aload_n C dX2_enterRefuge_30 rfl 3 rfl ?_
      refine g_iload_n C dX2_enterRefuge_31 rfl 0 rfl ?_
      refine g_aload_n C dX2_enterRefuge_32 rfl 1 rfl ?_
      refine g_get (v := .ref (ad 23)) (T := TX2) (N := 5) (ci := 2) C in_X2 21 rfl rfl 2 (by decide) wd163 (Or.inl rfl) rfl dX2_enterRefuge_33 rfl ?_
      refine g_iload_n C dX2_enterRefuge_36 rfl 2 rfl ?_
      refine g_iald (f := (S.1 23)) C dX2_enterRefuge_37 rfl 23 rfl (by omega) (by decide) ?_
      have b37 := okT_23 hS k
      refine g_callV0 (As := [.int (iI (fstI (S.1 17) ((S.1 22) k) ((S.2 3)).toNat)), .int (iI ((S.1 23) k))]) (rv := none) (w1 := wT E ad (setA (setA S 19 (fset (S.1 19) (fstI (S.1 17) ((S.1 22) k) ((S.2 3)).toNat) ((S.1 19) (fstI (S.1 17) ((S.1 22) k) ((S.2 3)).toNat) + ((S.1 23) k)))) 20 (fset (S.1 20) (fstI (S.1 17) ((S.1 22) k) ((S.2 3)).toNat) ((S.1 20) (fstI (S.1 17) ((S.1 22) k) ((S.2 3)).toNat) + 1)))) (kc' := 0) (ks' := 0) C (k_X6_takeIn l E ad S (fstI (S.1 17) ((S.1 22) k) ((S.2 3)).toNat) ((S.1 23) k) hS (by omega)) mX6_takeIn iX6_takeIn wd794 16 5 rfl rfl rfl rfl rfl (Nat.le_of_ble_eq_true rfl) ⟨Nat.le_of_ble_eq_true rfl, Nat.le_of_ble_eq_true rfl⟩ ⟨Nat.le_of_ble_eq_true rfl, Nat.le_of_ble_eq_true rfl⟩ rfl rfl dX2_enterRefuge_38 rfl ?_
      refine g_aload_n C dX2_enterRefuge_41 rfl 1 rfl ?_
      refine g_get (v := .ref (ad 24)) (T := TX2) (N := 5) (ci := 2) C in_X2 21 rfl rfl 3 (by decide) wd165 (Or.inl rfl) rfl dX2_enterRefuge_42 rfl ?_
      refine g_iload_n C dX2_enterRefuge_45 rfl 2 rfl ?_
      refine g_iconst C dX2_enterRefuge_46 rfl ?_
      refine g_iast (f := (S.1 24)) (ws' := wT E ad (setA (setA (setA S 19 (fset (S.1 19) (fstI (S.1 17) ((S.1 22) k) ((S.2 3)).toNat) ((S.1 19) (fstI (S.1 17) ((S.1 22) k) ((S.2 3)).toNat) + ((S.1 23) k)))) 20 (fset (S.1 20) (fstI (S.1 17) ((S.1 22) k) ((S.2 3)).toNat) ((S.1 20) (fstI (S.1 17) ((S.1 22) k) ((S.2 3)).toNat) + 1))) 24 (fset (S.1 24) k (2)))) C dX2_enterRefuge_47 rfl 24 rfl (by omega) (by decide) rfl ?_
      exact z_vret C Z dX2_enterRefuge_48 rfl (by unfold enterS hereS; first | (rw [if_pos (by omega)] <;> rfl) | (rw [if_neg (by omega)]))
abbrev r_X2_goToRefuges : Room := { frames := 3, cells := 0, slots := 0, locals := 68 }
set_option maxHeartbeats 4000000 in
set_option maxRecDepth 100000 in
theorem k_X2_goToRefuges (l : Launch) (E : gE) (ad : Nat → Nat) (S : gS) (hS : okT S) : gK l E yX2_goToRefuges cX2_goToRefuges 6 none r_X2_goToRefuges [.ref (ad 21), .ref (ad 16), .ref (ad 28), .ref (ad 1)] (wT E ad S) (none) (wT E ad (fleeS S)) := by
  refine gK_by RX2 rfl mX2_goToRefuges [(0, .ref (ad 21)), (1, .ref (ad 16)), (2, .ref (ad 28)), (3, .ref (ad 1))] (Nat.le_of_ble_eq_true rfl) rfl ?_
  intro zp ze zs zm za zb zh zc zA zQ C Z
  refine g_iconst C dX2_goToRefuges_0 rfl ?_
  refine g_istore (lv' := [(4, .int (iI (0))), (0, .ref (ad 21)), (1, .ref (ad 16)), (2, .ref (ad 28)), (3, .ref (ad 1))]) C dX2_goToRefuges_1 rfl (by decide) rfl ?_
  have L3 : ∀ k9 : Nat, k9 ≤ (S.2 4).toNat → gG E zp l ze r_X2_goToRefuges zs zm za zb zh zc zA 6 0 0 zQ (wT E ad (fleeI S k9)) 3 [(4, .int (iI (k9 : Int))), (0, .ref (ad 21)), (1, .ref (ad 16)), (2, .ref (ad 28)), (3, .ref (ad 1))] [] := by
    refine g_up ((S.2 4).toNat) _ ?_
    intro k9 ih3 hk3
    have iv3_0 := okT_fleeI hS k9
    have iv3_1 := fleeI_n S k9
    obtain ⟨x, hx3⟩ : ∃ z, z = fleeI S k9 := ⟨_, rfl⟩
    rw [← hx3]
    rw [← hx3] at iv3_0
    rw [← hx3] at iv3_1
    have ff := okT_i4 hS
    have fg := okT_i4 iv3_0
    refine g_iload C dX2_goToRefuges_3 rfl 0 rfl ?_
    refine g_aload_n C dX2_goToRefuges_5 rfl 1 rfl ?_
    refine g_get (v := .int (iI (x.2 4))) (T := TX2) (N := 5) (ci := 2) C in_X2 21 rfl rfl 1 (by decide) wd103 (Or.inr wd104) rfl dX2_goToRefuges_6 rfl ?_
    have f6 := okT_i4 iv3_0
    refine g_icmp_ge C dX2_goToRefuges_9 87 (by decide) rfl (by omega) (by omega) (fun c9 => ?_) (fun c9 => ?_)
    · skip
      have hz3 : x = fleeS S := by rw [hx3, show k9 = (S.2 4).toNat from by omega] <;> rfl
      exact z_vret C Z dX2_goToRefuges_87 rfl (by rw [hz3])
    · skip
      refine g_aload_n C dX2_goToRefuges_12 rfl 1 rfl ?_
      refine g_get (v := .ref (ad 24)) (T := TX2) (N := 5) (ci := 2) C in_X2 21 rfl rfl 3 (by decide) wd165 (Or.inl rfl) rfl dX2_goToRefuges_13 rfl ?_
      refine g_iload C dX2_goToRefuges_16 rfl 0 rfl ?_
      refine g_iald (f := (x.1 24)) C dX2_goToRefuges_18 rfl 24 rfl (by omega) (by decide) ?_
      have b18 := okT_24 iv3_0 (k9 : Int)
      refine g_iconst C dX2_goToRefuges_19 rfl ?_
      refine g_icmp_ne C dX2_goToRefuges_20 81 (by decide) rfl (by omega) (by omega) (fun c20 => ?_) (fun c20 => ?_)
      · skip
        refine g_iinc (lv' := [(4, .int (iI ((k9 : Int) + 1))), (0, .ref (ad 21)), (1, .ref (ad 16)), (2, .ref (ad 28)), (3, .ref (ad 1))]) C dX2_goToRefuges_81 rfl 0 rfl (by decide) rfl ?_
        refine g_goto C dX2_goToRefuges_84 3 (by decide) ?_
        have e3 : fleeB k9 x = x := by
          unfold fleeB moveS
          first | (rw [if_pos (by omega), if_pos (by omega)]) | (rw [if_pos (by omega), if_neg (by omega)]) | (rw [if_neg (by omega)])
        have i3 := ih3 (by omega)
        rw [show fleeI S (k9 + 1) = x from by rw [← e3, hx3]; rfl] at i3
        exact g_to [0, 1, 2, 3, 4] (i3) rfl rfl rfl
      · skip
        refine g_aload_n C dX2_goToRefuges_23 rfl 3 rfl ?_
        refine g_aload_n C dX2_goToRefuges_24 rfl 1 rfl ?_
        refine g_get (v := .ref (ad 22)) (T := TX2) (N := 5) (ci := 2) C in_X2 21 rfl rfl 0 (by decide) wd86 (Or.inr wd87) rfl dX2_goToRefuges_25 rfl ?_
        refine g_iload C dX2_goToRefuges_28 rfl 0 rfl ?_
        refine g_iald (f := (x.1 22)) C dX2_goToRefuges_30 rfl 22 rfl (by omega) (by decide) ?_
        have b30 := okT_22 iv3_0 (k9 : Int)
        refine g_aload_n C dX2_goToRefuges_31 rfl 4 rfl ?_
        refine g_callV0 (As := [.int (iI ((x.1 22) (k9 : Int))), .ref (ad 1)]) (rv := none) (w1 := wT E ad (searchS x ((x.1 22) (k9 : Int)))) (kc' := 0) (ks' := 0) C (k_X8_search l E ad x ((x.1 22) (k9 : Int)) iv3_0 (by omega)) mX8_search iX8_search wd783 28 7 rfl rfl rfl rfl rfl (Nat.le_of_ble_eq_true rfl) ⟨Nat.le_of_ble_eq_true rfl, Nat.le_of_ble_eq_true rfl⟩ ⟨Nat.le_of_ble_eq_true rfl, Nat.le_of_ble_eq_true rfl⟩ rfl rfl dX2_goToRefuges_32 rfl ?_
        refine g_aload_n C dX2_goToRefuges_35 rfl 2 rfl ?_
        refine g_aload_n C dX2_goToRefuges_36 rfl 1 rfl ?_
        refine g_get (v := .ref (ad 23)) (T := TX2) (N := 5) (ci := 2) C in_X2 21 rfl rfl 2 (by decide) wd163 (Or.inl rfl) rfl dX2_goToRefuges_37 rfl ?_
        refine g_iload C dX2_goToRefuges_40 rfl 0 rfl ?_
        refine g_iald (f := ((searchS x ((x.1 22) (k9 : Int))).1 23)) C dX2_goToRefuges_42 rfl 23 rfl (by omega) (by decide) ?_
        have b42 := okT_23 (okT_srch (S := x) (c := ((x.1 22) (k9 : Int))) iv3_0 (by omega)) (k9 : Int)
        refine g_aload_n C dX2_goToRefuges_43 rfl 3 rfl ?_
        refine g_callV0 (As := [.int (iI (((searchS x ((x.1 22) (k9 : Int))).1 23) (k9 : Int))), .ref (ad 28)]) (rv := some (.int (iI (roomS (searchS x ((x.1 22) (k9 : Int))) (((searchS x ((x.1 22) (k9 : Int))).1 23) (k9 : Int)))))) (w1 := wT E ad (searchS x ((x.1 22) (k9 : Int)))) (kc' := 0) (ks' := 0) C (k_X6_nearestWithRoom l E ad (searchS x ((x.1 22) (k9 : Int))) (((searchS x ((x.1 22) (k9 : Int))).1 23) (k9 : Int)) (okT_srch (S := x) (c := ((x.1 22) (k9 : Int))) iv3_0 (by omega)) (by omega)) mX6_nearestWithRoom iX6_nearestWithRoom wd784 16 5 rfl rfl rfl rfl rfl (Nat.le_of_ble_eq_true rfl) ⟨Nat.le_of_ble_eq_true rfl, Nat.le_of_ble_eq_true rfl⟩ ⟨Nat.le_of_ble_eq_true rfl, Nat.le_of_ble_eq_true rfl⟩ rfl rfl dX2_goToRefuges_44 rfl ?_
        have n44 := roomS_b (S := (searchS x ((x.1 22) (k9 : Int)))) (m := (((searchS x ((x.1 22) (k9 : Int))).1 23) (k9 : Int))) (okT_srch (S := x) (c := ((x.1 22) (k9 : Int))) iv3_0 (by omega))
        refine g_istore (lv' := [(5, .int (iI (roomS (searchS x ((x.1 22) (k9 : Int))) (((searchS x ((x.1 22) (k9 : Int))).1 23) (k9 : Int))))), (4, .int (iI (k9 : Int))), (0, .ref (ad 21)), (1, .ref (ad 16)), (2, .ref (ad 28)), (3, .ref (ad 1))]) C dX2_goToRefuges_47 rfl (by decide) rfl ?_
        refine g_iload C dX2_goToRefuges_49 rfl 0 rfl ?_
        refine g_iconst C dX2_goToRefuges_51 rfl ?_
        refine g_icmp_eq C dX2_goToRefuges_52 74 (by decide) rfl (by omega) (by omega) (fun c52 => ?_) (fun c52 => ?_)
        · skip
          refine g_aload_n C dX2_goToRefuges_74 rfl 2 rfl ?_
          refine g_iload C dX2_goToRefuges_75 rfl 1 rfl ?_
          refine g_aload_n C dX2_goToRefuges_77 rfl 3 rfl ?_
          refine g_callV0 (As := [.int (iI (k9 : Int)), .ref (ad 16)]) (rv := none) (w1 := wT E ad (enterS (searchS x ((x.1 22) (k9 : Int))) (k9 : Int))) (kc' := 0) (ks' := 0) C (k_X2_enterRefuge l E ad (searchS x ((x.1 22) (k9 : Int))) (k9 : Int) (okT_srch (S := x) (c := ((x.1 22) (k9 : Int))) iv3_0 (by omega)) (by omega)) mX2_enterRefuge iX2_enterRefuge wd785 21 2 rfl rfl rfl rfl rfl (Nat.le_of_ble_eq_true rfl) ⟨Nat.le_of_ble_eq_true rfl, Nat.le_of_ble_eq_true rfl⟩ ⟨Nat.le_of_ble_eq_true rfl, Nat.le_of_ble_eq_true rfl⟩ rfl rfl dX2_goToRefuges_78 rfl ?_
          refine g_iinc (lv' := [(4, .int (iI ((k9 : Int) + 1))), (5, .int (iI (roomS (searchS x ((x.1 22) (k9 : Int))) (((searchS x ((x.1 22) (k9 : Int))).1 23) (k9 : Int))))), (0, .ref (ad 21)), (1, .ref (ad 16)), (2, .ref (ad 28)), (3, .ref (ad 1))]) C dX2_goToRefuges_81 rfl 1 rfl (by decide) rfl ?_
          refine g_goto C dX2_goToRefuges_84 3 (by decide) ?_
          have e3 : fleeB k9 x = (enterS (searchS x ((x.1 22) (k9 : Int))) (k9 : Int)) := by
            unfold fleeB moveS
            first | (rw [if_pos (by omega), if_pos (by omega)]) | (rw [if_pos (by omega), if_neg (by omega)]) | (rw [if_neg (by omega)])
          have i3 := ih3 (by omega)
          rw [show fleeI S (k9 + 1) = (enterS (searchS x ((x.1 22) (k9 : Int))) (k9 : Int)) from by rw [← e3, hx3]; rfl] at i3
          exact g_to [0, 2, 3, 4, 5] (i3) rfl rfl rfl
        · skip
          refine g_aload_n C dX2_goToRefuges_55 rfl 2 rfl ?_
          refine g_get (v := .ref (ad 22)) (T := TX2) (N := 5) (ci := 2) C in_X2 21 rfl rfl 0 (by decide) wd86 (Or.inr wd87) rfl dX2_goToRefuges_56 rfl ?_
          refine g_iload C dX2_goToRefuges_59 rfl 1 rfl ?_
          refine g_aload_n C dX2_goToRefuges_61 rfl 4 rfl ?_
          refine g_get (v := .ref (ad 30)) (T := TX8) (N := 4) (ci := 7) C in_X8 28 rfl rfl 1 (by decide) wd201 (Or.inl rfl) rfl dX2_goToRefuges_62 rfl ?_
          refine g_aload_n C dX2_goToRefuges_65 rfl 3 rfl ?_
          refine g_get (v := .ref (ad 17)) (T := TX6) (N := 5) (ci := 5) C in_X6 16 rfl rfl 0 (by decide) wd95 (Or.inr wd85) rfl dX2_goToRefuges_66 rfl ?_
          refine g_iload C dX2_goToRefuges_69 rfl 0 rfl ?_
          refine g_iald (f := ((searchS x ((x.1 22) (k9 : Int))).1 17)) C dX2_goToRefuges_71 rfl 17 rfl (by omega) (by decide) ?_
          have b71 := okT_17 (okT_srch (S := x) (c := ((x.1 22) (k9 : Int))) iv3_0 (by omega)) (roomS (searchS x ((x.1 22) (k9 : Int))) (((searchS x ((x.1 22) (k9 : Int))).1 23) (k9 : Int)))
          refine g_iald (f := ((searchS x ((x.1 22) (k9 : Int))).1 30)) C dX2_goToRefuges_72 rfl 30 rfl (by omega) (by decide) ?_
          have b72 := okT_30 (okT_srch (S := x) (c := ((x.1 22) (k9 : Int))) iv3_0 (by omega)) (((searchS x ((x.1 22) (k9 : Int))).1 17) (roomS (searchS x ((x.1 22) (k9 : Int))) (((searchS x ((x.1 22) (k9 : Int))).1 23) (k9 : Int))))
          refine g_iast (f := ((searchS x ((x.1 22) (k9 : Int))).1 22)) (ws' := wT E ad (setA (searchS x ((x.1 22) (k9 : Int))) 22 (fset ((searchS x ((x.1 22) (k9 : Int))).1 22) (k9 : Int) (((searchS x ((x.1 22) (k9 : Int))).1 30) (((searchS x ((x.1 22) (k9 : Int))).1 17) (roomS (searchS x ((x.1 22) (k9 : Int))) (((searchS x ((x.1 22) (k9 : Int))).1 23) (k9 : Int)))))))) C dX2_goToRefuges_73 rfl 22 rfl (by omega) (by decide) rfl ?_
          refine g_aload_n C dX2_goToRefuges_74 rfl 2 rfl ?_
          refine g_iload C dX2_goToRefuges_75 rfl 1 rfl ?_
          refine g_aload_n C dX2_goToRefuges_77 rfl 3 rfl ?_
          refine g_callV0 (As := [.int (iI (k9 : Int)), .ref (ad 16)]) (rv := none) (w1 := wT E ad (enterS (setA (searchS x ((x.1 22) (k9 : Int))) 22 (fset ((searchS x ((x.1 22) (k9 : Int))).1 22) (k9 : Int) (((searchS x ((x.1 22) (k9 : Int))).1 30) (((searchS x ((x.1 22) (k9 : Int))).1 17) (roomS (searchS x ((x.1 22) (k9 : Int))) (((searchS x ((x.1 22) (k9 : Int))).1 23) (k9 : Int))))))) (k9 : Int))) (kc' := 0) (ks' := 0) C (k_X2_enterRefuge l E ad (setA (searchS x ((x.1 22) (k9 : Int))) 22 (fset ((searchS x ((x.1 22) (k9 : Int))).1 22) (k9 : Int) (((searchS x ((x.1 22) (k9 : Int))).1 30) (((searchS x ((x.1 22) (k9 : Int))).1 17) (roomS (searchS x ((x.1 22) (k9 : Int))) (((searchS x ((x.1 22) (k9 : Int))).1 23) (k9 : Int))))))) (k9 : Int) (okT_s22 (S := (searchS x ((x.1 22) (k9 : Int)))) (okT_srch (S := x) (c := ((x.1 22) (k9 : Int))) iv3_0 (by omega)) (bnd_fset (f := ((searchS x ((x.1 22) (k9 : Int))).1 22)) (a := (k9 : Int)) (x := (((searchS x ((x.1 22) (k9 : Int))).1 30) (((searchS x ((x.1 22) (k9 : Int))).1 17) (roomS (searchS x ((x.1 22) (k9 : Int))) (((searchS x ((x.1 22) (k9 : Int))).1 23) (k9 : Int)))))) (okT_22 (okT_srch (S := x) (c := ((x.1 22) (k9 : Int))) iv3_0 (by omega))) (by omega))) (by omega)) mX2_enterRefuge iX2_enterRefuge wd785 21 2 rfl rfl rfl rfl rfl (Nat.le_of_ble_eq_true rfl) ⟨Nat.le_of_ble_eq_true rfl, Nat.le_of_ble_eq_true rfl⟩ ⟨Nat.le_of_ble_eq_true rfl, Nat.le_of_ble_eq_true rfl⟩ rfl rfl dX2_goToRefuges_78 rfl ?_
          refine g_iinc (lv' := [(4, .int (iI ((k9 : Int) + 1))), (5, .int (iI (roomS (searchS x ((x.1 22) (k9 : Int))) (((searchS x ((x.1 22) (k9 : Int))).1 23) (k9 : Int))))), (0, .ref (ad 21)), (1, .ref (ad 16)), (2, .ref (ad 28)), (3, .ref (ad 1))]) C dX2_goToRefuges_81 rfl 1 rfl (by decide) rfl ?_
          refine g_goto C dX2_goToRefuges_84 3 (by decide) ?_
          have e3 : fleeB k9 x = (enterS (setA (searchS x ((x.1 22) (k9 : Int))) 22 (fset ((searchS x ((x.1 22) (k9 : Int))).1 22) (k9 : Int) (((searchS x ((x.1 22) (k9 : Int))).1 30) (((searchS x ((x.1 22) (k9 : Int))).1 17) (roomS (searchS x ((x.1 22) (k9 : Int))) (((searchS x ((x.1 22) (k9 : Int))).1 23) (k9 : Int))))))) (k9 : Int)) := by
            unfold fleeB moveS
            first | (rw [if_pos (by omega), if_pos (by omega)]) | (rw [if_pos (by omega), if_neg (by omega)]) | (rw [if_neg (by omega)])
          have i3 := ih3 (by omega)
          rw [show fleeI S (k9 + 1) = (enterS (setA (searchS x ((x.1 22) (k9 : Int))) 22 (fset ((searchS x ((x.1 22) (k9 : Int))).1 22) (k9 : Int) (((searchS x ((x.1 22) (k9 : Int))).1 30) (((searchS x ((x.1 22) (k9 : Int))).1 17) (roomS (searchS x ((x.1 22) (k9 : Int))) (((searchS x ((x.1 22) (k9 : Int))).1 23) (k9 : Int))))))) (k9 : Int)) from by rw [← e3, hx3]; rfl] at i3
          exact g_to [0, 2, 3, 4, 5] (i3) rfl rfl rfl
  refine g_to [0, 1, 2, 3, 4] (L3 0 (by omega)) rfl rfl rfl
abbrev r_X2_drown : Room := { frames := 1, cells := 0, slots := 0, locals := 21 }
set_option maxHeartbeats 4000000 in
set_option maxRecDepth 100000 in
theorem k_X2_drown (l : Launch) (E : gE) (ad : Nat → Nat) (S : gS) (hS : okT S) (hH : okH S) : gK l E yX2_drown cX2_drown 3 none r_X2_drown [.ref (ad 21), .ref (ad 1)] (wT E ad S) (none) (wT E ad (drownS S)) := by
  refine gK_by RX2 rfl mX2_drown [(0, .ref (ad 21)), (1, .ref (ad 1))] (Nat.le_of_ble_eq_true rfl) rfl ?_
  intro zp ze zs zm za zb zh zc zA zQ C Z
  refine g_iconst C dX2_drown_0 rfl ?_
  refine g_istore_n (lv' := [(2, .int (iI (0))), (0, .ref (ad 21)), (1, .ref (ad 1))]) C dX2_drown_1 rfl (by decide) rfl ?_
  have L2 : ∀ k9 : Nat, k9 ≤ (S.2 4).toNat → gG E zp l ze r_X2_drown zs zm za zb zh zc zA 3 0 0 zQ (wT E ad (drownI S k9)) 2 [(2, .int (iI (k9 : Int))), (0, .ref (ad 21)), (1, .ref (ad 1))] [] := by
    refine g_up ((S.2 4).toNat) _ ?_
    intro k9 ih2 hk2
    have iv2_0 := drownI_b hS hH k9 (by have := okT_i4 hS; omega)
    obtain ⟨x, hx2⟩ : ∃ z, z = drownI S k9 := ⟨_, rfl⟩
    rw [← hx2]
    rw [← hx2] at iv2_0
    have ff := okT_i4 hS
    have fg := okT_i4 iv2_0.1
    have fh := iv2_0.2.1 (k9 : Int) (by omega)
    refine g_iload_n C dX2_drown_2 rfl 0 rfl ?_
    refine g_aload_n C dX2_drown_3 rfl 1 rfl ?_
    refine g_get (v := .int (iI (x.2 4))) (T := TX2) (N := 5) (ci := 2) C in_X2 21 rfl rfl 1 (by decide) wd103 (Or.inr wd104) rfl dX2_drown_4 rfl ?_
    have f4 := okT_i4 iv2_0.1
    refine g_icmp_ge C dX2_drown_7 75 (by decide) rfl (by omega) (by omega) (fun c7 => ?_) (fun c7 => ?_)
    · skip
      have hz2 : x = drownS S := by rw [hx2, show k9 = (S.2 4).toNat from by omega] <;> rfl
      exact z_vret C Z dX2_drown_75 rfl (by rw [hz2])
    · skip
      refine g_aload_n C dX2_drown_10 rfl 1 rfl ?_
      refine g_iload_n C dX2_drown_11 rfl 0 rfl ?_
      refine g_callV0 (As := [.int (iI (k9 : Int))]) (rv := some (.int (iI (bI ((x.1 24) (k9 : Int) = 0 ∨ (x.1 24) (k9 : Int) = 1))))) (w1 := wT E ad x) (kc' := 0) (ks' := 0) C (k_X2_isOut l E ad x (k9 : Int) iv2_0.1 (by omega)) mX2_isOut iX2_isOut wd302 21 2 rfl rfl rfl rfl rfl (Nat.le_of_ble_eq_true rfl) ⟨Nat.le_of_ble_eq_true rfl, Nat.le_of_ble_eq_true rfl⟩ ⟨Nat.le_of_ble_eq_true rfl, Nat.le_of_ble_eq_true rfl⟩ rfl rfl dX2_drown_12 rfl ?_
      have n12 := bI_w ((x.1 24) (k9 : Int) = 0 ∨ (x.1 24) (k9 : Int) = 1)
      refine g_if_eq C dX2_drown_15 69 (by decide) rfl (by omega) (fun c15 => ?_) (fun c15 => ?_)
      · skip
        refine g_iinc (lv' := [(2, .int (iI ((k9 : Int) + 1))), (0, .ref (ad 21)), (1, .ref (ad 1))]) C dX2_drown_69 rfl 0 rfl (by decide) rfl ?_
        refine g_goto C dX2_drown_72 2 (by decide) ?_
        have e2 : drownB k9 x = x := by
          unfold drownB
          first | (rw [if_neg (by omega)]) | (rw [if_pos (by omega)]; first | (rw [if_pos (by omega)]) | (rw [if_neg (by omega)]))
        have i2 := ih2 (by omega)
        rw [show drownI S (k9 + 1) = x from by rw [← e2, hx2]; rfl] at i2
        exact g_to [0, 1, 2] (i2) rfl rfl rfl
      · skip
        refine g_aload_n C dX2_drown_18 rfl 2 rfl ?_
        refine g_get (v := .ref (ad 4)) (T := TX3) (N := 5) (ci := 3) C in_X3 1 rfl rfl 2 (by decide) wd51 (Or.inl rfl) rfl dX2_drown_19 rfl ?_
        refine g_aload_n C dX2_drown_22 rfl 1 rfl ?_
        refine g_get (v := .ref (ad 22)) (T := TX2) (N := 5) (ci := 2) C in_X2 21 rfl rfl 0 (by decide) wd86 (Or.inr wd87) rfl dX2_drown_23 rfl ?_
        refine g_iload_n C dX2_drown_26 rfl 0 rfl ?_
        refine g_iald (f := (x.1 22)) C dX2_drown_27 rfl 22 rfl (by omega) (by decide) ?_
        have b27 := okT_22 iv2_0.1 (k9 : Int)
        refine g_iald (f := (x.1 4)) C dX2_drown_28 rfl 4 rfl (by omega) (by decide) ?_
        have b28 := okT_4 iv2_0.1 ((x.1 22) (k9 : Int))
        refine g_iconst C dX2_drown_29 rfl ?_
        refine g_icmp_lt C dX2_drown_30 69 (by decide) rfl (by omega) (by omega) (fun c30 => ?_) (fun c30 => ?_)
        · skip
          refine g_iinc (lv' := [(2, .int (iI ((k9 : Int) + 1))), (0, .ref (ad 21)), (1, .ref (ad 1))]) C dX2_drown_69 rfl 0 rfl (by decide) rfl ?_
          refine g_goto C dX2_drown_72 2 (by decide) ?_
          have e2 : drownB k9 x = x := by
            unfold drownB
            first | (rw [if_neg (by omega)]) | (rw [if_pos (by omega)]; first | (rw [if_pos (by omega)]) | (rw [if_neg (by omega)]))
          have i2 := ih2 (by omega)
          rw [show drownI S (k9 + 1) = x from by rw [← e2, hx2]; rfl] at i2
          exact g_to [0, 1, 2] (i2) rfl rfl rfl
        · skip
          refine g_aload_n C dX2_drown_33 rfl 1 rfl ?_
          refine g_get (v := .ref (ad 23)) (T := TX2) (N := 5) (ci := 2) C in_X2 21 rfl rfl 2 (by decide) wd163 (Or.inl rfl) rfl dX2_drown_34 rfl ?_
          refine g_iload_n C dX2_drown_37 rfl 0 rfl ?_
          refine g_dup2 C dX2_drown_38 rfl rfl rfl ?_
          refine g_iald (f := (x.1 23)) C dX2_drown_39 rfl 23 rfl (by omega) (by decide) ?_
          have b39 := okT_23 iv2_0.1 (k9 : Int)
          refine g_iconst C dX2_drown_40 rfl ?_
          refine g_isub C dX2_drown_41 rfl ?_
          refine g_iast (f := (x.1 23)) (ws' := wT E ad (setA x 23 (fset (x.1 23) (k9 : Int) (((x.1 23) (k9 : Int)) - (1))))) C dX2_drown_42 rfl 23 rfl (by omega) (by decide) rfl ?_
          refine g_aload_n C dX2_drown_43 rfl 1 rfl ?_
          refine g_dup C dX2_drown_44 rfl rfl ?_
          refine g_get (v := .int (iI (x.2 5))) (T := TX2) (N := 5) (ci := 2) C in_X2 21 rfl rfl 4 (by decide) wd167 (Or.inl rfl) rfl dX2_drown_45 rfl ?_
          refine g_iconst C dX2_drown_48 rfl ?_
          refine g_iadd C dX2_drown_49 rfl ?_
          refine g_put (T := TX2) (N := 5) (ci := 2) (ws' := wT E ad (setI (setA x 23 (fset (x.1 23) (k9 : Int) (((x.1 23) (k9 : Int)) - (1)))) 5 ((x.2 5) + (1)))) C in_X2 tyX2 tyX2_ok nmX2 21 rfl rfl 4 (by decide) wd167 (Or.inl rfl) rfl (ty := .int) (by decide +kernel) rfl rfl (Nat.le_of_ble_eq_true rfl) rfl dX2_drown_50 rfl ?_
          refine g_aload_n C dX2_drown_53 rfl 1 rfl ?_
          refine g_get (v := .ref (ad 23)) (T := TX2) (N := 5) (ci := 2) C in_X2 21 rfl rfl 2 (by decide) wd163 (Or.inl rfl) rfl dX2_drown_54 rfl ?_
          refine g_iload_n C dX2_drown_57 rfl 0 rfl ?_
          refine g_iald (f := (fset (x.1 23) (k9 : Int) (((x.1 23) (k9 : Int)) - (1)))) C dX2_drown_58 rfl 23 rfl (by omega) (by decide) ?_
          try have b58 := bnd_fset (f := (x.1 23)) (a := (k9 : Int)) (x := (((x.1 23) (k9 : Int)) - (1))) (okT_23 iv2_0.1) (by omega) (k9 : Int)
          have q59 := fset_same (x.1 23) (k9 : Int) ((x.1 23 (k9 : Int)) - (1))
          refine g_if_gt C dX2_drown_59 69 (by decide) rfl (by omega) (fun c59 => ?_) (fun c59 => ?_)
          · skip
            refine g_iinc (lv' := [(2, .int (iI ((k9 : Int) + 1))), (0, .ref (ad 21)), (1, .ref (ad 1))]) C dX2_drown_69 rfl 0 rfl (by decide) rfl ?_
            refine g_goto C dX2_drown_72 2 (by decide) ?_
            have e2 : drownB k9 x = (setI (setA x 23 (fset (x.1 23) (k9 : Int) (((x.1 23) (k9 : Int)) - (1)))) 5 ((x.2 5) + (1))) := by
              unfold drownB
              first | (rw [if_neg (by omega)]) | (rw [if_pos (by omega)]; first | (rw [if_pos (by omega)]) | (rw [if_neg (by omega)]))
            have i2 := ih2 (by omega)
            rw [show drownI S (k9 + 1) = (setI (setA x 23 (fset (x.1 23) (k9 : Int) (((x.1 23) (k9 : Int)) - (1)))) 5 ((x.2 5) + (1))) from by rw [← e2, hx2]; rfl] at i2
            exact g_to [0, 1, 2] (i2) rfl rfl rfl
          · skip
            refine g_aload_n C dX2_drown_62 rfl 1 rfl ?_
            refine g_get (v := .ref (ad 24)) (T := TX2) (N := 5) (ci := 2) C in_X2 21 rfl rfl 3 (by decide) wd165 (Or.inl rfl) rfl dX2_drown_63 rfl ?_
            refine g_iload_n C dX2_drown_66 rfl 0 rfl ?_
            refine g_iconst C dX2_drown_67 rfl ?_
            refine g_iast (f := (x.1 24)) (ws' := wT E ad (setI (setA (setA x 23 (fset (x.1 23) (k9 : Int) (((x.1 23) (k9 : Int)) - (1)))) 24 (fset (x.1 24) (k9 : Int) (3))) 5 ((x.2 5) + (1)))) C dX2_drown_68 rfl 24 rfl (by omega) (by decide) rfl ?_
            refine g_iinc (lv' := [(2, .int (iI ((k9 : Int) + 1))), (0, .ref (ad 21)), (1, .ref (ad 1))]) C dX2_drown_69 rfl 0 rfl (by decide) rfl ?_
            refine g_goto C dX2_drown_72 2 (by decide) ?_
            have e2 : drownB k9 x = (setI (setA (setA x 23 (fset (x.1 23) (k9 : Int) (((x.1 23) (k9 : Int)) - (1)))) 24 (fset (x.1 24) (k9 : Int) (3))) 5 ((x.2 5) + (1))) := by
              unfold drownB
              first | (rw [if_neg (by omega)]) | (rw [if_pos (by omega)]; first | (rw [if_pos (by omega)]) | (rw [if_neg (by omega)]))
            have i2 := ih2 (by omega)
            rw [show drownI S (k9 + 1) = (setI (setA (setA x 23 (fset (x.1 23) (k9 : Int) (((x.1 23) (k9 : Int)) - (1)))) 24 (fset (x.1 24) (k9 : Int) (3))) 5 ((x.2 5) + (1))) from by rw [← e2, hx2]; rfl] at i2
            exact g_to [0, 1, 2] (i2) rfl rfl rfl
  refine g_to [0, 1, 2] (L2 0 (by omega)) rfl rfl rfl
abbrev r_X2_moveIn : Room := { frames := 0, cells := 0, slots := 0, locals := 0 }
set_option maxHeartbeats 4000000 in
set_option maxRecDepth 100000 in
theorem k_X2_moveIn (l : Launch) (E : gE) (ad : Nat → Nat) (S : gS) (q pp : Int) (hS : okT S) (hn : S.2 4 < 10) : gK l E yX2_moveIn cX2_moveIn 4 (some .int) r_X2_moveIn [.ref (ad 21), .int (iI q), .int (iI pp)] (wT E ad S) (some (.int (iI (S.2 4)))) (wT E ad (inS S q pp)) := by
  refine gK_by RX2 rfl mX2_moveIn [(0, .ref (ad 21)), (1, .int (iI q)), (2, .int (iI pp))] (Nat.le_of_ble_eq_true rfl) rfl ?_
  intro zp ze zs zm za zb zh zc zA zQ C Z
  refine g_aload_n C dX2_moveIn_0 rfl 0 rfl ?_
  refine g_get (v := .int (iI (S.2 4))) (T := TX2) (N := 5) (ci := 2) C in_X2 21 rfl rfl 1 (by decide) wd103 (Or.inr wd104) rfl dX2_moveIn_1 rfl ?_
  have f1 := okT_i4 hS
  refine g_istore_n (lv' := [(3, .int (iI (S.2 4))), (0, .ref (ad 21)), (1, .int (iI q)), (2, .int (iI pp))]) C dX2_moveIn_4 rfl (by decide) rfl ?_
  refine g_aload_n C dX2_moveIn_5 rfl 1 rfl ?_
  refine g_get (v := .ref (ad 22)) (T := TX2) (N := 5) (ci := 2) C in_X2 21 rfl rfl 0 (by decide) wd86 (Or.inr wd87) rfl dX2_moveIn_6 rfl ?_
  refine g_iload_n C dX2_moveIn_9 rfl 0 rfl ?_
  refine g_iload_n C dX2_moveIn_10 rfl 2 rfl ?_
  refine g_iast (f := (S.1 22)) (ws' := wT E ad (setA S 22 (fset (S.1 22) (S.2 4) q))) C dX2_moveIn_11 rfl 22 rfl (by omega) (by decide) rfl ?_
  refine g_aload_n C dX2_moveIn_12 rfl 1 rfl ?_
  refine g_get (v := .ref (ad 23)) (T := TX2) (N := 5) (ci := 2) C in_X2 21 rfl rfl 2 (by decide) wd163 (Or.inl rfl) rfl dX2_moveIn_13 rfl ?_
  refine g_iload_n C dX2_moveIn_16 rfl 0 rfl ?_
  refine g_iload_n C dX2_moveIn_17 rfl 3 rfl ?_
  refine g_iast (f := (S.1 23)) (ws' := wT E ad (setA (setA S 22 (fset (S.1 22) (S.2 4) q)) 23 (fset (S.1 23) (S.2 4) pp))) C dX2_moveIn_18 rfl 23 rfl (by omega) (by decide) rfl ?_
  refine g_aload_n C dX2_moveIn_19 rfl 1 rfl ?_
  refine g_get (v := .ref (ad 24)) (T := TX2) (N := 5) (ci := 2) C in_X2 21 rfl rfl 3 (by decide) wd165 (Or.inl rfl) rfl dX2_moveIn_20 rfl ?_
  refine g_iload_n C dX2_moveIn_23 rfl 0 rfl ?_
  refine g_iconst C dX2_moveIn_24 rfl ?_
  refine g_iast (f := (S.1 24)) (ws' := wT E ad (setA (setA (setA S 22 (fset (S.1 22) (S.2 4) q)) 23 (fset (S.1 23) (S.2 4) pp)) 24 (fset (S.1 24) (S.2 4) (0)))) C dX2_moveIn_25 rfl 24 rfl (by omega) (by decide) rfl ?_
  refine g_aload_n C dX2_moveIn_26 rfl 1 rfl ?_
  refine g_dup C dX2_moveIn_27 rfl rfl ?_
  refine g_get (v := .int (iI (S.2 4))) (T := TX2) (N := 5) (ci := 2) C in_X2 21 rfl rfl 1 (by decide) wd103 (Or.inr wd104) rfl dX2_moveIn_28 rfl ?_
  have f28 := okT_i4 hS
  refine g_iconst C dX2_moveIn_31 rfl ?_
  refine g_iadd C dX2_moveIn_32 rfl ?_
  refine g_put (T := TX2) (N := 5) (ci := 2) (ws' := wT E ad (setI (setA (setA (setA S 22 (fset (S.1 22) (S.2 4) q)) 23 (fset (S.1 23) (S.2 4) pp)) 24 (fset (S.1 24) (S.2 4) (0))) 4 ((S.2 4) + (1)))) C in_X2 tyX2 tyX2_ok nmX2 21 rfl rfl 1 (by decide) wd103 (Or.inr wd104) rfl (ty := .int) (by decide +kernel) rfl rfl (Nat.le_of_ble_eq_true rfl) rfl dX2_moveIn_33 rfl ?_
  refine g_iload_n C dX2_moveIn_36 rfl 0 rfl ?_
  exact z_iret C Z rfl dX2_moveIn_37 rfl rfl
abbrev r_X0_callOut : Room := { frames := 3, cells := 0, slots := 0, locals := 68 }
set_option maxHeartbeats 4000000 in
set_option maxRecDepth 100000 in
theorem k_X0_callOut (l : Launch) (E : gE) (ad : Nat → Nat) (S : gS) (hS : okT S) : gK l E yX0_callOut cX0_callOut 6 none r_X0_callOut [.ref (ad 25), .ref (ad 21), .ref (ad 28), .ref (ad 1)] (wT E ad S) (none) (wT E ad (clS S)) := by
  refine gK_by RX0 rfl mX0_callOut [(0, .ref (ad 25)), (1, .ref (ad 21)), (2, .ref (ad 28)), (3, .ref (ad 1))] (Nat.le_of_ble_eq_true rfl) rfl ?_
  intro zp ze zs zm za zb zh zc zA zQ C Z
  refine g_iconst C dX0_callOut_0 rfl ?_
  refine g_istore (lv' := [(4, .int (iI (0))), (0, .ref (ad 25)), (1, .ref (ad 21)), (2, .ref (ad 28)), (3, .ref (ad 1))]) C dX0_callOut_1 rfl (by decide) rfl ?_
  have L3 : ∀ k9 : Nat, k9 ≤ (S.2 6).toNat → gG E zp l ze r_X0_callOut zs zm za zb zh zc zA 6 0 0 zQ (wT E ad (clI S k9)) 3 [(4, .int (iI (k9 : Int))), (0, .ref (ad 25)), (1, .ref (ad 21)), (2, .ref (ad 28)), (3, .ref (ad 1))] [] := by
    refine g_up ((S.2 6).toNat) _ ?_
    intro k9 ih3 hk3
    have iv3_0 := okT_clI hS k9
    have iv3_1 := clI_n S k9
    obtain ⟨x, hx3⟩ : ∃ z, z = clI S k9 := ⟨_, rfl⟩
    rw [← hx3]
    rw [← hx3] at iv3_0
    rw [← hx3] at iv3_1
    have ff := okT_i6 hS
    refine g_iload C dX0_callOut_3 rfl 0 rfl ?_
    refine g_aload_n C dX0_callOut_5 rfl 1 rfl ?_
    refine g_get (v := .int (iI (x.2 6))) (T := TX0) (N := 3) (ci := 0) C in_X0 25 rfl rfl 1 (by decide) wd105 (Or.inr wd106) rfl dX0_callOut_6 rfl ?_
    have f6 := okT_i6 iv3_0
    refine g_icmp_ge C dX0_callOut_9 83 (by decide) rfl (by omega) (by omega) (fun c9 => ?_) (fun c9 => ?_)
    · skip
      have hz3 : x = clS S := by rw [hx3, show k9 = (S.2 6).toNat from by omega] <;> rfl
      exact z_vret C Z dX0_callOut_83 rfl (by rw [hz3])
    · skip
      refine g_aload_n C dX0_callOut_12 rfl 3 rfl ?_
      refine g_aload_n C dX0_callOut_13 rfl 1 rfl ?_
      refine g_get (v := .ref (ad 26)) (T := TX0) (N := 3) (ci := 0) C in_X0 25 rfl rfl 0 (by decide) wd88 (Or.inr wd89) rfl dX0_callOut_14 rfl ?_
      refine g_iload C dX0_callOut_17 rfl 0 rfl ?_
      refine g_iald (f := (x.1 26)) C dX0_callOut_19 rfl 26 rfl (by omega) (by decide) ?_
      have b19 := okT_26 iv3_0 (k9 : Int)
      refine g_aload_n C dX0_callOut_20 rfl 4 rfl ?_
      refine g_callV0 (As := [.int (iI ((x.1 26) (k9 : Int))), .ref (ad 1)]) (rv := none) (w1 := wT E ad (searchS x ((x.1 26) (k9 : Int)))) (kc' := 0) (ks' := 0) C (k_X8_search l E ad x ((x.1 26) (k9 : Int)) iv3_0 (by omega)) mX8_search iX8_search wd766 28 7 rfl rfl rfl rfl rfl (Nat.le_of_ble_eq_true rfl) ⟨Nat.le_of_ble_eq_true rfl, Nat.le_of_ble_eq_true rfl⟩ ⟨Nat.le_of_ble_eq_true rfl, Nat.le_of_ble_eq_true rfl⟩ rfl rfl dX0_callOut_21 rfl ?_
      refine g_aload_n C dX0_callOut_24 rfl 2 rfl ?_
      refine g_aload_n C dX0_callOut_25 rfl 3 rfl ?_
      refine g_callV0 (As := [.ref (ad 28)]) (rv := some (.int (iI (homeS (searchS x ((x.1 26) (k9 : Int))))))) (w1 := wT E ad (searchS x ((x.1 26) (k9 : Int)))) (kc' := 0) (ks' := 0) C (k_X2_nearestAtHome l E ad (searchS x ((x.1 26) (k9 : Int))) (okT_srch (S := x) (c := ((x.1 26) (k9 : Int))) iv3_0 (by omega))) mX2_nearestAtHome iX2_nearestAtHome wd767 21 2 rfl rfl rfl rfl rfl (Nat.le_of_ble_eq_true rfl) ⟨Nat.le_of_ble_eq_true rfl, Nat.le_of_ble_eq_true rfl⟩ ⟨Nat.le_of_ble_eq_true rfl, Nat.le_of_ble_eq_true rfl⟩ rfl rfl dX0_callOut_26 rfl ?_
      have n26 := homeS_b (S := (searchS x ((x.1 26) (k9 : Int)))) (okT_srch (S := x) (c := ((x.1 26) (k9 : Int))) iv3_0 (by omega))
      refine g_istore (lv' := [(5, .int (iI (homeS (searchS x ((x.1 26) (k9 : Int)))))), (4, .int (iI (k9 : Int))), (0, .ref (ad 25)), (1, .ref (ad 21)), (2, .ref (ad 28)), (3, .ref (ad 1))]) C dX0_callOut_29 rfl (by decide) rfl ?_
      refine g_iload C dX0_callOut_31 rfl 0 rfl ?_
      refine g_iconst C dX0_callOut_33 rfl ?_
      refine g_icmp_eq C dX0_callOut_34 56 (by decide) rfl (by omega) (by omega) (fun c34 => ?_) (fun c34 => ?_)
      · skip
        refine g_aload_n C dX0_callOut_56 rfl 2 rfl ?_
        refine g_get (v := .ref (ad 27)) (T := TX0) (N := 3) (ci := 0) C in_X0 25 rfl rfl 2 (by decide) wd185 (Or.inl rfl) rfl dX0_callOut_57 rfl ?_
        refine g_iload C dX0_callOut_60 rfl 1 rfl ?_
        refine g_dup2 C dX0_callOut_62 rfl rfl rfl ?_
        refine g_iald (f := ((searchS x ((x.1 26) (k9 : Int))).1 27)) C dX0_callOut_63 rfl 27 rfl (by omega) (by decide) ?_
        refine g_aload_n C dX0_callOut_64 rfl 3 rfl ?_
        refine g_aload_n C dX0_callOut_65 rfl 2 rfl ?_
        refine g_get (v := .ref (ad 26)) (T := TX0) (N := 3) (ci := 0) C in_X0 25 rfl rfl 0 (by decide) wd88 (Or.inr wd89) rfl dX0_callOut_66 rfl ?_
        refine g_iload C dX0_callOut_69 rfl 1 rfl ?_
        refine g_iald (f := ((searchS x ((x.1 26) (k9 : Int))).1 26)) C dX0_callOut_71 rfl 26 rfl (by omega) (by decide) ?_
        have b71 := okT_26 (okT_srch (S := x) (c := ((x.1 26) (k9 : Int))) iv3_0 (by omega)) (k9 : Int)
        refine g_callV0 (As := [.int (iI (((searchS x ((x.1 26) (k9 : Int))).1 26) (k9 : Int)))]) (rv := some (.int (iI (warnS (searchS x ((x.1 26) (k9 : Int))) (((searchS x ((x.1 26) (k9 : Int))).1 26) (k9 : Int))).2))) (w1 := wT E ad (setA (searchS x ((x.1 26) (k9 : Int))) 24 ((warnS (searchS x ((x.1 26) (k9 : Int))) (((searchS x ((x.1 26) (k9 : Int))).1 26) (k9 : Int))).1))) (kc' := 0) (ks' := 0) C (k_X2_warnAround l E ad (searchS x ((x.1 26) (k9 : Int))) (((searchS x ((x.1 26) (k9 : Int))).1 26) (k9 : Int)) (okT_srch (S := x) (c := ((x.1 26) (k9 : Int))) iv3_0 (by omega)) (by omega)) mX2_warnAround iX2_warnAround wd772 21 2 rfl rfl rfl rfl rfl (Nat.le_of_ble_eq_true rfl) ⟨Nat.le_of_ble_eq_true rfl, Nat.le_of_ble_eq_true rfl⟩ ⟨Nat.le_of_ble_eq_true rfl, Nat.le_of_ble_eq_true rfl⟩ rfl rfl dX0_callOut_72 rfl ?_
        refine g_iadd C dX0_callOut_75 rfl ?_
        refine g_iast (f := ((searchS x ((x.1 26) (k9 : Int))).1 27)) (ws' := wT E ad (setA (setA (searchS x ((x.1 26) (k9 : Int))) 24 ((warnS (searchS x ((x.1 26) (k9 : Int))) (((searchS x ((x.1 26) (k9 : Int))).1 26) (k9 : Int))).1)) 27 (fset ((searchS x ((x.1 26) (k9 : Int))).1 27) (k9 : Int) ((((searchS x ((x.1 26) (k9 : Int))).1 27) (k9 : Int)) + (warnS (searchS x ((x.1 26) (k9 : Int))) (((searchS x ((x.1 26) (k9 : Int))).1 26) (k9 : Int))).2)))) C dX0_callOut_76 rfl 27 rfl (by omega) (by decide) rfl ?_
        refine g_iinc (lv' := [(4, .int (iI ((k9 : Int) + 1))), (5, .int (iI (homeS (searchS x ((x.1 26) (k9 : Int)))))), (0, .ref (ad 25)), (1, .ref (ad 21)), (2, .ref (ad 28)), (3, .ref (ad 1))]) C dX0_callOut_77 rfl 1 rfl (by decide) rfl ?_
        refine g_goto C dX0_callOut_80 3 (by decide) ?_
        have e3 : clB k9 x = (setA (setA (searchS x ((x.1 26) (k9 : Int))) 24 ((warnS (searchS x ((x.1 26) (k9 : Int))) (((searchS x ((x.1 26) (k9 : Int))).1 26) (k9 : Int))).1)) 27 (fset ((searchS x ((x.1 26) (k9 : Int))).1 27) (k9 : Int) ((((searchS x ((x.1 26) (k9 : Int))).1 27) (k9 : Int)) + (warnS (searchS x ((x.1 26) (k9 : Int))) (((searchS x ((x.1 26) (k9 : Int))).1 26) (k9 : Int))).2))) := by
          unfold clB stepC hailS
          first | (rw [if_pos (by omega), setA_c (a := 26) (b := 24) (by decide)] <;> rfl) | (rw [if_neg (by omega)] <;> rfl)
        have i3 := ih3 (by omega)
        rw [show clI S (k9 + 1) = (setA (setA (searchS x ((x.1 26) (k9 : Int))) 24 ((warnS (searchS x ((x.1 26) (k9 : Int))) (((searchS x ((x.1 26) (k9 : Int))).1 26) (k9 : Int))).1)) 27 (fset ((searchS x ((x.1 26) (k9 : Int))).1 27) (k9 : Int) ((((searchS x ((x.1 26) (k9 : Int))).1 27) (k9 : Int)) + (warnS (searchS x ((x.1 26) (k9 : Int))) (((searchS x ((x.1 26) (k9 : Int))).1 26) (k9 : Int))).2))) from by rw [← e3, hx3]; rfl] at i3
        exact g_to [0, 2, 3, 4, 5] (i3) rfl rfl rfl
      · skip
        refine g_aload_n C dX0_callOut_37 rfl 2 rfl ?_
        refine g_get (v := .ref (ad 26)) (T := TX0) (N := 3) (ci := 0) C in_X0 25 rfl rfl 0 (by decide) wd88 (Or.inr wd89) rfl dX0_callOut_38 rfl ?_
        refine g_iload C dX0_callOut_41 rfl 1 rfl ?_
        refine g_aload_n C dX0_callOut_43 rfl 4 rfl ?_
        refine g_get (v := .ref (ad 30)) (T := TX8) (N := 4) (ci := 7) C in_X8 28 rfl rfl 1 (by decide) wd200 (Or.inl rfl) rfl dX0_callOut_44 rfl ?_
        refine g_aload_n C dX0_callOut_47 rfl 3 rfl ?_
        refine g_get (v := .ref (ad 22)) (T := TX2) (N := 5) (ci := 2) C in_X2 21 rfl rfl 0 (by decide) wd92 (Or.inr wd87) rfl dX0_callOut_48 rfl ?_
        refine g_iload C dX0_callOut_51 rfl 0 rfl ?_
        refine g_iald (f := ((searchS x ((x.1 26) (k9 : Int))).1 22)) C dX0_callOut_53 rfl 22 rfl (by omega) (by decide) ?_
        have b53 := okT_22 (okT_srch (S := x) (c := ((x.1 26) (k9 : Int))) iv3_0 (by omega)) (homeS (searchS x ((x.1 26) (k9 : Int))))
        refine g_iald (f := ((searchS x ((x.1 26) (k9 : Int))).1 30)) C dX0_callOut_54 rfl 30 rfl (by omega) (by decide) ?_
        have b54 := okT_30 (okT_srch (S := x) (c := ((x.1 26) (k9 : Int))) iv3_0 (by omega)) (((searchS x ((x.1 26) (k9 : Int))).1 22) (homeS (searchS x ((x.1 26) (k9 : Int)))))
        refine g_iast (f := ((searchS x ((x.1 26) (k9 : Int))).1 26)) (ws' := wT E ad (setA (searchS x ((x.1 26) (k9 : Int))) 26 (fset ((searchS x ((x.1 26) (k9 : Int))).1 26) (k9 : Int) (((searchS x ((x.1 26) (k9 : Int))).1 30) (((searchS x ((x.1 26) (k9 : Int))).1 22) (homeS (searchS x ((x.1 26) (k9 : Int))))))))) C dX0_callOut_55 rfl 26 rfl (by omega) (by decide) rfl ?_
        refine g_aload_n C dX0_callOut_56 rfl 2 rfl ?_
        refine g_get (v := .ref (ad 27)) (T := TX0) (N := 3) (ci := 0) C in_X0 25 rfl rfl 2 (by decide) wd185 (Or.inl rfl) rfl dX0_callOut_57 rfl ?_
        refine g_iload C dX0_callOut_60 rfl 1 rfl ?_
        refine g_dup2 C dX0_callOut_62 rfl rfl rfl ?_
        refine g_iald (f := ((searchS x ((x.1 26) (k9 : Int))).1 27)) C dX0_callOut_63 rfl 27 rfl (by omega) (by decide) ?_
        refine g_aload_n C dX0_callOut_64 rfl 3 rfl ?_
        refine g_aload_n C dX0_callOut_65 rfl 2 rfl ?_
        refine g_get (v := .ref (ad 26)) (T := TX0) (N := 3) (ci := 0) C in_X0 25 rfl rfl 0 (by decide) wd88 (Or.inr wd89) rfl dX0_callOut_66 rfl ?_
        refine g_iload C dX0_callOut_69 rfl 1 rfl ?_
        refine g_iald (f := (fset ((searchS x ((x.1 26) (k9 : Int))).1 26) (k9 : Int) (((searchS x ((x.1 26) (k9 : Int))).1 30) (((searchS x ((x.1 26) (k9 : Int))).1 22) (homeS (searchS x ((x.1 26) (k9 : Int)))))))) C dX0_callOut_71 rfl 26 rfl (by omega) (by decide) ?_
        try have b71 := bnd_fset (f := ((searchS x ((x.1 26) (k9 : Int))).1 26)) (a := (k9 : Int)) (x := (((searchS x ((x.1 26) (k9 : Int))).1 30) (((searchS x ((x.1 26) (k9 : Int))).1 22) (homeS (searchS x ((x.1 26) (k9 : Int))))))) (okT_26 (okT_srch (S := x) (c := ((x.1 26) (k9 : Int))) iv3_0 (by omega))) (by omega) (k9 : Int)
        refine g_callV0 (As := [.int (iI ((fset ((searchS x ((x.1 26) (k9 : Int))).1 26) (k9 : Int) (((searchS x ((x.1 26) (k9 : Int))).1 30) (((searchS x ((x.1 26) (k9 : Int))).1 22) (homeS (searchS x ((x.1 26) (k9 : Int))))))) (k9 : Int)))]) (rv := some (.int (iI (warnS (setA (searchS x ((x.1 26) (k9 : Int))) 26 (fset ((searchS x ((x.1 26) (k9 : Int))).1 26) (k9 : Int) (((searchS x ((x.1 26) (k9 : Int))).1 30) (((searchS x ((x.1 26) (k9 : Int))).1 22) (homeS (searchS x ((x.1 26) (k9 : Int)))))))) ((fset ((searchS x ((x.1 26) (k9 : Int))).1 26) (k9 : Int) (((searchS x ((x.1 26) (k9 : Int))).1 30) (((searchS x ((x.1 26) (k9 : Int))).1 22) (homeS (searchS x ((x.1 26) (k9 : Int))))))) (k9 : Int))).2))) (w1 := wT E ad (setA (setA (searchS x ((x.1 26) (k9 : Int))) 24 ((warnS (setA (searchS x ((x.1 26) (k9 : Int))) 26 (fset ((searchS x ((x.1 26) (k9 : Int))).1 26) (k9 : Int) (((searchS x ((x.1 26) (k9 : Int))).1 30) (((searchS x ((x.1 26) (k9 : Int))).1 22) (homeS (searchS x ((x.1 26) (k9 : Int)))))))) ((fset ((searchS x ((x.1 26) (k9 : Int))).1 26) (k9 : Int) (((searchS x ((x.1 26) (k9 : Int))).1 30) (((searchS x ((x.1 26) (k9 : Int))).1 22) (homeS (searchS x ((x.1 26) (k9 : Int))))))) (k9 : Int))).1)) 26 (fset ((searchS x ((x.1 26) (k9 : Int))).1 26) (k9 : Int) (((searchS x ((x.1 26) (k9 : Int))).1 30) (((searchS x ((x.1 26) (k9 : Int))).1 22) (homeS (searchS x ((x.1 26) (k9 : Int))))))))) (kc' := 0) (ks' := 0) C (k_X2_warnAround l E ad (setA (searchS x ((x.1 26) (k9 : Int))) 26 (fset ((searchS x ((x.1 26) (k9 : Int))).1 26) (k9 : Int) (((searchS x ((x.1 26) (k9 : Int))).1 30) (((searchS x ((x.1 26) (k9 : Int))).1 22) (homeS (searchS x ((x.1 26) (k9 : Int)))))))) ((fset ((searchS x ((x.1 26) (k9 : Int))).1 26) (k9 : Int) (((searchS x ((x.1 26) (k9 : Int))).1 30) (((searchS x ((x.1 26) (k9 : Int))).1 22) (homeS (searchS x ((x.1 26) (k9 : Int))))))) (k9 : Int)) (okT_s26 (S := (searchS x ((x.1 26) (k9 : Int)))) (okT_srch (S := x) (c := ((x.1 26) (k9 : Int))) iv3_0 (by omega)) (bnd_fset (f := ((searchS x ((x.1 26) (k9 : Int))).1 26)) (a := (k9 : Int)) (x := (((searchS x ((x.1 26) (k9 : Int))).1 30) (((searchS x ((x.1 26) (k9 : Int))).1 22) (homeS (searchS x ((x.1 26) (k9 : Int))))))) (okT_26 (okT_srch (S := x) (c := ((x.1 26) (k9 : Int))) iv3_0 (by omega))) (by omega))) (by omega)) mX2_warnAround iX2_warnAround wd772 21 2 rfl rfl rfl rfl rfl (Nat.le_of_ble_eq_true rfl) ⟨Nat.le_of_ble_eq_true rfl, Nat.le_of_ble_eq_true rfl⟩ ⟨Nat.le_of_ble_eq_true rfl, Nat.le_of_ble_eq_true rfl⟩ rfl rfl dX0_callOut_72 rfl ?_
        refine g_iadd C dX0_callOut_75 rfl ?_
        refine g_iast (f := ((searchS x ((x.1 26) (k9 : Int))).1 27)) (ws' := wT E ad (setA (setA (setA (searchS x ((x.1 26) (k9 : Int))) 24 ((warnS (setA (searchS x ((x.1 26) (k9 : Int))) 26 (fset ((searchS x ((x.1 26) (k9 : Int))).1 26) (k9 : Int) (((searchS x ((x.1 26) (k9 : Int))).1 30) (((searchS x ((x.1 26) (k9 : Int))).1 22) (homeS (searchS x ((x.1 26) (k9 : Int)))))))) ((fset ((searchS x ((x.1 26) (k9 : Int))).1 26) (k9 : Int) (((searchS x ((x.1 26) (k9 : Int))).1 30) (((searchS x ((x.1 26) (k9 : Int))).1 22) (homeS (searchS x ((x.1 26) (k9 : Int))))))) (k9 : Int))).1)) 26 (fset ((searchS x ((x.1 26) (k9 : Int))).1 26) (k9 : Int) (((searchS x ((x.1 26) (k9 : Int))).1 30) (((searchS x ((x.1 26) (k9 : Int))).1 22) (homeS (searchS x ((x.1 26) (k9 : Int)))))))) 27 (fset ((searchS x ((x.1 26) (k9 : Int))).1 27) (k9 : Int) ((((searchS x ((x.1 26) (k9 : Int))).1 27) (k9 : Int)) + (warnS (setA (searchS x ((x.1 26) (k9 : Int))) 26 (fset ((searchS x ((x.1 26) (k9 : Int))).1 26) (k9 : Int) (((searchS x ((x.1 26) (k9 : Int))).1 30) (((searchS x ((x.1 26) (k9 : Int))).1 22) (homeS (searchS x ((x.1 26) (k9 : Int)))))))) ((fset ((searchS x ((x.1 26) (k9 : Int))).1 26) (k9 : Int) (((searchS x ((x.1 26) (k9 : Int))).1 30) (((searchS x ((x.1 26) (k9 : Int))).1 22) (homeS (searchS x ((x.1 26) (k9 : Int))))))) (k9 : Int))).2)))) C dX0_callOut_76 rfl 27 rfl (by omega) (by decide) rfl ?_
        refine g_iinc (lv' := [(4, .int (iI ((k9 : Int) + 1))), (5, .int (iI (homeS (searchS x ((x.1 26) (k9 : Int)))))), (0, .ref (ad 25)), (1, .ref (ad 21)), (2, .ref (ad 28)), (3, .ref (ad 1))]) C dX0_callOut_77 rfl 1 rfl (by decide) rfl ?_
        refine g_goto C dX0_callOut_80 3 (by decide) ?_
        have e3 : clB k9 x = (setA (setA (setA (searchS x ((x.1 26) (k9 : Int))) 24 ((warnS (setA (searchS x ((x.1 26) (k9 : Int))) 26 (fset ((searchS x ((x.1 26) (k9 : Int))).1 26) (k9 : Int) (((searchS x ((x.1 26) (k9 : Int))).1 30) (((searchS x ((x.1 26) (k9 : Int))).1 22) (homeS (searchS x ((x.1 26) (k9 : Int)))))))) ((fset ((searchS x ((x.1 26) (k9 : Int))).1 26) (k9 : Int) (((searchS x ((x.1 26) (k9 : Int))).1 30) (((searchS x ((x.1 26) (k9 : Int))).1 22) (homeS (searchS x ((x.1 26) (k9 : Int))))))) (k9 : Int))).1)) 26 (fset ((searchS x ((x.1 26) (k9 : Int))).1 26) (k9 : Int) (((searchS x ((x.1 26) (k9 : Int))).1 30) (((searchS x ((x.1 26) (k9 : Int))).1 22) (homeS (searchS x ((x.1 26) (k9 : Int)))))))) 27 (fset ((searchS x ((x.1 26) (k9 : Int))).1 27) (k9 : Int) ((((searchS x ((x.1 26) (k9 : Int))).1 27) (k9 : Int)) + (warnS (setA (searchS x ((x.1 26) (k9 : Int))) 26 (fset ((searchS x ((x.1 26) (k9 : Int))).1 26) (k9 : Int) (((searchS x ((x.1 26) (k9 : Int))).1 30) (((searchS x ((x.1 26) (k9 : Int))).1 22) (homeS (searchS x ((x.1 26) (k9 : Int)))))))) ((fset ((searchS x ((x.1 26) (k9 : Int))).1 26) (k9 : Int) (((searchS x ((x.1 26) (k9 : Int))).1 30) (((searchS x ((x.1 26) (k9 : Int))).1 22) (homeS (searchS x ((x.1 26) (k9 : Int))))))) (k9 : Int))).2))) := by
          unfold clB stepC hailS
          first | (rw [if_pos (by omega), setA_c (a := 26) (b := 24) (by decide)] <;> rfl) | (rw [if_neg (by omega)] <;> rfl)
        have i3 := ih3 (by omega)
        rw [show clI S (k9 + 1) = (setA (setA (setA (searchS x ((x.1 26) (k9 : Int))) 24 ((warnS (setA (searchS x ((x.1 26) (k9 : Int))) 26 (fset ((searchS x ((x.1 26) (k9 : Int))).1 26) (k9 : Int) (((searchS x ((x.1 26) (k9 : Int))).1 30) (((searchS x ((x.1 26) (k9 : Int))).1 22) (homeS (searchS x ((x.1 26) (k9 : Int)))))))) ((fset ((searchS x ((x.1 26) (k9 : Int))).1 26) (k9 : Int) (((searchS x ((x.1 26) (k9 : Int))).1 30) (((searchS x ((x.1 26) (k9 : Int))).1 22) (homeS (searchS x ((x.1 26) (k9 : Int))))))) (k9 : Int))).1)) 26 (fset ((searchS x ((x.1 26) (k9 : Int))).1 26) (k9 : Int) (((searchS x ((x.1 26) (k9 : Int))).1 30) (((searchS x ((x.1 26) (k9 : Int))).1 22) (homeS (searchS x ((x.1 26) (k9 : Int)))))))) 27 (fset ((searchS x ((x.1 26) (k9 : Int))).1 27) (k9 : Int) ((((searchS x ((x.1 26) (k9 : Int))).1 27) (k9 : Int)) + (warnS (setA (searchS x ((x.1 26) (k9 : Int))) 26 (fset ((searchS x ((x.1 26) (k9 : Int))).1 26) (k9 : Int) (((searchS x ((x.1 26) (k9 : Int))).1 30) (((searchS x ((x.1 26) (k9 : Int))).1 22) (homeS (searchS x ((x.1 26) (k9 : Int)))))))) ((fset ((searchS x ((x.1 26) (k9 : Int))).1 26) (k9 : Int) (((searchS x ((x.1 26) (k9 : Int))).1 30) (((searchS x ((x.1 26) (k9 : Int))).1 22) (homeS (searchS x ((x.1 26) (k9 : Int))))))) (k9 : Int))).2))) from by rw [← e3, hx3]; rfl] at i3
        exact g_to [0, 2, 3, 4, 5] (i3) rfl rfl rfl
  refine g_to [0, 1, 2, 3, 4] (L3 0 (by omega)) rfl rfl rfl
abbrev r_X0_post : Room := { frames := 0, cells := 0, slots := 0, locals := 0 }
set_option maxHeartbeats 4000000 in
set_option maxRecDepth 100000 in
theorem k_X0_post (l : Launch) (E : gE) (ad : Nat → Nat) (S : gS) (q : Int) (hS : okT S) (hn : S.2 6 < 3) : gK l E yX0_post cX0_post 3 (some .int) r_X0_post [.ref (ad 25), .int (iI q)] (wT E ad S) (some (.int (iI (S.2 6)))) (wT E ad (postS S q)) := by
  refine gK_by RX0 rfl mX0_post [(0, .ref (ad 25)), (1, .int (iI q))] (Nat.le_of_ble_eq_true rfl) rfl ?_
  intro zp ze zs zm za zb zh zc zA zQ C Z
  refine g_aload_n C dX0_post_0 rfl 0 rfl ?_
  refine g_get (v := .int (iI (S.2 6))) (T := TX0) (N := 3) (ci := 0) C in_X0 25 rfl rfl 1 (by decide) wd105 (Or.inr wd106) rfl dX0_post_1 rfl ?_
  have f1 := okT_i6 hS
  refine g_istore_n (lv' := [(2, .int (iI (S.2 6))), (0, .ref (ad 25)), (1, .int (iI q))]) C dX0_post_4 rfl (by decide) rfl ?_
  refine g_aload_n C dX0_post_5 rfl 1 rfl ?_
  refine g_get (v := .ref (ad 26)) (T := TX0) (N := 3) (ci := 0) C in_X0 25 rfl rfl 0 (by decide) wd88 (Or.inr wd89) rfl dX0_post_6 rfl ?_
  refine g_iload_n C dX0_post_9 rfl 0 rfl ?_
  refine g_iload_n C dX0_post_10 rfl 2 rfl ?_
  refine g_iast (f := (S.1 26)) (ws' := wT E ad (setA S 26 (fset (S.1 26) (S.2 6) q))) C dX0_post_11 rfl 26 rfl (by omega) (by decide) rfl ?_
  refine g_aload_n C dX0_post_12 rfl 1 rfl ?_
  refine g_dup C dX0_post_13 rfl rfl ?_
  refine g_get (v := .int (iI (S.2 6))) (T := TX0) (N := 3) (ci := 0) C in_X0 25 rfl rfl 1 (by decide) wd105 (Or.inr wd106) rfl dX0_post_14 rfl ?_
  have f14 := okT_i6 hS
  refine g_iconst C dX0_post_17 rfl ?_
  refine g_iadd C dX0_post_18 rfl ?_
  refine g_put (T := TX0) (N := 3) (ci := 0) (ws' := wT E ad (setI (setA S 26 (fset (S.1 26) (S.2 6) q)) 6 ((S.2 6) + (1)))) C in_X0 tyX0 tyX0_ok nmX0 25 rfl rfl 1 (by decide) wd105 (Or.inr wd106) rfl (ty := .int) (by decide +kernel) rfl rfl (Nat.le_of_ble_eq_true rfl) rfl dX0_post_19 rfl ?_
  refine g_iload_n C dX0_post_22 rfl 0 rfl ?_
  exact z_iret C Z rfl dX0_post_23 rfl rfl
abbrev r_X0_tell : Room := { frames := 1, cells := 0, slots := 0, locals := 21 }
set_option maxHeartbeats 4000000 in
set_option maxRecDepth 100000 in
theorem k_X0_tell (l : Launch) (E : gE) (ad : Nat → Nat) (S : gS) (k wh : Int) (hS : okT S) (hk : 0 ≤ k ∧ k < 3) (hw : -2147483648 ≤ wh ∧ wh ≤ 2147483647) : gK l E yX0_tell cX0_tell 3 (some .int) r_X0_tell [.ref (ad 25), .int (iI k), .int (iI wh)] (wT E ad S) (some (.int (iI (cTell S k wh)))) (wT E ad S) := by
  refine gK_by RX0 rfl mX0_tell [(0, .ref (ad 25)), (1, .int (iI k)), (2, .int (iI wh))] (Nat.le_of_ble_eq_true rfl) rfl ?_
  intro zp ze zs zm za zb zh zc zA zQ C Z
  refine g_iload_n C dX0_tell_0 rfl 2 rfl ?_
  by_cases c1_0 : wh = 0
  · refine g_lookIn C dX0_tell_1 (by decide) 28 0 c1_0 (by omega) rfl (by decide) ?_
    refine g_aload_n C dX0_tell_28 rfl 0 rfl ?_
    refine g_iload_n C dX0_tell_29 rfl 1 rfl ?_
    refine g_callU0 (As := [.int (iI k)]) (rv := some (.int (iI ((S.1 26) k % 10)))) (w1 := wT E ad S) (kc' := 0) (ks' := 0) C "FloodWardens$Numbered" RX0 (k_X4_xOf_X0 l E ad S k hS (by omega)) mX4_xOf ⟨wd322, wd398, wd397⟩ rfl (by decide +kernel) wd396 25 0 rfl rfl rfl rfl rfl (Nat.le_of_ble_eq_true rfl) ⟨Nat.le_of_ble_eq_true rfl, Nat.le_of_ble_eq_true rfl⟩ ⟨Nat.le_of_ble_eq_true rfl, Nat.le_of_ble_eq_true rfl⟩ rfl rfl dX0_tell_30 rfl ?_
    exact z_iret C Z rfl dX0_tell_33 (by exact congrArg (fun z => some (Value.int (iI z))) (by unfold cTell; (repeat' split) <;> first | rfl | omega)) rfl
  by_cases c1_1 : wh = 1
  · refine g_lookIn C dX0_tell_1 (by decide) 34 1 c1_1 (by omega) rfl (by decide) ?_
    refine g_aload_n C dX0_tell_34 rfl 0 rfl ?_
    refine g_iload_n C dX0_tell_35 rfl 1 rfl ?_
    refine g_callU0 (As := [.int (iI k)]) (rv := some (.int (iI ((S.1 26) k / 10)))) (w1 := wT E ad S) (kc' := 0) (ks' := 0) C "FloodWardens$Numbered" RX0 (k_X4_yOf_X0 l E ad S k hS (by omega)) mX4_yOf ⟨wd328, wd401, wd400⟩ rfl (by decide +kernel) wd399 25 0 rfl rfl rfl rfl rfl (Nat.le_of_ble_eq_true rfl) ⟨Nat.le_of_ble_eq_true rfl, Nat.le_of_ble_eq_true rfl⟩ ⟨Nat.le_of_ble_eq_true rfl, Nat.le_of_ble_eq_true rfl⟩ rfl rfl dX0_tell_36 rfl ?_
    exact z_iret C Z rfl dX0_tell_39 (by exact congrArg (fun z => some (Value.int (iI z))) (by unfold cTell; (repeat' split) <;> first | rfl | omega)) rfl
  refine g_lookOut2 C dX0_tell_1 (by decide) 40 (by omega) c1_0 c1_1 (by decide) ?_
  refine g_aload_n C dX0_tell_40 rfl 0 rfl ?_
  refine g_get (v := .ref (ad 27)) (T := TX0) (N := 3) (ci := 0) C in_X0 25 rfl rfl 2 (by decide) wd185 (Or.inl rfl) rfl dX0_tell_41 rfl ?_
  refine g_iload_n C dX0_tell_44 rfl 1 rfl ?_
  refine g_iald (f := (S.1 27)) C dX0_tell_45 rfl 27 rfl (by omega) (by decide) ?_
  exact z_iret C Z rfl dX0_tell_46 (by exact congrArg (fun z => some (Value.int (iI z))) (by unfold cTell; (repeat' split) <;> first | rfl | omega)) rfl
