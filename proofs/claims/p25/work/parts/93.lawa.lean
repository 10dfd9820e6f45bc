/-! the law, piece by piece: the river and the ground change -/
set_option maxHeartbeats 8000000 in
set_option maxRecDepth 100000 in
theorem law_a {E : gE} {zp : Program} {l : Launch} {ze : Env} {zs : State} {zm : MethodId} {za : Array Value} {zb : List Frame} {zh : Method} {zc : Code} {zA : Nat → Prop} {zQ : State → Prop} {sa : gTx} {b L : Nat} {xs : Nat → Int32} {o : Nat} {ad bd : Nat → Nat} {kc ks : Nat} {T H : gS} {all t : Int} {j : Nat} (C : gC E zp zs zm za zh zc cL_law 16 RL (some .boolean) zA) (SX : gSX sa b L xs zA zs) (hL : L ≤ 260) (hkc : kc ≤ 1000) (hks : ks ≤ 10000) (hj : j < 16) (J : jl all t T) (kk : ∀ (x : Int) (U : gS), -2147483648 ≤ x ∧ x ≤ 2147483647 → jl all t U → gG E zp l ze room_1 zs zm za zb zh zc zA 16 kc ks zQ ([(o, .inr (8, [.ref (ad 0), .ref (bd 0)]))] ++ (wT E ad U ++ (wT E bd H))) 104 [(4, .int (iI x)), (3, .int (iI (j : Int))), (2, .int (iI all)), (1, .ref o), (0, .ref b)] []) : gG E zp l ze room_1 zs zm za zb zh zc zA 16 kc ks zQ ([(o, .inr (8, [.ref (ad 0), .ref (bd 0)]))] ++ (wT E ad T ++ (wT E bd H))) 14 [(3, .int (iI (j : Int))), (2, .int (iI all)), (1, .ref o), (0, .ref b)] [] := by
  refine g_iload_n C dL_law_14 rfl 0 rfl ?_
  refine g_bipush C dL_law_15 rfl rfl ?_
  refine g_icmp_ge C dL_law_17 722 (by decide) rfl (by omega) (by omega) (fun c17 => ?_) (fun c17 => ?_)
  · exfalso; omega
  refine g_aload_n C dL_law_20 rfl 3 rfl ?_
  refine g_iload_n C dL_law_21 rfl 0 rfl ?_
  refine g_cell C SX hL (by omega) (Nat.le_of_ble_eq_true rfl) ⟨Nat.le_of_ble_eq_true rfl, Nat.le_of_ble_eq_true rfl⟩ ⟨by show kc + 0 ≤ 600104; omega, by show ks + 0 ≤ 7301314; omega⟩ dL_law_22 rfl (fun z22 hz22 => ?_)
  refine g_iconst C dL_law_25 rfl ?_
  refine g_ishr C dL_law_26 rfl (fun z26 hz26 => ?_)
  refine g_istore (lv' := [(4, .int (iI z26)), (3, .int (iI (j : Int))), (2, .int (iI all)), (1, .ref o), (0, .ref b)]) C dL_law_27 rfl (by decide) rfl ?_
  refine g_iload C dL_law_29 rfl 0 rfl ?_
  refine g_iconst C dL_law_31 rfl ?_
  refine g_below C (by omega) (Nat.le_of_ble_eq_true rfl) ⟨Nat.le_of_ble_eq_true rfl, Nat.le_of_ble_eq_true rfl⟩ ⟨by show kc + 0 ≤ 600104; omega, by show ks + 0 ≤ 7301314; omega⟩ dL_law_32 rfl (fun z32 hz32 => ?_)
  refine g_if_ne C dL_law_35 61 (by decide) rfl (by omega) (fun c35 => ?_) (fun c35 => ?_)
  · skip
    refine g_iload C dL_law_61 rfl 0 rfl ?_
    refine g_iconst C dL_law_63 rfl ?_
    refine g_below C (by omega) (Nat.le_of_ble_eq_true rfl) ⟨Nat.le_of_ble_eq_true rfl, Nat.le_of_ble_eq_true rfl⟩ ⟨by show kc + 0 ≤ 600104; omega, by show ks + 0 ≤ 7301314; omega⟩ dL_law_64 rfl (fun z64 hz64 => ?_)
    refine g_iconst C dL_law_67 rfl ?_
    refine g_icmp_ne C dL_law_68 104 (by decide) rfl (by omega) (by omega) (fun c68 => ?_) (fun c68 => ?_)
    · skip
      exact g_to [0, 1, 2, 3, 4] (kk _ _ hz26 J) rfl rfl rfl
    · skip
      refine g_aload_n C dL_law_71 rfl 3 rfl ?_
      refine g_iload C dL_law_72 rfl 0 rfl ?_
      refine g_iconst C dL_law_74 rfl ?_
      refine g_ishr C dL_law_75 rfl (fun z75 hz75 => ?_)
      refine g_bipush C dL_law_76 rfl rfl ?_
      refine g_below C (by omega) (Nat.le_of_ble_eq_true rfl) ⟨Nat.le_of_ble_eq_true rfl, Nat.le_of_ble_eq_true rfl⟩ ⟨by show kc + 0 ≤ 600104; omega, by show ks + 0 ≤ 7301314; omega⟩ dL_law_78 rfl (fun z78 hz78 => ?_)
      refine g_iload C dL_law_81 rfl 0 rfl ?_
      refine g_iconst C dL_law_83 rfl ?_
      refine g_ishr C dL_law_84 rfl (fun z84 hz84 => ?_)
      refine g_bipush C dL_law_85 rfl rfl ?_
      refine g_below C (by omega) (Nat.le_of_ble_eq_true rfl) ⟨Nat.le_of_ble_eq_true rfl, Nat.le_of_ble_eq_true rfl⟩ ⟨by show kc + 0 ≤ 600104; omega, by show ks + 0 ≤ 7301314; omega⟩ dL_law_87 rfl (fun z87 hz87 => ?_)
      refine g_iload C dL_law_90 rfl 0 rfl ?_
      refine g_bipush C dL_law_92 rfl rfl ?_
      refine g_ishr C dL_law_94 rfl (fun z94 hz94 => ?_)
      refine g_bipush C dL_law_95 rfl rfl ?_
      refine g_below C (by omega) (Nat.le_of_ble_eq_true rfl) ⟨Nat.le_of_ble_eq_true rfl, Nat.le_of_ble_eq_true rfl⟩ ⟨by show kc + 0 ≤ 600104; omega, by show ks + 0 ≤ 7301314; omega⟩ dL_law_97 rfl (fun z97 hz97 => ?_)
      refine g_callVf (As := [.int (iI z78), .int (iI z87), .int (iI z97)]) (rv := some (.int (iI (T.1 2 (10 * z87 + z78))))) (w1 := [(o, .inr (8, [.ref (ad 0), .ref (bd 0)]))] ++ (wT E ad (setA T 2 (fset (T.1 2) (10 * z87 + z78) z97)))) (kc' := kc) (ks' := ks) C (wT E bd H) (k_X9_setGround l E o (bd 0) ad T z78 z87 z97 J.2.1.1 (by omega) (by omega) (by omega) ⟨⟨by omega, by omega⟩, by omega, by omega⟩ ⟨by omega, by omega⟩) mX9_setGround iX9_setGround wp19 0 8 rfl rfl rfl rfl rfl (Nat.le_of_ble_eq_true rfl) ⟨Nat.le_of_ble_eq_true rfl, Nat.le_of_ble_eq_true rfl⟩ ⟨by show kc + 0 ≤ 600104; omega, by show ks + 0 ≤ 7301314; omega⟩ rfl rfl (by simp only [List.append_assoc]) dL_law_100 rfl ?_
      refine g_ws (ws1 := [(o, .inr (8, [.ref (ad 0), .ref (bd 0)]))] ++ (wT E ad (setA T 2 (fset (T.1 2) (10 * z87 + z78) z97)) ++ (wT E bd H))) (by simp only [List.append_assoc]) ?_
      obtain ⟨T1, hT1⟩ : ∃ z, z = (setA T 2 (fset (T.1 2) (10 * z87 + z78) z97)) := ⟨_, rfl⟩
      rw [← hT1]
      have JT1 : jl all t T1 := by rw [hT1]; exact j_ground J ⟨⟨by omega, by omega⟩, by omega, by omega⟩ ⟨by omega, by omega⟩
      refine g_pop C dL_law_103 rfl rfl ?_
      exact g_to [0, 1, 2, 3, 4] (kk _ _ hz26 JT1) rfl rfl rfl
  · skip
    refine g_aload_n C dL_law_38 rfl 3 rfl ?_
    refine g_iload C dL_law_39 rfl 0 rfl ?_
    refine g_iconst C dL_law_41 rfl ?_
    refine g_ishr C dL_law_42 rfl (fun z42 hz42 => ?_)
    refine g_bipush C dL_law_43 rfl rfl ?_
    refine g_below C (by omega) (Nat.le_of_ble_eq_true rfl) ⟨Nat.le_of_ble_eq_true rfl, Nat.le_of_ble_eq_true rfl⟩ ⟨by show kc + 0 ≤ 600104; omega, by show ks + 0 ≤ 7301314; omega⟩ dL_law_45 rfl (fun z45 hz45 => ?_)
    refine g_iload C dL_law_48 rfl 0 rfl ?_
    refine g_iconst C dL_law_50 rfl ?_
    refine g_ishr C dL_law_51 rfl (fun z51 hz51 => ?_)
    refine g_bipush C dL_law_52 rfl rfl ?_
    refine g_below C (by omega) (Nat.le_of_ble_eq_true rfl) ⟨Nat.le_of_ble_eq_true rfl, Nat.le_of_ble_eq_true rfl⟩ ⟨by show kc + 0 ≤ 600104; omega, by show ks + 0 ≤ 7301314; omega⟩ dL_law_54 rfl (fun z54 hz54 => ?_)
    refine g_callVf (As := [.int (iI z45), .int (iI z54)]) (rv := some (.int (iI (T.1 6 z45)))) (w1 := [(o, .inr (8, [.ref (ad 0), .ref (bd 0)]))] ++ (wT E ad (setA T 6 (fset (T.1 6) z45 z54)))) (kc' := kc) (ks' := ks) C (wT E bd H) (k_X9_setRiver l E o (bd 0) ad T z45 z54 J.2.1.1 (by omega) (by omega) ⟨by omega, by omega⟩ ⟨by omega, by omega⟩) mX9_setRiver iX9_setRiver wp124 0 8 rfl rfl rfl rfl rfl (Nat.le_of_ble_eq_true rfl) ⟨Nat.le_of_ble_eq_true rfl, Nat.le_of_ble_eq_true rfl⟩ ⟨by show kc + 0 ≤ 600104; omega, by show ks + 0 ≤ 7301314; omega⟩ rfl rfl (by simp only [List.append_assoc]) dL_law_57 rfl ?_
    refine g_ws (ws1 := [(o, .inr (8, [.ref (ad 0), .ref (bd 0)]))] ++ (wT E ad (setA T 6 (fset (T.1 6) z45 z54)) ++ (wT E bd H))) (by simp only [List.append_assoc]) ?_
    obtain ⟨T2, hT2⟩ : ∃ z, z = (setA T 6 (fset (T.1 6) z45 z54)) := ⟨_, rfl⟩
    rw [← hT2]
    have JT2 : jl all t T2 := by rw [hT2]; exact j_river J ⟨by omega, by omega⟩ ⟨by omega, by omega⟩
    refine g_pop C dL_law_60 rfl rfl ?_
    refine g_iload C dL_law_61 rfl 0 rfl ?_
    refine g_iconst C dL_law_63 rfl ?_
    refine g_below C (by omega) (Nat.le_of_ble_eq_true rfl) ⟨Nat.le_of_ble_eq_true rfl, Nat.le_of_ble_eq_true rfl⟩ ⟨by show kc + 0 ≤ 600104; omega, by show ks + 0 ≤ 7301314; omega⟩ dL_law_64 rfl (fun z64 hz64 => ?_)
    refine g_iconst C dL_law_67 rfl ?_
    refine g_icmp_ne C dL_law_68 104 (by decide) rfl (by omega) (by omega) (fun c68 => ?_) (fun c68 => ?_)
    · skip
      exact g_to [0, 1, 2, 3, 4] (kk _ _ hz26 JT2) rfl rfl rfl
    · skip
      refine g_aload_n C dL_law_71 rfl 3 rfl ?_
      refine g_iload C dL_law_72 rfl 0 rfl ?_
      refine g_iconst C dL_law_74 rfl ?_
      refine g_ishr C dL_law_75 rfl (fun z75 hz75 => ?_)
      refine g_bipush C dL_law_76 rfl rfl ?_
      refine g_below C (by omega) (Nat.le_of_ble_eq_true rfl) ⟨Nat.le_of_ble_eq_true rfl, Nat.le_of_ble_eq_true rfl⟩ ⟨by show kc + 0 ≤ 600104; omega, by show ks + 0 ≤ 7301314; omega⟩ dL_law_78 rfl (fun z78 hz78 => ?_)
      refine g_iload C dL_law_81 rfl 0 rfl ?_
      refine g_iconst C dL_law_83 rfl ?_
      refine g_ishr C dL_law_84 rfl (fun z84 hz84 => ?_)
      refine g_bipush C dL_law_85 rfl rfl ?_
      refine g_below C (by omega) (Nat.le_of_ble_eq_true rfl) ⟨Nat.le_of_ble_eq_true rfl, Nat.le_of_ble_eq_true rfl⟩ ⟨by show kc + 0 ≤ 600104; omega, by show ks + 0 ≤ 7301314; omega⟩ dL_law_87 rfl (fun z87 hz87 => ?_)
      refine g_iload C dL_law_90 rfl 0 rfl ?_
      refine g_bipush C dL_law_92 rfl rfl ?_
      refine g_ishr C dL_law_94 rfl (fun z94 hz94 => ?_)
      refine g_bipush C dL_law_95 rfl rfl ?_
      refine g_below C (by omega) (Nat.le_of_ble_eq_true rfl) ⟨Nat.le_of_ble_eq_true rfl, Nat.le_of_ble_eq_true rfl⟩ ⟨by show kc + 0 ≤ 600104; omega, by show ks + 0 ≤ 7301314; omega⟩ dL_law_97 rfl (fun z97 hz97 => ?_)
      refine g_callVf (As := [.int (iI z78), .int (iI z87), .int (iI z97)]) (rv := some (.int (iI (T2.1 2 (10 * z87 + z78))))) (w1 := [(o, .inr (8, [.ref (ad 0), .ref (bd 0)]))] ++ (wT E ad (setA T2 2 (fset (T2.1 2) (10 * z87 + z78) z97)))) (kc' := kc) (ks' := ks) C (wT E bd H) (k_X9_setGround l E o (bd 0) ad T2 z78 z87 z97 JT2.2.1.1 (by omega) (by omega) (by omega) ⟨⟨by omega, by omega⟩, by omega, by omega⟩ ⟨by omega, by omega⟩) mX9_setGround iX9_setGround wp19 0 8 rfl rfl rfl rfl rfl (Nat.le_of_ble_eq_true rfl) ⟨Nat.le_of_ble_eq_true rfl, Nat.le_of_ble_eq_true rfl⟩ ⟨by show kc + 0 ≤ 600104; omega, by show ks + 0 ≤ 7301314; omega⟩ rfl rfl (by simp only [List.append_assoc]) dL_law_100 rfl ?_
      refine g_ws (ws1 := [(o, .inr (8, [.ref (ad 0), .ref (bd 0)]))] ++ (wT E ad (setA T2 2 (fset (T2.1 2) (10 * z87 + z78) z97)) ++ (wT E bd H))) (by simp only [List.append_assoc]) ?_
      obtain ⟨T3, hT3⟩ : ∃ z, z = (setA T2 2 (fset (T2.1 2) (10 * z87 + z78) z97)) := ⟨_, rfl⟩
      rw [← hT3]
      have JT3 : jl all t T3 := by rw [hT3]; exact j_ground JT2 ⟨⟨by omega, by omega⟩, by omega, by omega⟩ ⟨by omega, by omega⟩
      refine g_pop C dL_law_103 rfl rfl ?_
      exact g_to [0, 1, 2, 3, 4] (kk _ _ hz26 JT3) rfl rfl rfl
