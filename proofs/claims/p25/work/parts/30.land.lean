abbrev r_X3_neighbourOf : Room := { frames := 0, cells := 0, slots := 0, locals := 0 }
set_option maxHeartbeats 4000000 in
set_option maxRecDepth 100000 in
theorem k_X3_neighbourOf (l : Launch) (E : gE) (k d : Int) (h : 0 ≤ k ∧ k < 80) (hd : 0 ≤ d ∧ d < 4) : gK l E yX3_neighbourOf cX3_neighbourOf 2 (some .int) r_X3_neighbourOf [.int (iI k), .int (iI d)] ([]) (some (.int (iI (nbr k d)))) ([]) := by
  refine gK_by RX3 rfl mX3_neighbourOf [(0, .int (iI k)), (1, .int (iI d))] (Nat.le_of_ble_eq_true rfl) rfl ?_
  intro zp ze zs zm za zb zh zc zA zQ C Z
  refine g_iload_n C dX3_neighbourOf_0 rfl 1 rfl ?_
  by_cases c1_0 : d = 0
  · refine g_tableIn C dX3_neighbourOf_1 28 0 c1_0 (by omega) (by decide) (by decide) rfl (by decide) ?_
    refine g_iload_n C dX3_neighbourOf_28 rfl 0 rfl ?_
    refine g_bipush C dX3_neighbourOf_29 rfl rfl ?_
    refine g_icmp_lt C dX3_neighbourOf_31 41 (by decide) rfl (by omega) (by omega) (fun c31 => ?_) (fun c31 => ?_)
    · skip
      refine g_iconst C dX3_neighbourOf_41 rfl ?_
      exact z_iret C Z rfl dX3_neighbourOf_42 (by exact congrArg (fun z => some (Value.int (iI z))) (by unfold nbr; (repeat' split) <;> omega)) rfl
    · skip
      refine g_iload_n C dX3_neighbourOf_34 rfl 0 rfl ?_
      refine g_bipush C dX3_neighbourOf_35 rfl rfl ?_
      refine g_isub C dX3_neighbourOf_37 rfl ?_
      refine g_goto C dX3_neighbourOf_38 42 (by decide) ?_
      exact z_iret C Z rfl dX3_neighbourOf_42 (by exact congrArg (fun z => some (Value.int (iI z))) (by unfold nbr; (repeat' split) <;> omega)) rfl
  by_cases c1_1 : d = 1
  · refine g_tableIn C dX3_neighbourOf_1 43 1 c1_1 (by omega) (by decide) (by decide) rfl (by decide) ?_
    refine g_iload_n C dX3_neighbourOf_43 rfl 0 rfl ?_
    refine g_bipush C dX3_neighbourOf_44 rfl rfl ?_
    refine g_irem C dX3_neighbourOf_46 rfl (by omega) (by omega) ?_
    refine g_bipush C dX3_neighbourOf_47 rfl rfl ?_
    refine g_icmp_ge C dX3_neighbourOf_49 58 (by decide) rfl (by omega) (by omega) (fun c49 => ?_) (fun c49 => ?_)
    · skip
      refine g_iconst C dX3_neighbourOf_58 rfl ?_
      exact z_iret C Z rfl dX3_neighbourOf_59 (by exact congrArg (fun z => some (Value.int (iI z))) (by unfold nbr; (repeat' split) <;> omega)) rfl
    · skip
      refine g_iload_n C dX3_neighbourOf_52 rfl 0 rfl ?_
      refine g_iconst C dX3_neighbourOf_53 rfl ?_
      refine g_iadd C dX3_neighbourOf_54 rfl ?_
      refine g_goto C dX3_neighbourOf_55 59 (by decide) ?_
      exact z_iret C Z rfl dX3_neighbourOf_59 (by exact congrArg (fun z => some (Value.int (iI z))) (by unfold nbr; (repeat' split) <;> omega)) rfl
  by_cases c1_2 : d = 2
  · refine g_tableIn C dX3_neighbourOf_1 60 2 c1_2 (by omega) (by decide) (by decide) rfl (by decide) ?_
    refine g_iload_n C dX3_neighbourOf_60 rfl 0 rfl ?_
    refine g_bipush C dX3_neighbourOf_61 rfl rfl ?_
    refine g_icmp_ge C dX3_neighbourOf_63 73 (by decide) rfl (by omega) (by omega) (fun c63 => ?_) (fun c63 => ?_)
    · skip
      refine g_iconst C dX3_neighbourOf_73 rfl ?_
      exact z_iret C Z rfl dX3_neighbourOf_74 (by exact congrArg (fun z => some (Value.int (iI z))) (by unfold nbr; (repeat' split) <;> omega)) rfl
    · skip
      refine g_iload_n C dX3_neighbourOf_66 rfl 0 rfl ?_
      refine g_bipush C dX3_neighbourOf_67 rfl rfl ?_
      refine g_iadd C dX3_neighbourOf_69 rfl ?_
      refine g_goto C dX3_neighbourOf_70 74 (by decide) ?_
      exact z_iret C Z rfl dX3_neighbourOf_74 (by exact congrArg (fun z => some (Value.int (iI z))) (by unfold nbr; (repeat' split) <;> omega)) rfl
  refine g_tableOut C dX3_neighbourOf_1 75 (by omega) (by omega) (by decide) ?_
  refine g_iload_n C dX3_neighbourOf_75 rfl 0 rfl ?_
  refine g_bipush C dX3_neighbourOf_76 rfl rfl ?_
  refine g_irem C dX3_neighbourOf_78 rfl (by omega) (by omega) ?_
  refine g_if_le C dX3_neighbourOf_79 88 (by decide) rfl (by omega) (fun c79 => ?_) (fun c79 => ?_)
  · skip
    refine g_iconst C dX3_neighbourOf_88 rfl ?_
    exact z_iret C Z rfl dX3_neighbourOf_89 (by exact congrArg (fun z => some (Value.int (iI z))) (by unfold nbr; (repeat' split) <;> omega)) rfl
  · skip
    refine g_iload_n C dX3_neighbourOf_82 rfl 0 rfl ?_
    refine g_iconst C dX3_neighbourOf_83 rfl ?_
    refine g_isub C dX3_neighbourOf_84 rfl ?_
    refine g_goto C dX3_neighbourOf_85 89 (by decide) ?_
    exact z_iret C Z rfl dX3_neighbourOf_89 (by exact congrArg (fun z => some (Value.int (iI z))) (by unfold nbr; (repeat' split) <;> omega)) rfl
abbrev r_X3_level : Room := { frames := 0, cells := 0, slots := 0, locals := 0 }
set_option maxHeartbeats 4000000 in
set_option maxRecDepth 100000 in
theorem k_X3_level (l : Launch) (E : gE) (ad : Nat → Nat) (S : gS) (k : Int) (hS : okL S) (h : 0 ≤ k ∧ k < 80) : gK l E yX3_level cX3_level 2 (some .int) r_X3_level [.ref (ad 1), .int (iI k)] (wT E ad S) (some (.int (iI (lev (S.1 2) (S.1 3) (S.1 4) k)))) (wT E ad S) := by
  refine gK_by RX3 rfl mX3_level [(0, .ref (ad 1)), (1, .int (iI k))] (Nat.le_of_ble_eq_true rfl) rfl ?_
  intro zp ze zs zm za zb zh zc zA zQ C Z
  refine g_aload_n C dX3_level_0 rfl 0 rfl ?_
  refine g_get (v := .ref (ad 2)) (T := TX3) (N := 5) (ci := 3) C in_X3 1 rfl rfl 0 (by decide) wd41 (Or.inl rfl) rfl dX3_level_1 rfl ?_
  refine g_iload_n C dX3_level_4 rfl 1 rfl ?_
  refine g_iald (f := (S.1 2)) C dX3_level_5 rfl 2 rfl (by omega) (by decide) ?_
  have b5 := hS.1 k
  refine g_aload_n C dX3_level_6 rfl 0 rfl ?_
  refine g_get (v := .ref (ad 3)) (T := TX3) (N := 5) (ci := 3) C in_X3 1 rfl rfl 1 (by decide) wd44 (Or.inl rfl) rfl dX3_level_7 rfl ?_
  refine g_iload_n C dX3_level_10 rfl 1 rfl ?_
  refine g_iald (f := (S.1 3)) C dX3_level_11 rfl 3 rfl (by omega) (by decide) ?_
  have b11 := hS.2.1 k
  refine g_iadd C dX3_level_12 rfl ?_
  refine g_aload_n C dX3_level_13 rfl 0 rfl ?_
  refine g_get (v := .ref (ad 4)) (T := TX3) (N := 5) (ci := 3) C in_X3 1 rfl rfl 2 (by decide) wd47 (Or.inl rfl) rfl dX3_level_14 rfl ?_
  refine g_iload_n C dX3_level_17 rfl 1 rfl ?_
  refine g_iald (f := (S.1 4)) C dX3_level_18 rfl 4 rfl (by omega) (by decide) ?_
  have b18 := hS.2.2 k
  refine g_iadd C dX3_level_19 rfl ?_
  exact z_iret C Z rfl dX3_level_20 rfl rfl
abbrev r_X3_isWalkable : Room := { frames := 0, cells := 0, slots := 0, locals := 0 }
set_option maxHeartbeats 4000000 in
set_option maxRecDepth 100000 in
theorem k_X3_isWalkable (l : Launch) (E : gE) (ad : Nat → Nat) (S : gS) (k : Int) (hS : okL S) (h : 0 ≤ k ∧ k < 80) : gK l E yX3_isWalkable cX3_isWalkable 2 (some .boolean) r_X3_isWalkable [.ref (ad 1), .int (iI k)] (wT E ad S) (some (.int (iI (bI (S.1 4 k < 3))))) (wT E ad S) := by
  refine gK_by RX3 rfl mX3_isWalkable [(0, .ref (ad 1)), (1, .int (iI k))] (Nat.le_of_ble_eq_true rfl) rfl ?_
  intro zp ze zs zm za zb zh zc zA zQ C Z
  refine g_aload_n C dX3_isWalkable_0 rfl 0 rfl ?_
  refine g_get (v := .ref (ad 4)) (T := TX3) (N := 5) (ci := 3) C in_X3 1 rfl rfl 2 (by decide) wd47 (Or.inl rfl) rfl dX3_isWalkable_1 rfl ?_
  refine g_iload_n C dX3_isWalkable_4 rfl 1 rfl ?_
  refine g_iald (f := (S.1 4)) C dX3_isWalkable_5 rfl 4 rfl (by omega) (by decide) ?_
  have b5 := hS.2.2 k
  refine g_iconst C dX3_isWalkable_6 rfl ?_
  refine g_icmp_ge C dX3_isWalkable_7 14 (by decide) rfl (by omega) (by omega) (fun c7 => ?_) (fun c7 => ?_)
  · skip
    refine g_iconst C dX3_isWalkable_14 rfl ?_
    exact z_iret C Z (z_nar (by omega)) dX3_isWalkable_15 (by exact congrArg (fun z => some (Value.int (iI z))) (by first | (rw [bI_t (by omega)]) | (rw [bI_f (by omega)]))) rfl
  · skip
    refine g_iconst C dX3_isWalkable_10 rfl ?_
    refine g_goto C dX3_isWalkable_11 15 (by decide) ?_
    exact z_iret C Z (z_nar (by omega)) dX3_isWalkable_15 (by exact congrArg (fun z => some (Value.int (iI z))) (by first | (rw [bI_t (by omega)]) | (rw [bI_f (by omega)]))) rfl
abbrev r_X3_isSameOrNeighbour : Room := { frames := 1, cells := 0, slots := 0, locals := 21 }
set_option maxHeartbeats 4000000 in
set_option maxRecDepth 100000 in
theorem k_X3_isSameOrNeighbour (l : Launch) (E : gE) (k q : Int) (h : 0 ≤ k ∧ k < 80) (hq : 0 ≤ q ∧ q < 80) : gK l E yX3_isSameOrNeighbour cX3_isSameOrNeighbour 4 (some .boolean) r_X3_isSameOrNeighbour [.int (iI k), .int (iI q)] ([]) (some (.int (iI (near k q)))) ([]) := by
  refine gK_by RX3 rfl mX3_isSameOrNeighbour [(0, .int (iI k)), (1, .int (iI q))] (Nat.le_of_ble_eq_true rfl) rfl ?_
  intro zp ze zs zm za zb zh zc zA zQ C Z
  refine g_iload_n C dX3_isSameOrNeighbour_0 rfl 0 rfl ?_
  refine g_iload_n C dX3_isSameOrNeighbour_1 rfl 1 rfl ?_
  refine g_icmp_ne C dX3_isSameOrNeighbour_2 9 (by decide) rfl (by omega) (by omega) (fun c2 => ?_) (fun c2 => ?_)
  · skip
    refine g_iconst C dX3_isSameOrNeighbour_9 rfl ?_
    refine g_istore_n (lv' := [(2, .int (iI (0))), (0, .int (iI k)), (1, .int (iI q))]) C dX3_isSameOrNeighbour_10 rfl (by decide) rfl ?_
    refine g_iconst C dX3_isSameOrNeighbour_11 rfl ?_
    refine g_istore_n (lv' := [(3, .int (iI (0))), (2, .int (iI (0))), (0, .int (iI k)), (1, .int (iI q))]) C dX3_isSameOrNeighbour_12 rfl (by decide) rfl ?_
    have L13 : ∀ k9 : Nat, k9 ≤ 4 → gG E zp l ze r_X3_isSameOrNeighbour zs zm za zb zh zc zA 4 0 0 zQ ([]) 13 [(3, .int (iI (k9 : Int))), (2, .int (iI (itr (nearB k q) (bI (k = q)) k9))), (0, .int (iI k)), (1, .int (iI q))] [] := by
      refine g_up (4) _ ?_
      intro k9 ih13 hk13
      have iv13_0 := near_b (k := k) (q := q) k9
      obtain ⟨x, hx13⟩ : ∃ z, z = itr (nearB k q) (bI (k = q)) k9 := ⟨_, rfl⟩
      rw [← hx13]
      rw [← hx13] at iv13_0
      refine g_iload_n C dX3_isSameOrNeighbour_13 rfl 0 rfl ?_
      refine g_iconst C dX3_isSameOrNeighbour_14 rfl ?_
      refine g_icmp_ge C dX3_isSameOrNeighbour_15 43 (by decide) rfl (by omega) (by omega) (fun c15 => ?_) (fun c15 => ?_)
      · skip
        have hz13 : x = near k q := by rw [hx13, show k9 = 4 from by omega] <;> rfl
        refine g_iload_n C dX3_isSameOrNeighbour_43 rfl 1 rfl ?_
        exact z_iret C Z (z_nar (by omega)) dX3_isSameOrNeighbour_44 (by exact congrArg (fun z => some (Value.int (iI z))) (hz13.symm)) rfl
      · skip
        refine g_iload_n C dX3_isSameOrNeighbour_18 rfl 1 rfl ?_
        refine g_if_ne C dX3_isSameOrNeighbour_19 31 (by decide) rfl (by omega) (fun c19 => ?_) (fun c19 => ?_)
        · skip
          refine g_iconst C dX3_isSameOrNeighbour_31 rfl ?_
          refine g_goto C dX3_isSameOrNeighbour_32 36 (by decide) ?_
          refine g_istore_n (lv' := [(2, .int (iI (1))), (3, .int (iI (k9 : Int))), (0, .int (iI k)), (1, .int (iI q))]) C dX3_isSameOrNeighbour_36 rfl (by decide) rfl ?_
          refine g_iinc (lv' := [(3, .int (iI ((k9 : Int) + 1))), (2, .int (iI (1))), (0, .int (iI k)), (1, .int (iI q))]) C dX3_isSameOrNeighbour_37 rfl 1 rfl (by decide) rfl ?_
          refine g_goto C dX3_isSameOrNeighbour_40 13 (by decide) ?_
          have e13 : (nearB k q) k9 x = (1) := by
            unfold nearB
            first | rfl | (rw [if_pos (by omega)]) | (rw [if_neg (by omega)])
          have i13 := ih13 (by omega)
          rw [show itr (nearB k q) (bI (k = q)) (k9 + 1) = (1) from by rw [← e13, hx13]; rfl] at i13
          exact g_to [0, 1, 2, 3] (i13) rfl rfl rfl
        · skip
          refine g_iload_n C dX3_isSameOrNeighbour_22 rfl 2 rfl ?_
          refine g_iload_n C dX3_isSameOrNeighbour_23 rfl 0 rfl ?_
          refine g_callS1 (As := [.int (iI k), .int (iI (k9 : Int))]) (rv := some (.int (iI (nbr k (k9 : Int))))) (kc' := 0) (ks' := 0) C (k_X3_neighbourOf l E k (k9 : Int) (by omega) (by omega)) mX3_neighbourOf wd377 wd748 rfl rfl (Nat.le_of_ble_eq_true rfl) ⟨Nat.le_of_ble_eq_true rfl, Nat.le_of_ble_eq_true rfl⟩ ⟨Nat.le_of_ble_eq_true rfl, Nat.le_of_ble_eq_true rfl⟩ rfl rfl dX3_isSameOrNeighbour_24 rfl ?_
          have n24 := nbr_b (k := k) (d := (k9 : Int)) (by omega)
          refine g_iload_n C dX3_isSameOrNeighbour_27 rfl 3 rfl ?_
          refine g_icmp_ne C dX3_isSameOrNeighbour_28 35 (by decide) rfl (by omega) (by omega) (fun c28 => ?_) (fun c28 => ?_)
          · skip
            refine g_iconst C dX3_isSameOrNeighbour_35 rfl ?_
            refine g_istore_n (lv' := [(2, .int (iI (0))), (3, .int (iI (k9 : Int))), (0, .int (iI k)), (1, .int (iI q))]) C dX3_isSameOrNeighbour_36 rfl (by decide) rfl ?_
            refine g_iinc (lv' := [(3, .int (iI ((k9 : Int) + 1))), (2, .int (iI (0))), (0, .int (iI k)), (1, .int (iI q))]) C dX3_isSameOrNeighbour_37 rfl 1 rfl (by decide) rfl ?_
            refine g_goto C dX3_isSameOrNeighbour_40 13 (by decide) ?_
            have e13 : (nearB k q) k9 x = (0) := by
              unfold nearB
              first | rfl | (rw [if_pos (by omega)]) | (rw [if_neg (by omega)])
            have i13 := ih13 (by omega)
            rw [show itr (nearB k q) (bI (k = q)) (k9 + 1) = (0) from by rw [← e13, hx13]; rfl] at i13
            exact g_to [0, 1, 2, 3] (i13) rfl rfl rfl
          · skip
            refine g_iconst C dX3_isSameOrNeighbour_31 rfl ?_
            refine g_goto C dX3_isSameOrNeighbour_32 36 (by decide) ?_
            refine g_istore_n (lv' := [(2, .int (iI (1))), (3, .int (iI (k9 : Int))), (0, .int (iI k)), (1, .int (iI q))]) C dX3_isSameOrNeighbour_36 rfl (by decide) rfl ?_
            refine g_iinc (lv' := [(3, .int (iI ((k9 : Int) + 1))), (2, .int (iI (1))), (0, .int (iI k)), (1, .int (iI q))]) C dX3_isSameOrNeighbour_37 rfl 1 rfl (by decide) rfl ?_
            refine g_goto C dX3_isSameOrNeighbour_40 13 (by decide) ?_
            have e13 : (nearB k q) k9 x = (1) := by
              unfold nearB
              first | rfl | (rw [if_pos (by omega)]) | (rw [if_neg (by omega)])
            have i13 := ih13 (by omega)
            rw [show itr (nearB k q) (bI (k = q)) (k9 + 1) = (1) from by rw [← e13, hx13]; rfl] at i13
            exact g_to [0, 1, 2, 3] (i13) rfl rfl rfl
    refine g_to [0, 1, 2, 3] (L13 0 (by omega)) rfl (by first | (rw [bI_t (by omega)]; rfl) | (rw [bI_f (by omega)]; rfl)) rfl
  · skip
    refine g_iconst C dX3_isSameOrNeighbour_5 rfl ?_
    refine g_goto C dX3_isSameOrNeighbour_6 10 (by decide) ?_
    refine g_istore_n (lv' := [(2, .int (iI (1))), (0, .int (iI k)), (1, .int (iI q))]) C dX3_isSameOrNeighbour_10 rfl (by decide) rfl ?_
    refine g_iconst C dX3_isSameOrNeighbour_11 rfl ?_
    refine g_istore_n (lv' := [(3, .int (iI (0))), (2, .int (iI (1))), (0, .int (iI k)), (1, .int (iI q))]) C dX3_isSameOrNeighbour_12 rfl (by decide) rfl ?_
    have L13 : ∀ k9 : Nat, k9 ≤ 4 → gG E zp l ze r_X3_isSameOrNeighbour zs zm za zb zh zc zA 4 0 0 zQ ([]) 13 [(3, .int (iI (k9 : Int))), (2, .int (iI (itr (nearB k q) (bI (k = q)) k9))), (0, .int (iI k)), (1, .int (iI q))] [] := by
      refine g_up (4) _ ?_
      intro k9 ih13 hk13
      have iv13_0 := near_b (k := k) (q := q) k9
      obtain ⟨x, hx13⟩ : ∃ z, z = itr (nearB k q) (bI (k = q)) k9 := ⟨_, rfl⟩
      rw [← hx13]
      rw [← hx13] at iv13_0
      refine g_iload_n C dX3_isSameOrNeighbour_13 rfl 0 rfl ?_
      refine g_iconst C dX3_isSameOrNeighbour_14 rfl ?_
      refine g_icmp_ge C dX3_isSameOrNeighbour_15 43 (by decide) rfl (by omega) (by omega) (fun c15 => ?_) (fun c15 => ?_)
      · skip
        have hz13 : x = near k q := by rw [hx13, show k9 = 4 from by omega] <;> rfl
        refine g_iload_n C dX3_isSameOrNeighbour_43 rfl 1 rfl ?_
        exact z_iret C Z (z_nar (by omega)) dX3_isSameOrNeighbour_44 (by exact congrArg (fun z => some (Value.int (iI z))) (hz13.symm)) rfl
      · skip
        refine g_iload_n C dX3_isSameOrNeighbour_18 rfl 1 rfl ?_
        refine g_if_ne C dX3_isSameOrNeighbour_19 31 (by decide) rfl (by omega) (fun c19 => ?_) (fun c19 => ?_)
        · skip
          refine g_iconst C dX3_isSameOrNeighbour_31 rfl ?_
          refine g_goto C dX3_isSameOrNeighbour_32 36 (by decide) ?_
          refine g_istore_n (lv' := [(2, .int (iI (1))), (3, .int (iI (k9 : Int))), (0, .int (iI k)), (1, .int (iI q))]) C dX3_isSameOrNeighbour_36 rfl (by decide) rfl ?_
          refine g_iinc (lv' := [(3, .int (iI ((k9 : Int) + 1))), (2, .int (iI (1))), (0, .int (iI k)), (1, .int (iI q))]) C dX3_isSameOrNeighbour_37 rfl 1 rfl (by decide) rfl ?_
          refine g_goto C dX3_isSameOrNeighbour_40 13 (by decide) ?_
          have e13 : (nearB k q) k9 x = (1) := by
            unfold nearB
            first | rfl | (rw [if_pos (by omega)]) | (rw [if_neg (by omega)])
          have i13 := ih13 (by omega)
          rw [show itr (nearB k q) (bI (k = q)) (k9 + 1) = (1) from by rw [← e13, hx13]; rfl] at i13
          exact g_to [0, 1, 2, 3] (i13) rfl rfl rfl
        · skip
          refine g_iload_n C dX3_isSameOrNeighbour_22 rfl 2 rfl ?_
          refine g_iload_n C dX3_isSameOrNeighbour_23 rfl 0 rfl ?_
          refine g_callS1 (As := [.int (iI k), .int (iI (k9 : Int))]) (rv := some (.int (iI (nbr k (k9 : Int))))) (kc' := 0) (ks' := 0) C (k_X3_neighbourOf l E k (k9 : Int) (by omega) (by omega)) mX3_neighbourOf wd377 wd748 rfl rfl (Nat.le_of_ble_eq_true rfl) ⟨Nat.le_of_ble_eq_true rfl, Nat.le_of_ble_eq_true rfl⟩ ⟨Nat.le_of_ble_eq_true rfl, Nat.le_of_ble_eq_true rfl⟩ rfl rfl dX3_isSameOrNeighbour_24 rfl ?_
          have n24 := nbr_b (k := k) (d := (k9 : Int)) (by omega)
          refine g_iload_n C dX3_isSameOrNeighbour_27 rfl 3 rfl ?_
          refine g_icmp_ne C dX3_isSameOrNeighbour_28 35 (by decide) rfl (by omega) (by omega) (fun c28 => ?_) (fun c28 => ?_)
          · skip
            refine g_iconst C dX3_isSameOrNeighbour_35 rfl ?_
            refine g_istore_n (lv' := [(2, .int (iI (0))), (3, .int (iI (k9 : Int))), (0, .int (iI k)), (1, .int (iI q))]) C dX3_isSameOrNeighbour_36 rfl (by decide) rfl ?_
            refine g_iinc (lv' := [(3, .int (iI ((k9 : Int) + 1))), (2, .int (iI (0))), (0, .int (iI k)), (1, .int (iI q))]) C dX3_isSameOrNeighbour_37 rfl 1 rfl (by decide) rfl ?_
            refine g_goto C dX3_isSameOrNeighbour_40 13 (by decide) ?_
            have e13 : (nearB k q) k9 x = (0) := by
              unfold nearB
              first | rfl | (rw [if_pos (by omega)]) | (rw [if_neg (by omega)])
            have i13 := ih13 (by omega)
            rw [show itr (nearB k q) (bI (k = q)) (k9 + 1) = (0) from by rw [← e13, hx13]; rfl] at i13
            exact g_to [0, 1, 2, 3] (i13) rfl rfl rfl
          · skip
            refine g_iconst C dX3_isSameOrNeighbour_31 rfl ?_
            refine g_goto C dX3_isSameOrNeighbour_32 36 (by decide) ?_
            refine g_istore_n (lv' := [(2, .int (iI (1))), (3, .int (iI (k9 : Int))), (0, .int (iI k)), (1, .int (iI q))]) C dX3_isSameOrNeighbour_36 rfl (by decide) rfl ?_
            refine g_iinc (lv' := [(3, .int (iI ((k9 : Int) + 1))), (2, .int (iI (1))), (0, .int (iI k)), (1, .int (iI q))]) C dX3_isSameOrNeighbour_37 rfl 1 rfl (by decide) rfl ?_
            refine g_goto C dX3_isSameOrNeighbour_40 13 (by decide) ?_
            have e13 : (nearB k q) k9 x = (1) := by
              unfold nearB
              first | rfl | (rw [if_pos (by omega)]) | (rw [if_neg (by omega)])
            have i13 := ih13 (by omega)
            rw [show itr (nearB k q) (bI (k = q)) (k9 + 1) = (1) from by rw [← e13, hx13]; rfl] at i13
            exact g_to [0, 1, 2, 3] (i13) rfl rfl rfl
    refine g_to [0, 1, 2, 3] (L13 0 (by omega)) rfl (by first | (rw [bI_t (by omega)]; rfl) | (rw [bI_f (by omega)]; rfl)) rfl
abbrev r_X3_lowestNeighbour : Room := { frames := 1, cells := 0, slots := 0, locals := 21 }
set_option maxHeartbeats 4000000 in
set_option maxRecDepth 100000 in
theorem k_X3_lowestNeighbour (l : Launch) (E : gE) (ad : Nat → Nat) (S : gS) (k : Int) (hS : okL S) (h : 0 ≤ k ∧ k < 80) : gK l E yX3_lowestNeighbour cX3_lowestNeighbour 5 (some .int) r_X3_lowestNeighbour [.ref (ad 1), .int (iI k)] (wT E ad S) (some (.int (iI (lowest (lev (S.1 2) (S.1 3) (S.1 4)) k)))) (wT E ad S) := by
  refine gK_by RX3 rfl mX3_lowestNeighbour [(0, .ref (ad 1)), (1, .int (iI k))] (Nat.le_of_ble_eq_true rfl) rfl ?_
  intro zp ze zs zm za zb zh zc zA zQ C Z
  refine g_iconst C dX3_lowestNeighbour_0 rfl ?_
  refine g_istore_n (lv' := [(2, .int (iI (-1))), (0, .ref (ad 1)), (1, .int (iI k))]) C dX3_lowestNeighbour_1 rfl (by decide) rfl ?_
  refine g_iconst C dX3_lowestNeighbour_2 rfl ?_
  refine g_istore_n (lv' := [(3, .int (iI (0))), (2, .int (iI (-1))), (0, .ref (ad 1)), (1, .int (iI k))]) C dX3_lowestNeighbour_3 rfl (by decide) rfl ?_
  have L4 : ∀ k9 : Nat, k9 ≤ 4 → gG E zp l ze r_X3_lowestNeighbour zs zm za zb zh zc zA 5 0 0 zQ (wT E ad S) 4 [(3, .int (iI (k9 : Int))), (2, .int (iI (itr (lowB (lev (S.1 2) (S.1 3) (S.1 4)) k) (-1) k9))), (0, .ref (ad 1)), (1, .int (iI k))] [] := by
    refine g_up (4) _ ?_
    intro k9 ih4 hk4
    have iv4_0 := low_b (lv := lev (S.1 2) (S.1 3) (S.1 4)) h k9
    obtain ⟨x, hx4⟩ : ∃ z, z = itr (lowB (lev (S.1 2) (S.1 3) (S.1 4)) k) (-1) k9 := ⟨_, rfl⟩
    rw [← hx4]
    rw [← hx4] at iv4_0
    refine g_iload_n C dX3_lowestNeighbour_4 rfl 0 rfl ?_
    refine g_iconst C dX3_lowestNeighbour_5 rfl ?_
    refine g_icmp_ge C dX3_lowestNeighbour_6 50 (by decide) rfl (by omega) (by omega) (fun c6 => ?_) (fun c6 => ?_)
    · skip
      have hz4 : x = lowest (lev (S.1 2) (S.1 3) (S.1 4)) k := by rw [hx4, show k9 = 4 from by omega] <;> rfl
      refine g_iload_n C dX3_lowestNeighbour_50 rfl 1 rfl ?_
      exact z_iret C Z rfl dX3_lowestNeighbour_51 (by exact congrArg (fun z => some (Value.int (iI z))) (hz4.symm)) rfl
    · skip
      refine g_iload_n C dX3_lowestNeighbour_9 rfl 3 rfl ?_
      refine g_iload_n C dX3_lowestNeighbour_10 rfl 0 rfl ?_
      refine g_callS1 (As := [.int (iI k), .int (iI (k9 : Int))]) (rv := some (.int (iI (nbr k (k9 : Int))))) (kc' := 0) (ks' := 0) C (k_X3_neighbourOf l E k (k9 : Int) (by omega) (by omega)) mX3_neighbourOf wd377 wd748 rfl rfl (Nat.le_of_ble_eq_true rfl) ⟨Nat.le_of_ble_eq_true rfl, Nat.le_of_ble_eq_true rfl⟩ ⟨Nat.le_of_ble_eq_true rfl, Nat.le_of_ble_eq_true rfl⟩ rfl rfl dX3_lowestNeighbour_11 rfl ?_
      have n11 := nbr_b (k := k) (d := (k9 : Int)) (by omega)
      refine g_istore (lv' := [(4, .int (iI (nbr k (k9 : Int)))), (3, .int (iI (k9 : Int))), (2, .int (iI x)), (0, .ref (ad 1)), (1, .int (iI k))]) C dX3_lowestNeighbour_14 rfl (by decide) rfl ?_
      refine g_iload C dX3_lowestNeighbour_16 rfl 0 rfl ?_
      refine g_iconst C dX3_lowestNeighbour_18 rfl ?_
      refine g_icmp_eq C dX3_lowestNeighbour_19 44 (by decide) rfl (by omega) (by omega) (fun c19 => ?_) (fun c19 => ?_)
      · skip
        refine g_iinc (lv' := [(3, .int (iI ((k9 : Int) + 1))), (4, .int (iI (nbr k (k9 : Int)))), (2, .int (iI x)), (0, .ref (ad 1)), (1, .int (iI k))]) C dX3_lowestNeighbour_44 rfl 1 rfl (by decide) rfl ?_
        refine g_goto C dX3_lowestNeighbour_47 4 (by decide) ?_
        have e4 : (lowB (lev (S.1 2) (S.1 3) (S.1 4)) k) k9 x = x := by
          unfold lowB
          first | (rw [if_pos (by omega)]) | (rw [if_neg (by omega)])
        have i4 := ih4 (by omega)
        rw [show itr (lowB (lev (S.1 2) (S.1 3) (S.1 4)) k) (-1) (k9 + 1) = x from by rw [← e4, hx4]; rfl] at i4
        exact g_to [0, 2, 3, 4] (i4) rfl rfl rfl
      · skip
        refine g_iload_n C dX3_lowestNeighbour_22 rfl 2 rfl ?_
        refine g_iconst C dX3_lowestNeighbour_23 rfl ?_
        refine g_icmp_eq C dX3_lowestNeighbour_24 41 (by decide) rfl (by omega) (by omega) (fun c24 => ?_) (fun c24 => ?_)
        · skip
          refine g_iload C dX3_lowestNeighbour_41 rfl 0 rfl ?_
          refine g_istore_n (lv' := [(2, .int (iI (nbr k (k9 : Int)))), (4, .int (iI (nbr k (k9 : Int)))), (3, .int (iI (k9 : Int))), (0, .ref (ad 1)), (1, .int (iI k))]) C dX3_lowestNeighbour_43 rfl (by decide) rfl ?_
          refine g_iinc (lv' := [(3, .int (iI ((k9 : Int) + 1))), (2, .int (iI (nbr k (k9 : Int)))), (4, .int (iI (nbr k (k9 : Int)))), (0, .ref (ad 1)), (1, .int (iI k))]) C dX3_lowestNeighbour_44 rfl 2 rfl (by decide) rfl ?_
          refine g_goto C dX3_lowestNeighbour_47 4 (by decide) ?_
          have e4 : (lowB (lev (S.1 2) (S.1 3) (S.1 4)) k) k9 x = (nbr k (k9 : Int)) := by
            unfold lowB
            first | (rw [if_pos (by omega)]) | (rw [if_neg (by omega)])
          have i4 := ih4 (by omega)
          rw [show itr (lowB (lev (S.1 2) (S.1 3) (S.1 4)) k) (-1) (k9 + 1) = (nbr k (k9 : Int)) from by rw [← e4, hx4]; rfl] at i4
          exact g_to [0, 1, 3, 4] (i4) rfl rfl rfl
        · skip
          refine g_aload_n C dX3_lowestNeighbour_27 rfl 3 rfl ?_
          refine g_iload C dX3_lowestNeighbour_28 rfl 0 rfl ?_
          refine g_callV0 (As := [.int (iI (nbr k (k9 : Int)))]) (rv := some (.int (iI ((lev (S.1 2) (S.1 3) (S.1 4)) (nbr k (k9 : Int)))))) (w1 := wT E ad S) (kc' := 0) (ks' := 0) C (k_X3_level l E ad S (nbr k (k9 : Int)) hS (by omega)) mX3_level iX3_level wd749 1 3 rfl rfl rfl rfl rfl (Nat.le_of_ble_eq_true rfl) ⟨Nat.le_of_ble_eq_true rfl, Nat.le_of_ble_eq_true rfl⟩ ⟨Nat.le_of_ble_eq_true rfl, Nat.le_of_ble_eq_true rfl⟩ rfl rfl dX3_lowestNeighbour_30 rfl ?_
          have n30 := lev_b hS.1 hS.2.1 hS.2.2 (nbr k (k9 : Int))
          refine g_aload_n C dX3_lowestNeighbour_33 rfl 3 rfl ?_
          refine g_iload_n C dX3_lowestNeighbour_34 rfl 2 rfl ?_
          refine g_callV0 (As := [.int (iI x)]) (rv := some (.int (iI ((lev (S.1 2) (S.1 3) (S.1 4)) x)))) (w1 := wT E ad S) (kc' := 0) (ks' := 0) C (k_X3_level l E ad S x hS (by omega)) mX3_level iX3_level wd749 1 3 rfl rfl rfl rfl rfl (Nat.le_of_ble_eq_true rfl) ⟨Nat.le_of_ble_eq_true rfl, Nat.le_of_ble_eq_true rfl⟩ ⟨Nat.le_of_ble_eq_true rfl, Nat.le_of_ble_eq_true rfl⟩ rfl rfl dX3_lowestNeighbour_35 rfl ?_
          have n35 := lev_b hS.1 hS.2.1 hS.2.2 x
          refine g_icmp_ge C dX3_lowestNeighbour_38 44 (by decide) rfl (by omega) (by omega) (fun c38 => ?_) (fun c38 => ?_)
          · skip
            refine g_iinc (lv' := [(3, .int (iI ((k9 : Int) + 1))), (4, .int (iI (nbr k (k9 : Int)))), (2, .int (iI x)), (0, .ref (ad 1)), (1, .int (iI k))]) C dX3_lowestNeighbour_44 rfl 1 rfl (by decide) rfl ?_
            refine g_goto C dX3_lowestNeighbour_47 4 (by decide) ?_
            have e4 : (lowB (lev (S.1 2) (S.1 3) (S.1 4)) k) k9 x = x := by
              unfold lowB
              first | (rw [if_pos (by omega)]) | (rw [if_neg (by omega)])
            have i4 := ih4 (by omega)
            rw [show itr (lowB (lev (S.1 2) (S.1 3) (S.1 4)) k) (-1) (k9 + 1) = x from by rw [← e4, hx4]; rfl] at i4
            exact g_to [0, 2, 3, 4] (i4) rfl rfl rfl
          · skip
            refine g_iload C dX3_lowestNeighbour_41 rfl 0 rfl ?_
            refine g_istore_n (lv' := [(2, .int (iI (nbr k (k9 : Int)))), (4, .int (iI (nbr k (k9 : Int)))), (3, .int (iI (k9 : Int))), (0, .ref (ad 1)), (1, .int (iI k))]) C dX3_lowestNeighbour_43 rfl (by decide) rfl ?_
            refine g_iinc (lv' := [(3, .int (iI ((k9 : Int) + 1))), (2, .int (iI (nbr k (k9 : Int)))), (4, .int (iI (nbr k (k9 : Int)))), (0, .ref (ad 1)), (1, .int (iI k))]) C dX3_lowestNeighbour_44 rfl 2 rfl (by decide) rfl ?_
            refine g_goto C dX3_lowestNeighbour_47 4 (by decide) ?_
            have e4 : (lowB (lev (S.1 2) (S.1 3) (S.1 4)) k) k9 x = (nbr k (k9 : Int)) := by
              unfold lowB
              first | (rw [if_pos (by omega)]) | (rw [if_neg (by omega)])
            have i4 := ih4 (by omega)
            rw [show itr (lowB (lev (S.1 2) (S.1 3) (S.1 4)) k) (-1) (k9 + 1) = (nbr k (k9 : Int)) from by rw [← e4, hx4]; rfl] at i4
            exact g_to [0, 1, 3, 4] (i4) rfl rfl rfl
  refine g_to [0, 1, 2, 3] (L4 0 (by omega)) rfl rfl rfl
abbrev r_X3_givenTo : Room := { frames := 1, cells := 0, slots := 0, locals := 21 }
set_option maxHeartbeats 4000000 in
set_option maxRecDepth 100000 in
theorem k_X3_givenTo (l : Launch) (E : gE) (ad : Nat → Nat) (S : gS) (lo k : Int) (hS : okL S) (hlo : 0 ≤ lo ∧ lo < 80) (h : 0 ≤ k ∧ k < 80) : gK l E yX3_givenTo cX3_givenTo 4 (some .int) r_X3_givenTo [.ref (ad 1), .int (iI lo), .int (iI k)] (wT E ad S) (some (.int (iI (givn (lev (S.1 2) (S.1 3) (S.1 4)) (S.1 4) lo k)))) (wT E ad S) := by
  refine gK_by RX3 rfl mX3_givenTo [(0, .ref (ad 1)), (1, .int (iI lo)), (2, .int (iI k))] (Nat.le_of_ble_eq_true rfl) rfl ?_
  intro zp ze zs zm za zb zh zc zA zQ C Z
  refine g_aload_n C dX3_givenTo_0 rfl 0 rfl ?_
  refine g_iload_n C dX3_givenTo_1 rfl 2 rfl ?_
  refine g_callV0 (As := [.int (iI k)]) (rv := some (.int (iI ((lev (S.1 2) (S.1 3) (S.1 4)) k)))) (w1 := wT E ad S) (kc' := 0) (ks' := 0) C (k_X3_level l E ad S k hS (by omega)) mX3_level iX3_level wd749 1 3 rfl rfl rfl rfl rfl (Nat.le_of_ble_eq_true rfl) ⟨Nat.le_of_ble_eq_true rfl, Nat.le_of_ble_eq_true rfl⟩ ⟨Nat.le_of_ble_eq_true rfl, Nat.le_of_ble_eq_true rfl⟩ rfl rfl dX3_givenTo_2 rfl ?_
  have n2 := lev_b hS.1 hS.2.1 hS.2.2 k
  refine g_aload_n C dX3_givenTo_5 rfl 0 rfl ?_
  refine g_iload_n C dX3_givenTo_6 rfl 1 rfl ?_
  refine g_callV0 (As := [.int (iI lo)]) (rv := some (.int (iI ((lev (S.1 2) (S.1 3) (S.1 4)) lo)))) (w1 := wT E ad S) (kc' := 0) (ks' := 0) C (k_X3_level l E ad S lo hS (by omega)) mX3_level iX3_level wd749 1 3 rfl rfl rfl rfl rfl (Nat.le_of_ble_eq_true rfl) ⟨Nat.le_of_ble_eq_true rfl, Nat.le_of_ble_eq_true rfl⟩ ⟨Nat.le_of_ble_eq_true rfl, Nat.le_of_ble_eq_true rfl⟩ rfl rfl dX3_givenTo_7 rfl ?_
  have n7 := lev_b hS.1 hS.2.1 hS.2.2 lo
  refine g_isub C dX3_givenTo_10 rfl ?_
  refine g_istore_n (lv' := [(3, .int (iI (((lev (S.1 2) (S.1 3) (S.1 4)) k) - ((lev (S.1 2) (S.1 3) (S.1 4)) lo)))), (0, .ref (ad 1)), (1, .int (iI lo)), (2, .int (iI k))]) C dX3_givenTo_11 rfl (by decide) rfl ?_
  refine g_iload_n C dX3_givenTo_12 rfl 0 rfl ?_
  refine g_if_le C dX3_givenTo_13 31 (by decide) rfl (by omega) (fun c13 => ?_) (fun c13 => ?_)
  · skip
    refine g_iconst C dX3_givenTo_31 rfl ?_
    exact z_iret C Z rfl dX3_givenTo_32 (by exact congrArg (fun z => some (Value.int (iI z))) (by unfold givn; first | (rw [if_pos (by omega)]) | (rw [if_neg (by omega)]))) rfl
  · skip
    refine g_iload_n C dX3_givenTo_16 rfl 0 rfl ?_
    refine g_iconst C dX3_givenTo_17 rfl ?_
    refine g_idiv C dX3_givenTo_18 rfl (by omega) (by omega) ?_
    refine g_aload_n C dX3_givenTo_19 rfl 1 rfl ?_
    refine g_get (v := .ref (ad 4)) (T := TX3) (N := 5) (ci := 3) C in_X3 1 rfl rfl 2 (by decide) wd47 (Or.inl rfl) rfl dX3_givenTo_20 rfl ?_
    refine g_iload_n C dX3_givenTo_23 rfl 3 rfl ?_
    refine g_iald (f := (S.1 4)) C dX3_givenTo_24 rfl 4 rfl (by omega) (by decide) ?_
    have b24 := hS.2.2 k
    have b24 := hS.2.2 k
    refine g_min2 C wd754 ⟨wd755, wd19, wd756⟩ (Nat.le_of_ble_eq_true rfl) (Nat.le_of_ble_eq_true rfl) ⟨Nat.le_of_ble_eq_true rfl, Nat.le_of_ble_eq_true rfl⟩ dX3_givenTo_25 rfl (by omega) (by omega) ?_
    refine g_goto C dX3_givenTo_28 32 (by decide) ?_
    exact z_iret C Z rfl dX3_givenTo_32 (by exact congrArg (fun z => some (Value.int (iI z))) (by unfold givn; first | (rw [if_pos (by omega)]) | (rw [if_neg (by omega)]))) rfl
abbrev r_X3_bagsInTown : Room := { frames := 0, cells := 0, slots := 0, locals := 0 }
set_option maxHeartbeats 4000000 in
set_option maxRecDepth 100000 in
theorem k_X3_bagsInTown (l : Launch) (E : gE) (ad : Nat → Nat) (S : gS) (hS : okL S) : gK l E yX3_bagsInTown cX3_bagsInTown 3 (some .int) r_X3_bagsInTown [.ref (ad 1)] (wT E ad S) (some (.int (iI (sm (S.1 3) 0 80)))) (wT E ad S) := by
  refine gK_by RX3 rfl mX3_bagsInTown [(0, .ref (ad 1))] (Nat.le_of_ble_eq_true rfl) rfl ?_
  intro zp ze zs zm za zb zh zc zA zQ C Z
  refine g_iconst C dX3_bagsInTown_0 rfl ?_
  refine g_istore_n (lv' := [(1, .int (iI (0))), (0, .ref (ad 1))]) C dX3_bagsInTown_1 rfl (by decide) rfl ?_
  refine g_iconst C dX3_bagsInTown_2 rfl ?_
  refine g_istore_n (lv' := [(2, .int (iI (0))), (1, .int (iI (0))), (0, .ref (ad 1))]) C dX3_bagsInTown_3 rfl (by decide) rfl ?_
  have L4 : ∀ k9 : Nat, k9 ≤ 80 → gG E zp l ze r_X3_bagsInTown zs zm za zb zh zc zA 3 0 0 zQ (wT E ad S) 4 [(2, .int (iI (k9 : Int))), (1, .int (iI (itr (smB (S.1 3) 0) 0 k9))), (0, .ref (ad 1))] [] := by
    refine g_up (80) _ ?_
    intro k9 ih4 hk4
    obtain ⟨x, hx4⟩ : ∃ z, z = itr (smB (S.1 3) 0) 0 k9 := ⟨_, rfl⟩
    rw [← hx4]
    refine g_iload_n C dX3_bagsInTown_4 rfl 0 rfl ?_
    refine g_bipush C dX3_bagsInTown_5 rfl rfl ?_
    refine g_icmp_ge C dX3_bagsInTown_7 25 (by decide) rfl (by omega) (by omega) (fun c7 => ?_) (fun c7 => ?_)
    · skip
      have hz4 : x = sm (S.1 3) 0 80 := by rw [hx4, show k9 = 80 from by omega] <;> rfl
      refine g_iload_n C dX3_bagsInTown_25 rfl 1 rfl ?_
      exact z_iret C Z rfl dX3_bagsInTown_26 (by exact congrArg (fun z => some (Value.int (iI z))) (hz4.symm)) rfl
    · skip
      refine g_iload_n C dX3_bagsInTown_10 rfl 1 rfl ?_
      refine g_aload_n C dX3_bagsInTown_11 rfl 2 rfl ?_
      refine g_get (v := .ref (ad 3)) (T := TX3) (N := 5) (ci := 3) C in_X3 1 rfl rfl 1 (by decide) wd44 (Or.inl rfl) rfl dX3_bagsInTown_12 rfl ?_
      refine g_iload_n C dX3_bagsInTown_15 rfl 0 rfl ?_
      refine g_iald (f := (S.1 3)) C dX3_bagsInTown_16 rfl 3 rfl (by omega) (by decide) ?_
      have b16 := hS.2.1 (k9 : Int)
      refine g_iadd C dX3_bagsInTown_17 rfl ?_
      refine g_istore_n (lv' := [(1, .int (iI (x + ((S.1 3) (k9 : Int))))), (2, .int (iI (k9 : Int))), (0, .ref (ad 1))]) C dX3_bagsInTown_18 rfl (by decide) rfl ?_
      refine g_iinc (lv' := [(2, .int (iI ((k9 : Int) + 1))), (1, .int (iI (x + ((S.1 3) (k9 : Int))))), (0, .ref (ad 1))]) C dX3_bagsInTown_19 rfl 1 rfl (by decide) rfl ?_
      refine g_goto C dX3_bagsInTown_22 4 (by decide) ?_
      have e4 : (smB (S.1 3) 0) k9 x = (x + ((S.1 3) (k9 : Int))) := by
        first | rfl | (simp [smB])
      have i4 := ih4 (by omega)
      rw [show itr (smB (S.1 3) 0) 0 (k9 + 1) = (x + ((S.1 3) (k9 : Int))) from by rw [← e4, hx4]; rfl] at i4
      exact g_to [0, 1, 2] (i4) rfl rfl rfl
  refine g_to [0, 1, 2] (L4 0 (by omega)) rfl rfl rfl
abbrev r_X3_waterInStreets : Room := { frames := 0, cells := 0, slots := 0, locals := 0 }
set_option maxHeartbeats 4000000 in
set_option maxRecDepth 100000 in
theorem k_X3_waterInStreets (l : Launch) (E : gE) (ad : Nat → Nat) (S : gS) (hS : okL S) : gK l E yX3_waterInStreets cX3_waterInStreets 3 (some .int) r_X3_waterInStreets [.ref (ad 1)] (wT E ad S) (some (.int (iI (sm (S.1 4) 10 70)))) (wT E ad S) := by
  refine gK_by RX3 rfl mX3_waterInStreets [(0, .ref (ad 1))] (Nat.le_of_ble_eq_true rfl) rfl ?_
  intro zp ze zs zm za zb zh zc zA zQ C Z
  refine g_iconst C dX3_waterInStreets_0 rfl ?_
  refine g_istore_n (lv' := [(1, .int (iI (0))), (0, .ref (ad 1))]) C dX3_waterInStreets_1 rfl (by decide) rfl ?_
  refine g_bipush C dX3_waterInStreets_2 rfl rfl ?_
  refine g_istore_n (lv' := [(2, .int (iI (10))), (1, .int (iI (0))), (0, .ref (ad 1))]) C dX3_waterInStreets_4 rfl (by decide) rfl ?_
  have L5 : ∀ k9 : Nat, k9 ≤ 70 → gG E zp l ze r_X3_waterInStreets zs zm za zb zh zc zA 3 0 0 zQ (wT E ad S) 5 [(2, .int (iI (10 + (k9 : Int)))), (1, .int (iI (itr (smB (S.1 4) 10) 0 k9))), (0, .ref (ad 1))] [] := by
    refine g_up (70) _ ?_
    intro k9 ih5 hk5
    obtain ⟨x, hx5⟩ : ∃ z, z = itr (smB (S.1 4) 10) 0 k9 := ⟨_, rfl⟩
    rw [← hx5]
    refine g_iload_n C dX3_waterInStreets_5 rfl 0 rfl ?_
    refine g_bipush C dX3_waterInStreets_6 rfl rfl ?_
    refine g_icmp_ge C dX3_waterInStreets_8 26 (by decide) rfl (by omega) (by omega) (fun c8 => ?_) (fun c8 => ?_)
    · skip
      have hz5 : x = sm (S.1 4) 10 70 := by rw [hx5, show k9 = 70 from by omega] <;> rfl
      refine g_iload_n C dX3_waterInStreets_26 rfl 1 rfl ?_
      exact z_iret C Z rfl dX3_waterInStreets_27 (by exact congrArg (fun z => some (Value.int (iI z))) (hz5.symm)) rfl
    · skip
      refine g_iload_n C dX3_waterInStreets_11 rfl 1 rfl ?_
      refine g_aload_n C dX3_waterInStreets_12 rfl 2 rfl ?_
      refine g_get (v := .ref (ad 4)) (T := TX3) (N := 5) (ci := 3) C in_X3 1 rfl rfl 2 (by decide) wd47 (Or.inl rfl) rfl dX3_waterInStreets_13 rfl ?_
      refine g_iload_n C dX3_waterInStreets_16 rfl 0 rfl ?_
      refine g_iald (f := (S.1 4)) C dX3_waterInStreets_17 rfl 4 rfl (by omega) (by decide) ?_
      have b17 := hS.2.2 (10 + (k9 : Int))
      refine g_iadd C dX3_waterInStreets_18 rfl ?_
      refine g_istore_n (lv' := [(1, .int (iI (x + ((S.1 4) (10 + (k9 : Int)))))), (2, .int (iI (10 + (k9 : Int)))), (0, .ref (ad 1))]) C dX3_waterInStreets_19 rfl (by decide) rfl ?_
      refine g_iinc (lv' := [(2, .int (iI ((10 + (k9 : Int)) + 1))), (1, .int (iI (x + ((S.1 4) (10 + (k9 : Int)))))), (0, .ref (ad 1))]) C dX3_waterInStreets_20 rfl 1 rfl (by decide) rfl ?_
      refine g_goto C dX3_waterInStreets_23 5 (by decide) ?_
      have e5 : (smB (S.1 4) 10) k9 x = (x + ((S.1 4) (10 + (k9 : Int)))) := by
        first | rfl | (simp [smB])
      have i5 := ih5 (by omega)
      rw [show itr (smB (S.1 4) 10) 0 (k9 + 1) = (x + ((S.1 4) (10 + (k9 : Int)))) from by rw [← e5, hx5]; rfl] at i5
      exact g_to [0, 1, 2] (i5) rfl rfl rfl
  refine g_to [0, 1, 2] (L5 0 (by omega)) rfl rfl rfl
abbrev r_J9_floorMod_7cf53 : Room := { frames := 0, cells := 0, slots := 0, locals := 0 }
set_option maxHeartbeats 4000000 in
set_option maxRecDepth 100000 in
theorem k_J9_floorMod_7cf53 (l : Launch) (E : gE) (a b : Int) (h : 0 ≤ a ∧ a ≤ 2147483647) (hb : 0 < b ∧ b ≤ 2147483647) : gK l E yJ9_floorMod_7cf53 cJ9_floorMod_7cf53 3 (some .int) r_J9_floorMod_7cf53 [.int (iI a), .int (iI b)] ([]) (some (.int (iI (a % b)))) ([]) := by
  refine gK_by RJ9 rfl mJ9_floorMod_7cf53 [(0, .int (iI a)), (1, .int (iI b))] (Nat.le_of_ble_eq_true rfl) rfl ?_
  intro zp ze zs zm za zb zh zc zA zQ C Z
  refine g_iload_n C dJ9_floorMod_7cf53_0 rfl 0 rfl ?_
  refine g_iload_n C dJ9_floorMod_7cf53_1 rfl 1 rfl ?_
  refine g_irem C dJ9_floorMod_7cf53_2 rfl (by omega) (by omega) ?_
  refine g_istore_n (lv' := [(2, .int (iI (a % b))), (0, .int (iI a)), (1, .int (iI b))]) C dJ9_floorMod_7cf53_3 rfl (by decide) rfl ?_
  refine g_iload_n C dJ9_floorMod_7cf53_4 rfl 1 rfl ?_
  refine g_iload_n C dJ9_floorMod_7cf53_5 rfl 2 rfl ?_
  refine g_ixor C dJ9_floorMod_7cf53_6 rfl (by omega) (by omega) (fun z6 hz6 => ?_)
  refine g_if_ge C dJ9_floorMod_7cf53_7 18 (by decide) rfl (by omega) (fun c7 => ?_) (fun c7 => ?_)
  · skip
    refine g_iload_n C dJ9_floorMod_7cf53_18 rfl 0 rfl ?_
    exact z_iret C Z rfl dJ9_floorMod_7cf53_19 rfl rfl
  · skip
    exact absurd hz6.1 c7
abbrev r_X3_rise : Room := { frames := 1, cells := 0, slots := 0, locals := 22 }
set_option maxHeartbeats 4000000 in
set_option maxRecDepth 100000 in
theorem k_X3_rise (l : Launch) (E : gE) (ad : Nat → Nat) (S : gS) (h : Int) (hh : 0 ≤ h ∧ h ≤ 2147483647) (hS : okT S) : gK l E yX3_rise cX3_rise 4 none r_X3_rise [.ref (ad 1), .int (iI h)] (wT E ad S) (none) (wT E ad (setA S 4 (rise (S.1 6) (S.1 4) h))) := by
  refine gK_by RX3 rfl mX3_rise [(0, .ref (ad 1)), (1, .int (iI h))] (Nat.le_of_ble_eq_true rfl) rfl ?_
  intro zp ze zs zm za zb zh zc zA zQ C Z
  refine g_aload_n C dX3_rise_0 rfl 0 rfl ?_
  refine g_get (v := .ref (ad 6)) (T := TX3) (N := 5) (ci := 3) C in_X3 1 rfl rfl 4 (by decide) wd53 (Or.inl rfl) rfl dX3_rise_1 rfl ?_
  refine g_iload_n C dX3_rise_4 rfl 1 rfl ?_
  refine g_bipush C dX3_rise_5 rfl rfl ?_
  refine g_callS1 (As := [.int (iI h), .int (iI (12))]) (rv := some (.int (iI (h % (12))))) (kc' := 0) (ks' := 0) C (k_J9_floorMod_7cf53 l E h (12) (by omega) (by omega)) mJ9_floorMod_7cf53 wd735 wd734 rfl rfl (Nat.le_of_ble_eq_true rfl) ⟨Nat.le_of_ble_eq_true rfl, Nat.le_of_ble_eq_true rfl⟩ ⟨Nat.le_of_ble_eq_true rfl, Nat.le_of_ble_eq_true rfl⟩ rfl rfl dX3_rise_7 rfl ?_
  refine g_iald (f := (S.1 6)) C dX3_rise_10 rfl 6 rfl (by omega) (by decide) ?_
  have b10 := okT_6 hS (h % (12))
  refine g_istore_n (lv' := [(2, .int (iI ((S.1 6) (h % (12))))), (0, .ref (ad 1)), (1, .int (iI h))]) C dX3_rise_11 rfl (by decide) rfl ?_
  refine g_iconst C dX3_rise_12 rfl ?_
  refine g_istore_n (lv' := [(3, .int (iI (0))), (2, .int (iI ((S.1 6) (h % (12))))), (0, .ref (ad 1)), (1, .int (iI h))]) C dX3_rise_13 rfl (by decide) rfl ?_
  have L14 : ∀ k9 : Nat, k9 ≤ 10 → gG E zp l ze r_X3_rise zs zm za zb zh zc zA 4 0 0 zQ (wT E ad (setA S 4 (itr (riseB (S.1 6 (h % 12))) (S.1 4) k9))) 14 [(3, .int (iI (k9 : Int))), (2, .int (iI ((S.1 6) (h % (12))))), (0, .ref (ad 1)), (1, .int (iI h))] [] := by
    refine g_up (10) _ ?_
    intro k9 ih14 hk14
    obtain ⟨x, hx14⟩ : ∃ z, z = itr (riseB (S.1 6 (h % 12))) (S.1 4) k9 := ⟨_, rfl⟩
    rw [← hx14]
    refine g_iload_n C dX3_rise_14 rfl 0 rfl ?_
    refine g_bipush C dX3_rise_15 rfl rfl ?_
    refine g_icmp_ge C dX3_rise_17 33 (by decide) rfl (by omega) (by omega) (fun c17 => ?_) (fun c17 => ?_)
    · skip
      have hz14 : x = rise (S.1 6) (S.1 4) h := by rw [hx14, show k9 = 10 from by omega] <;> rfl
      exact z_vret C Z dX3_rise_33 rfl (by rw [← hz14])
    · skip
      refine g_aload_n C dX3_rise_20 rfl 2 rfl ?_
      refine g_get (v := .ref (ad 4)) (T := TX3) (N := 5) (ci := 3) C in_X3 1 rfl rfl 2 (by decide) wd47 (Or.inl rfl) rfl dX3_rise_21 rfl ?_
      refine g_iload_n C dX3_rise_24 rfl 0 rfl ?_
      refine g_iload_n C dX3_rise_25 rfl 1 rfl ?_
      refine g_iast (f := x) (ws' := wT E ad (setA S 4 (fset x (k9 : Int) ((S.1 6) (h % (12)))))) C dX3_rise_26 rfl 4 rfl (by omega) (by decide) rfl ?_
      refine g_iinc (lv' := [(3, .int (iI ((k9 : Int) + 1))), (2, .int (iI ((S.1 6) (h % (12))))), (0, .ref (ad 1)), (1, .int (iI h))]) C dX3_rise_27 rfl 0 rfl (by decide) rfl ?_
      refine g_goto C dX3_rise_30 14 (by decide) ?_
      have e14 : (riseB (S.1 6 (h % 12))) k9 x = (fset x (k9 : Int) ((S.1 6) (h % (12)))) := by
        rfl
      have i14 := ih14 (by omega)
      rw [show itr (riseB (S.1 6 (h % 12))) (S.1 4) (k9 + 1) = (fset x (k9 : Int) ((S.1 6) (h % (12)))) from by rw [← e14, hx14]; rfl] at i14
      exact g_to [0, 1, 2, 3] (i14) rfl rfl rfl
  refine g_to [0, 1, 2, 3] (L14 0 (by omega)) rfl rfl rfl
abbrev r_X3_flow : Room := { frames := 2, cells := 0, slots := 0, locals := 45 }
set_option maxHeartbeats 4000000 in
set_option maxRecDepth 100000 in
theorem k_X3_flow (l : Launch) (E : gE) (ad : Nat → Nat) (S : gS) (hS : okT S) : gK l E yX3_flow cX3_flow 4 none r_X3_flow [.ref (ad 1)] (wT E ad S) (none) (wT E ad (flowS S)) := by
  refine gK_by RX3 rfl mX3_flow [(0, .ref (ad 1))] (Nat.le_of_ble_eq_true rfl) rfl ?_
  intro zp ze zs zm za zb zh zc zA zQ C Z
  refine g_aload_n C dX3_flow_0 rfl 0 rfl ?_
  refine g_get (v := .ref (ad 4)) (T := TX3) (N := 5) (ci := 3) C in_X3 1 rfl rfl 2 (by decide) wd47 (Or.inl rfl) rfl dX3_flow_1 rfl ?_
  refine g_iconst C dX3_flow_4 rfl ?_
  refine g_aload_n C dX3_flow_5 rfl 0 rfl ?_
  refine g_get (v := .ref (ad 5)) (T := TX3) (N := 5) (ci := 3) C in_X3 1 rfl rfl 3 (by decide) wd52 (Or.inl rfl) rfl dX3_flow_6 rfl ?_
  refine g_iconst C dX3_flow_9 rfl ?_
  refine g_bipush C dX3_flow_10 rfl rfl ?_
  refine g_copy (f := (S.1 4)) (g := (S.1 5)) (ws' := wT E ad (setA S 5 (fcpy (S.1 4) (S.1 5) (80)))) C wd741 ⟨wd743, wd742, wd20⟩ 4 5 rfl rfl (by omega) rfl (Nat.le_of_ble_eq_true rfl) (Nat.le_of_ble_eq_true rfl) dX3_flow_12 rfl ?_
  refine g_iconst C dX3_flow_15 rfl ?_
  refine g_istore_n (lv' := [(1, .int (iI (0))), (0, .ref (ad 1))]) C dX3_flow_16 rfl (by decide) rfl ?_
  have L17 : ∀ k9 : Nat, k9 ≤ 80 → gG E zp l ze r_X3_flow zs zm za zb zh zc zA 4 0 0 zQ (wT E ad (setA S 5 (itr (flowB (lev (S.1 2) (S.1 3) (S.1 4)) (S.1 4)) (fcpy (S.1 4) (S.1 5) 80) k9))) 17 [(1, .int (iI (k9 : Int))), (0, .ref (ad 1))] [] := by
    refine g_up (80) _ ?_
    intro k9 ih17 hk17
    have iv17_0 := flow_b (lv := (lev (S.1 2) (S.1 3) (S.1 4))) (okT_4 hS) (okT_5 hS) hk17
    obtain ⟨x, hx17⟩ : ∃ z, z = itr (flowB (lev (S.1 2) (S.1 3) (S.1 4)) (S.1 4)) (fcpy (S.1 4) (S.1 5) 80) k9 := ⟨_, rfl⟩
    rw [← hx17]
    rw [← hx17] at iv17_0
    refine g_iload_n C dX3_flow_17 rfl 0 rfl ?_
    refine g_bipush C dX3_flow_18 rfl rfl ?_
    refine g_icmp_ge C dX3_flow_20 67 (by decide) rfl (by omega) (by omega) (fun c20 => ?_) (fun c20 => ?_)
    · skip
      have hz17 : x = flow1 (lev (S.1 2) (S.1 3) (S.1 4)) (S.1 4) (S.1 5) := by rw [hx17, show k9 = 80 from by omega] <;> rfl
      refine g_iconst C dX3_flow_67 rfl ?_
      refine g_istore_n (lv' := [(1, .int (iI (0))), (0, .ref (ad 1))]) C dX3_flow_68 rfl (by decide) rfl ?_
      have L69 : ∀ k8 : Nat, k8 ≤ 80 → gG E zp l ze r_X3_flow zs zm za zb zh zc zA 4 0 0 zQ (wT E ad (setA (setA S 4 (itr (cutB x) (S.1 4) k8)) 5 x)) 69 [(1, .int (iI (k8 : Int))), (0, .ref (ad 1))] [] := by
        refine g_up (80) _ ?_
        intro k8 ih69 hk69
        obtain ⟨y, hx69⟩ : ∃ z, z = itr (cutB x) (S.1 4) k8 := ⟨_, rfl⟩
        rw [← hx69]
        refine g_iload_n C dX3_flow_69 rfl 0 rfl ?_
        refine g_bipush C dX3_flow_70 rfl rfl ?_
        refine g_icmp_ge C dX3_flow_72 98 (by decide) rfl (by omega) (by omega) (fun c72 => ?_) (fun c72 => ?_)
        · skip
          have hz69 : y = flow2 x (S.1 4) := by rw [hx69, show k8 = 80 from by omega] <;> rfl
          exact z_vret C Z dX3_flow_98 rfl (by rw [hz69, hz17]; rfl)
        · skip
          refine g_aload_n C dX3_flow_75 rfl 1 rfl ?_
          refine g_get (v := .ref (ad 4)) (T := TX3) (N := 5) (ci := 3) C in_X3 1 rfl rfl 2 (by decide) wd47 (Or.inl rfl) rfl dX3_flow_76 rfl ?_
          refine g_iload_n C dX3_flow_79 rfl 0 rfl ?_
          refine g_aload_n C dX3_flow_80 rfl 1 rfl ?_
          refine g_get (v := .ref (ad 5)) (T := TX3) (N := 5) (ci := 3) C in_X3 1 rfl rfl 3 (by decide) wd52 (Or.inl rfl) rfl dX3_flow_81 rfl ?_
          refine g_iload_n C dX3_flow_84 rfl 0 rfl ?_
          refine g_iald (f := x) C dX3_flow_85 rfl 5 rfl (by omega) (by decide) ?_
          have b85 := iv17_0 (k8 : Int)
          refine g_bipush C dX3_flow_86 rfl rfl ?_
          refine g_min2 C wd754 ⟨wd755, wd19, wd756⟩ (Nat.le_of_ble_eq_true rfl) (Nat.le_of_ble_eq_true rfl) ⟨Nat.le_of_ble_eq_true rfl, Nat.le_of_ble_eq_true rfl⟩ dX3_flow_88 rfl (by omega) (by omega) ?_
          refine g_iast (f := y) (ws' := wT E ad (setA (setA S 4 (fset y (k8 : Int) (min (x (k8 : Int)) (40)))) 5 x)) C dX3_flow_91 rfl 4 rfl (by omega) (by decide) rfl ?_
          refine g_iinc (lv' := [(1, .int (iI ((k8 : Int) + 1))), (0, .ref (ad 1))]) C dX3_flow_92 rfl 0 rfl (by decide) rfl ?_
          refine g_goto C dX3_flow_95 69 (by decide) ?_
          have e69 : (cutB x) k8 y = (fset y (k8 : Int) (min (x (k8 : Int)) (40))) := by
            rfl
          have i69 := ih69 (by omega)
          rw [show itr (cutB x) (S.1 4) (k8 + 1) = (fset y (k8 : Int) (min (x (k8 : Int)) (40))) from by rw [← e69, hx69]; rfl] at i69
          exact g_to [0, 1] (i69) rfl rfl rfl
      refine g_to [0, 1] (L69 0 (by omega)) rfl rfl rfl
    · skip
      refine g_aload_n C dX3_flow_23 rfl 1 rfl ?_
      refine g_iload_n C dX3_flow_24 rfl 0 rfl ?_
      refine g_callV0 (As := [.int (iI (k9 : Int))]) (rv := some (.int (iI (lowest (lev (S.1 2) (S.1 3) (S.1 4)) (k9 : Int))))) (w1 := wT E ad (setA S 5 x)) (kc' := 0) (ks' := 0) C (k_X3_lowestNeighbour l E ad (setA S 5 x) (k9 : Int) (okT_L (S := S) hS) (by omega)) mX3_lowestNeighbour iX3_lowestNeighbour wd744 1 3 rfl rfl rfl rfl rfl (Nat.le_of_ble_eq_true rfl) ⟨Nat.le_of_ble_eq_true rfl, Nat.le_of_ble_eq_true rfl⟩ ⟨Nat.le_of_ble_eq_true rfl, Nat.le_of_ble_eq_true rfl⟩ rfl rfl dX3_flow_25 rfl ?_
      have n25 := lowest_b (lv := (lev (S.1 2) (S.1 3) (S.1 4))) (p := (k9 : Int)) (by omega)
      refine g_istore_n (lv' := [(2, .int (iI (lowest (lev (S.1 2) (S.1 3) (S.1 4)) (k9 : Int)))), (1, .int (iI (k9 : Int))), (0, .ref (ad 1))]) C dX3_flow_28 rfl (by decide) rfl ?_
      refine g_iload_n C dX3_flow_29 rfl 0 rfl ?_
      refine g_iconst C dX3_flow_30 rfl ?_
      refine g_icmp_eq C dX3_flow_31 61 (by decide) rfl (by omega) (by omega) (fun c31 => ?_) (fun c31 => ?_)
      · skip
        refine g_iinc (lv' := [(1, .int (iI ((k9 : Int) + 1))), (2, .int (iI (lowest (lev (S.1 2) (S.1 3) (S.1 4)) (k9 : Int)))), (0, .ref (ad 1))]) C dX3_flow_61 rfl 1 rfl (by decide) rfl ?_
        refine g_goto C dX3_flow_64 17 (by decide) ?_
        have e17 : (flowB (lev (S.1 2) (S.1 3) (S.1 4)) (S.1 4)) k9 x = x := by
          unfold flowB
          first | (rw [if_pos (by omega)]) | (rw [if_neg (by omega)])
        have i17 := ih17 (by omega)
        rw [show itr (flowB (lev (S.1 2) (S.1 3) (S.1 4)) (S.1 4)) (fcpy (S.1 4) (S.1 5) 80) (k9 + 1) = x from by rw [← e17, hx17]; rfl] at i17
        exact g_to [0, 2] (i17) rfl rfl rfl
      · skip
        refine g_aload_n C dX3_flow_34 rfl 2 rfl ?_
        refine g_iload_n C dX3_flow_35 rfl 0 rfl ?_
        refine g_iload_n C dX3_flow_36 rfl 1 rfl ?_
        refine g_callV0 (As := [.int (iI (lowest (lev (S.1 2) (S.1 3) (S.1 4)) (k9 : Int))), .int (iI (k9 : Int))]) (rv := some (.int (iI (givn (lev (S.1 2) (S.1 3) (S.1 4)) (S.1 4) (lowest (lev (S.1 2) (S.1 3) (S.1 4)) (k9 : Int)) (k9 : Int))))) (w1 := wT E ad (setA S 5 x)) (kc' := 0) (ks' := 0) C (k_X3_givenTo l E ad (setA S 5 x) (lowest (lev (S.1 2) (S.1 3) (S.1 4)) (k9 : Int)) (k9 : Int) (okT_L (S := S) hS) (by omega) (by omega)) mX3_givenTo iX3_givenTo wd750 1 3 rfl rfl rfl rfl rfl (Nat.le_of_ble_eq_true rfl) ⟨Nat.le_of_ble_eq_true rfl, Nat.le_of_ble_eq_true rfl⟩ ⟨Nat.le_of_ble_eq_true rfl, Nat.le_of_ble_eq_true rfl⟩ rfl rfl dX3_flow_37 rfl ?_
        refine g_istore_n (lv' := [(3, .int (iI (givn (lev (S.1 2) (S.1 3) (S.1 4)) (S.1 4) (lowest (lev (S.1 2) (S.1 3) (S.1 4)) (k9 : Int)) (k9 : Int)))), (2, .int (iI (lowest (lev (S.1 2) (S.1 3) (S.1 4)) (k9 : Int)))), (1, .int (iI (k9 : Int))), (0, .ref (ad 1))]) C dX3_flow_40 rfl (by decide) rfl ?_
        refine g_aload_n C dX3_flow_41 rfl 3 rfl ?_
        refine g_get (v := .ref (ad 5)) (T := TX3) (N := 5) (ci := 3) C in_X3 1 rfl rfl 3 (by decide) wd52 (Or.inl rfl) rfl dX3_flow_42 rfl ?_
        refine g_iload_n C dX3_flow_45 rfl 2 rfl ?_
        refine g_dup2 C dX3_flow_46 rfl rfl rfl ?_
        refine g_iald (f := x) C dX3_flow_47 rfl 5 rfl (by omega) (by decide) ?_
        have b47 := iv17_0 (k9 : Int)
        refine g_iload_n C dX3_flow_48 rfl 0 rfl ?_
        refine g_isub C dX3_flow_49 rfl ?_
        refine g_iast (f := x) (ws' := wT E ad (setA S 5 (fset x (k9 : Int) ((x (k9 : Int)) - (givn (lev (S.1 2) (S.1 3) (S.1 4)) (S.1 4) (lowest (lev (S.1 2) (S.1 3) (S.1 4)) (k9 : Int)) (k9 : Int)))))) C dX3_flow_50 rfl 5 rfl (by omega) (by decide) rfl ?_
        refine g_aload_n C dX3_flow_51 rfl 3 rfl ?_
        refine g_get (v := .ref (ad 5)) (T := TX3) (N := 5) (ci := 3) C in_X3 1 rfl rfl 3 (by decide) wd52 (Or.inl rfl) rfl dX3_flow_52 rfl ?_
        refine g_iload_n C dX3_flow_55 rfl 1 rfl ?_
        refine g_dup2 C dX3_flow_56 rfl rfl rfl ?_
        refine g_iald (f := (fset x (k9 : Int) ((x (k9 : Int)) - (givn (lev (S.1 2) (S.1 3) (S.1 4)) (S.1 4) (lowest (lev (S.1 2) (S.1 3) (S.1 4)) (k9 : Int)) (k9 : Int))))) C dX3_flow_57 rfl 5 rfl (by omega) (by decide) ?_
        try have b57 := bnd_fset (f := x) (a := (k9 : Int)) (x := ((x (k9 : Int)) - (givn (lev (S.1 2) (S.1 3) (S.1 4)) (S.1 4) (lowest (lev (S.1 2) (S.1 3) (S.1 4)) (k9 : Int)) (k9 : Int)))) (iv17_0) (by omega) (lowest (lev (S.1 2) (S.1 3) (S.1 4)) (k9 : Int))
        refine g_iload_n C dX3_flow_58 rfl 0 rfl ?_
        refine g_iadd C dX3_flow_59 rfl ?_
        refine g_iast (f := (fset x (k9 : Int) ((x (k9 : Int)) - (givn (lev (S.1 2) (S.1 3) (S.1 4)) (S.1 4) (lowest (lev (S.1 2) (S.1 3) (S.1 4)) (k9 : Int)) (k9 : Int))))) (ws' := wT E ad (setA S 5 (fset (fset x (k9 : Int) ((x (k9 : Int)) - (givn (lev (S.1 2) (S.1 3) (S.1 4)) (S.1 4) (lowest (lev (S.1 2) (S.1 3) (S.1 4)) (k9 : Int)) (k9 : Int)))) (lowest (lev (S.1 2) (S.1 3) (S.1 4)) (k9 : Int)) (((fset x (k9 : Int) ((x (k9 : Int)) - (givn (lev (S.1 2) (S.1 3) (S.1 4)) (S.1 4) (lowest (lev (S.1 2) (S.1 3) (S.1 4)) (k9 : Int)) (k9 : Int)))) (lowest (lev (S.1 2) (S.1 3) (S.1 4)) (k9 : Int))) + (givn (lev (S.1 2) (S.1 3) (S.1 4)) (S.1 4) (lowest (lev (S.1 2) (S.1 3) (S.1 4)) (k9 : Int)) (k9 : Int)))))) C dX3_flow_60 rfl 5 rfl (by omega) (by decide) rfl ?_
        refine g_iinc (lv' := [(1, .int (iI ((k9 : Int) + 1))), (3, .int (iI (givn (lev (S.1 2) (S.1 3) (S.1 4)) (S.1 4) (lowest (lev (S.1 2) (S.1 3) (S.1 4)) (k9 : Int)) (k9 : Int)))), (2, .int (iI (lowest (lev (S.1 2) (S.1 3) (S.1 4)) (k9 : Int)))), (0, .ref (ad 1))]) C dX3_flow_61 rfl 2 rfl (by decide) rfl ?_
        refine g_goto C dX3_flow_64 17 (by decide) ?_
        have e17 : (flowB (lev (S.1 2) (S.1 3) (S.1 4)) (S.1 4)) k9 x = (fset (fset x (k9 : Int) ((x (k9 : Int)) - (givn (lev (S.1 2) (S.1 3) (S.1 4)) (S.1 4) (lowest (lev (S.1 2) (S.1 3) (S.1 4)) (k9 : Int)) (k9 : Int)))) (lowest (lev (S.1 2) (S.1 3) (S.1 4)) (k9 : Int)) (((fset x (k9 : Int) ((x (k9 : Int)) - (givn (lev (S.1 2) (S.1 3) (S.1 4)) (S.1 4) (lowest (lev (S.1 2) (S.1 3) (S.1 4)) (k9 : Int)) (k9 : Int)))) (lowest (lev (S.1 2) (S.1 3) (S.1 4)) (k9 : Int))) + (givn (lev (S.1 2) (S.1 3) (S.1 4)) (S.1 4) (lowest (lev (S.1 2) (S.1 3) (S.1 4)) (k9 : Int)) (k9 : Int)))) := by
          unfold flowB
          first | (rw [if_pos (by omega)]) | (rw [if_neg (by omega)])
        have i17 := ih17 (by omega)
        rw [show itr (flowB (lev (S.1 2) (S.1 3) (S.1 4)) (S.1 4)) (fcpy (S.1 4) (S.1 5) 80) (k9 + 1) = (fset (fset x (k9 : Int) ((x (k9 : Int)) - (givn (lev (S.1 2) (S.1 3) (S.1 4)) (S.1 4) (lowest (lev (S.1 2) (S.1 3) (S.1 4)) (k9 : Int)) (k9 : Int)))) (lowest (lev (S.1 2) (S.1 3) (S.1 4)) (k9 : Int)) (((fset x (k9 : Int) ((x (k9 : Int)) - (givn (lev (S.1 2) (S.1 3) (S.1 4)) (S.1 4) (lowest (lev (S.1 2) (S.1 3) (S.1 4)) (k9 : Int)) (k9 : Int)))) (lowest (lev (S.1 2) (S.1 3) (S.1 4)) (k9 : Int))) + (givn (lev (S.1 2) (S.1 3) (S.1 4)) (S.1 4) (lowest (lev (S.1 2) (S.1 3) (S.1 4)) (k9 : Int)) (k9 : Int)))) from by rw [← e17, hx17]; rfl] at i17
        exact g_to [0, 3] (i17) rfl rfl rfl
  refine g_to [0, 1] (L17 0 (by omega)) rfl rfl rfl
abbrev r_X3_wetStreets : Room := { frames := 0, cells := 0, slots := 0, locals := 0 }
set_option maxHeartbeats 4000000 in
set_option maxRecDepth 100000 in
theorem k_X3_wetStreets (l : Launch) (E : gE) (ad : Nat → Nat) (S : gS) (hS : okL S) : gK l E yX3_wetStreets cX3_wetStreets 3 (some .int) r_X3_wetStreets [.ref (ad 1)] (wT E ad S) (some (.int (iI (wet (S.1 4))))) (wT E ad S) := by
  refine gK_by RX3 rfl mX3_wetStreets [(0, .ref (ad 1))] (Nat.le_of_ble_eq_true rfl) rfl ?_
  intro zp ze zs zm za zb zh zc zA zQ C Z
  refine g_iconst C dX3_wetStreets_0 rfl ?_
  refine g_istore_n (lv' := [(1, .int (iI (0))), (0, .ref (ad 1))]) C dX3_wetStreets_1 rfl (by decide) rfl ?_
  refine g_bipush C dX3_wetStreets_2 rfl rfl ?_
  refine g_istore_n (lv' := [(2, .int (iI (10))), (1, .int (iI (0))), (0, .ref (ad 1))]) C dX3_wetStreets_4 rfl (by decide) rfl ?_
  have L5 : ∀ k9 : Nat, k9 ≤ 70 → gG E zp l ze r_X3_wetStreets zs zm za zb zh zc zA 3 0 0 zQ (wT E ad S) 5 [(2, .int (iI (10 + (k9 : Int)))), (1, .int (iI (itr (wetB (S.1 4)) 0 k9))), (0, .ref (ad 1))] [] := by
    refine g_up (70) _ ?_
    intro k9 ih5 hk5
    obtain ⟨x, hx5⟩ : ∃ z, z = itr (wetB (S.1 4)) 0 k9 := ⟨_, rfl⟩
    rw [← hx5]
    refine g_iload_n C dX3_wetStreets_5 rfl 0 rfl ?_
    refine g_bipush C dX3_wetStreets_6 rfl rfl ?_
    refine g_icmp_ge C dX3_wetStreets_8 34 (by decide) rfl (by omega) (by omega) (fun c8 => ?_) (fun c8 => ?_)
    · skip
      have hz5 : x = wet (S.1 4) := by rw [hx5, show k9 = 70 from by omega] <;> rfl
      refine g_iload_n C dX3_wetStreets_34 rfl 1 rfl ?_
      exact z_iret C Z rfl dX3_wetStreets_35 (by exact congrArg (fun z => some (Value.int (iI z))) (hz5.symm)) rfl
    · skip
      refine g_iload_n C dX3_wetStreets_11 rfl 1 rfl ?_
      refine g_aload_n C dX3_wetStreets_12 rfl 2 rfl ?_
      refine g_get (v := .ref (ad 4)) (T := TX3) (N := 5) (ci := 3) C in_X3 1 rfl rfl 2 (by decide) wd47 (Or.inl rfl) rfl dX3_wetStreets_13 rfl ?_
      refine g_iload_n C dX3_wetStreets_16 rfl 0 rfl ?_
      refine g_iald (f := (S.1 4)) C dX3_wetStreets_17 rfl 4 rfl (by omega) (by decide) ?_
      have b17 := hS.2.2 (10 + (k9 : Int))
      refine g_if_le C dX3_wetStreets_18 25 (by decide) rfl (by omega) (fun c18 => ?_) (fun c18 => ?_)
      · skip
        refine g_iconst C dX3_wetStreets_25 rfl ?_
        refine g_iadd C dX3_wetStreets_26 rfl ?_
        refine g_istore_n (lv' := [(1, .int (iI (x + (0)))), (2, .int (iI (10 + (k9 : Int)))), (0, .ref (ad 1))]) C dX3_wetStreets_27 rfl (by decide) rfl ?_
        refine g_iinc (lv' := [(2, .int (iI ((10 + (k9 : Int)) + 1))), (1, .int (iI (x + (0)))), (0, .ref (ad 1))]) C dX3_wetStreets_28 rfl 1 rfl (by decide) rfl ?_
        refine g_goto C dX3_wetStreets_31 5 (by decide) ?_
        have e5 : (wetB (S.1 4)) k9 x = (x + (0)) := by
          unfold wetB
          first | (rw [bI_t (by omega)]) | (rw [bI_f (by omega)])
        have i5 := ih5 (by omega)
        rw [show itr (wetB (S.1 4)) 0 (k9 + 1) = (x + (0)) from by rw [← e5, hx5]; rfl] at i5
        exact g_to [0, 1, 2] (i5) rfl rfl rfl
      · skip
        refine g_iconst C dX3_wetStreets_21 rfl ?_
        refine g_goto C dX3_wetStreets_22 26 (by decide) ?_
        refine g_iadd C dX3_wetStreets_26 rfl ?_
        refine g_istore_n (lv' := [(1, .int (iI (x + (1)))), (2, .int (iI (10 + (k9 : Int)))), (0, .ref (ad 1))]) C dX3_wetStreets_27 rfl (by decide) rfl ?_
        refine g_iinc (lv' := [(2, .int (iI ((10 + (k9 : Int)) + 1))), (1, .int (iI (x + (1)))), (0, .ref (ad 1))]) C dX3_wetStreets_28 rfl 1 rfl (by decide) rfl ?_
        refine g_goto C dX3_wetStreets_31 5 (by decide) ?_
        have e5 : (wetB (S.1 4)) k9 x = (x + (1)) := by
          unfold wetB
          first | (rw [bI_t (by omega)]) | (rw [bI_f (by omega)])
        have i5 := ih5 (by omega)
        rw [show itr (wetB (S.1 4)) 0 (k9 + 1) = (x + (1)) from by rw [← e5, hx5]; rfl] at i5
        exact g_to [0, 1, 2] (i5) rfl rfl rfl
  refine g_to [0, 1, 2] (L5 0 (by omega)) rfl rfl rfl
