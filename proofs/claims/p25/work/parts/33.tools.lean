abbrev r_X5_work : Room := { frames := 1, cells := 0, slots := 0, locals := 13 }
set_option maxHeartbeats 4000000 in
set_option maxRecDepth 100000 in
theorem k_X5_work (l : Launch) (E : gE) (ad : Nat → Nat) (S : gS) (hS : okT S) : gK l E yX5_work cX5_work 5 none r_X5_work [.ref (ad 7), .ref (ad 1)] (wT E ad S) (none) (wT E ad (workS S)) := by
  refine gK_by RX5 rfl mX5_work [(0, .ref (ad 7)), (1, .ref (ad 1))] (Nat.le_of_ble_eq_true rfl) rfl ?_
  intro zp ze zs zm za zb zh zc zA zQ C Z
  refine g_iconst C dX5_work_0 rfl ?_
  refine g_istore_n (lv' := [(2, .int (iI (0))), (0, .ref (ad 7)), (1, .ref (ad 1))]) C dX5_work_1 rfl (by decide) rfl ?_
  have L2 : ∀ k9 : Nat, k9 ≤ (S.2 1).toNat → gG E zp l ze r_X5_work zs zm za zb zh zc zA 5 0 0 zQ (wT E ad (setA (setA (setA S 4 ((pumpI S k9).1)) 10 ((pumpI S k9).2.2)) 12 ((pumpI S k9).2.1))) 2 [(2, .int (iI (k9 : Int))), (0, .ref (ad 7)), (1, .ref (ad 1))] [] := by
    refine g_up ((S.2 1).toNat) _ ?_
    intro k9 ih2 hk2
    have iv2_0 := pumpI_b hS k9
    obtain ⟨x, hx2⟩ : ∃ z, z = pumpI S k9 := ⟨_, rfl⟩
    rw [← hx2]
    rw [← hx2] at iv2_0
    have ff := okT_i1 hS
    refine g_iload_n C dX5_work_2 rfl 0 rfl ?_
    refine g_aload_n C dX5_work_3 rfl 1 rfl ?_
    refine g_get (v := .int (iI (S.2 1))) (T := TX5) (N := 6) (ci := 4) C in_X5 7 rfl rfl 1 (by decide) wd97 (Or.inr wd98) rfl dX5_work_4 rfl ?_
    have f4 := okT_i1 hS
    refine g_icmp_ge C dX5_work_7 98 (by decide) rfl (by omega) (by omega) (fun c7 => ?_) (fun c7 => ?_)
    · skip
      have hz2 : x = pumpI S (S.2 1).toNat := by rw [hx2, show k9 = (S.2 1).toNat from by omega] <;> rfl
      exact z_vret C Z dX5_work_98 rfl (by rw [hz2]; rfl)
    · skip
      refine g_aload_n C dX5_work_10 rfl 2 rfl ?_
      refine g_get (v := .ref (ad 4)) (T := TX3) (N := 5) (ci := 3) C in_X3 1 rfl rfl 2 (by decide) wd49 (Or.inl rfl) rfl dX5_work_11 rfl ?_
      refine g_aload_n C dX5_work_14 rfl 1 rfl ?_
      refine g_get (v := .ref (ad 8)) (T := TX5) (N := 6) (ci := 4) C in_X5 7 rfl rfl 0 (by decide) wd90 (Or.inr wd91) rfl dX5_work_15 rfl ?_
      refine g_iload_n C dX5_work_18 rfl 0 rfl ?_
      refine g_iald (f := (S.1 8)) C dX5_work_19 rfl 8 rfl (by omega) (by decide) ?_
      have b19 := okT_8 hS (k9 : Int)
      refine g_iald (f := x.1) C dX5_work_20 rfl 4 rfl (by omega) (by decide) ?_
      have b20 := iv2_0.1 ((S.1 8) (k9 : Int))
      refine g_istore_n (lv' := [(3, .int (iI (x.1 ((S.1 8) (k9 : Int))))), (2, .int (iI (k9 : Int))), (0, .ref (ad 7)), (1, .ref (ad 1))]) C dX5_work_21 rfl (by decide) rfl ?_
      refine g_aload_n C dX5_work_22 rfl 2 rfl ?_
      refine g_get (v := .ref (ad 11)) (T := TX5) (N := 6) (ci := 4) C in_X5 7 rfl rfl 4 (by decide) wd78 (Or.inl rfl) rfl dX5_work_23 rfl ?_
      refine g_iload_n C dX5_work_26 rfl 1 rfl ?_
      refine g_zald (f := (S.1 11)) C dX5_work_27 rfl 11 rfl (by omega) (by decide) ?_
      have b27 := okT_11 hS (k9 : Int)
      refine g_if_eq C dX5_work_28 92 (by decide) rfl (by omega) (fun c28 => ?_) (fun c28 => ?_)
      · skip
        refine g_iinc (lv' := [(2, .int (iI ((k9 : Int) + 1))), (3, .int (iI (x.1 ((S.1 8) (k9 : Int))))), (0, .ref (ad 7)), (1, .ref (ad 1))]) C dX5_work_92 rfl 1 rfl (by decide) rfl ?_
        refine g_goto C dX5_work_95 2 (by decide) ?_
        have e2 : (pumpB (S.1 8) (S.1 9) (S.1 11)) k9 x = (x.1, x.2.1, x.2.2) := by
          unfold pumpB
          first | (rw [if_pos (by omega)]) | (rw [if_neg (by omega)])
        have i2 := ih2 (by omega)
        rw [show pumpI S (k9 + 1) = (x.1, x.2.1, x.2.2) from by rw [← e2, hx2]; rfl] at i2
        exact g_to [0, 2, 3] (i2) rfl rfl rfl
      · skip
        refine g_aload_n C dX5_work_31 rfl 2 rfl ?_
        refine g_get (v := .ref (ad 10)) (T := TX5) (N := 6) (ci := 4) C in_X5 7 rfl rfl 3 (by decide) wd77 (Or.inl rfl) rfl dX5_work_32 rfl ?_
        refine g_iload_n C dX5_work_35 rfl 1 rfl ?_
        refine g_iald (f := x.2.2) C dX5_work_36 rfl 10 rfl (by omega) (by decide) ?_
        have b36 := iv2_0.2 (k9 : Int)
        refine g_if_le C dX5_work_37 92 (by decide) rfl (by omega) (fun c37 => ?_) (fun c37 => ?_)
        · skip
          refine g_iinc (lv' := [(2, .int (iI ((k9 : Int) + 1))), (3, .int (iI (x.1 ((S.1 8) (k9 : Int))))), (0, .ref (ad 7)), (1, .ref (ad 1))]) C dX5_work_92 rfl 1 rfl (by decide) rfl ?_
          refine g_goto C dX5_work_95 2 (by decide) ?_
          have e2 : (pumpB (S.1 8) (S.1 9) (S.1 11)) k9 x = (x.1, x.2.1, x.2.2) := by
            unfold pumpB
            first | (rw [if_pos (by omega)]) | (rw [if_neg (by omega)])
          have i2 := ih2 (by omega)
          rw [show pumpI S (k9 + 1) = (x.1, x.2.1, x.2.2) from by rw [← e2, hx2]; rfl] at i2
          exact g_to [0, 2, 3] (i2) rfl rfl rfl
        · skip
          refine g_iload_n C dX5_work_40 rfl 0 rfl ?_
          refine g_if_le C dX5_work_41 92 (by decide) rfl (by omega) (fun c41 => ?_) (fun c41 => ?_)
          · skip
            refine g_iinc (lv' := [(2, .int (iI ((k9 : Int) + 1))), (3, .int (iI (x.1 ((S.1 8) (k9 : Int))))), (0, .ref (ad 7)), (1, .ref (ad 1))]) C dX5_work_92 rfl 1 rfl (by decide) rfl ?_
            refine g_goto C dX5_work_95 2 (by decide) ?_
            have e2 : (pumpB (S.1 8) (S.1 9) (S.1 11)) k9 x = (x.1, x.2.1, x.2.2) := by
              unfold pumpB
              first | (rw [if_pos (by omega)]) | (rw [if_neg (by omega)])
            have i2 := ih2 (by omega)
            rw [show pumpI S (k9 + 1) = (x.1, x.2.1, x.2.2) from by rw [← e2, hx2]; rfl] at i2
            exact g_to [0, 2, 3] (i2) rfl rfl rfl
          · skip
            refine g_aload_n C dX5_work_44 rfl 2 rfl ?_
            refine g_get (v := .ref (ad 9)) (T := TX5) (N := 6) (ci := 4) C in_X5 7 rfl rfl 2 (by decide) wd76 (Or.inl rfl) rfl dX5_work_45 rfl ?_
            refine g_iload_n C dX5_work_48 rfl 1 rfl ?_
            refine g_iald (f := (S.1 9)) C dX5_work_49 rfl 9 rfl (by omega) (by decide) ?_
            have b49 := okT_9 hS (k9 : Int)
            refine g_iload_n C dX5_work_50 rfl 0 rfl ?_
            refine g_min2 C wd761 ⟨wd755, wd19, wd756⟩ (Nat.le_of_ble_eq_true rfl) (Nat.le_of_ble_eq_true rfl) ⟨Nat.le_of_ble_eq_true rfl, Nat.le_of_ble_eq_true rfl⟩ dX5_work_51 rfl (by omega) (by omega) ?_
            refine g_istore (lv' := [(4, .int (iI (min ((S.1 9) (k9 : Int)) (x.1 ((S.1 8) (k9 : Int)))))), (3, .int (iI (x.1 ((S.1 8) (k9 : Int))))), (2, .int (iI (k9 : Int))), (0, .ref (ad 7)), (1, .ref (ad 1))]) C dX5_work_54 rfl (by decide) rfl ?_
            refine g_aload_n C dX5_work_56 rfl 4 rfl ?_
            refine g_get (v := .ref (ad 4)) (T := TX3) (N := 5) (ci := 3) C in_X3 1 rfl rfl 2 (by decide) wd49 (Or.inl rfl) rfl dX5_work_57 rfl ?_
            refine g_aload_n C dX5_work_60 rfl 3 rfl ?_
            refine g_get (v := .ref (ad 8)) (T := TX5) (N := 6) (ci := 4) C in_X5 7 rfl rfl 0 (by decide) wd90 (Or.inr wd91) rfl dX5_work_61 rfl ?_
            refine g_iload_n C dX5_work_64 rfl 2 rfl ?_
            refine g_iald (f := (S.1 8)) C dX5_work_65 rfl 8 rfl (by omega) (by decide) ?_
            have b65 := okT_8 hS (k9 : Int)
            refine g_iload_n C dX5_work_66 rfl 1 rfl ?_
            refine g_iload C dX5_work_67 rfl 0 rfl ?_
            refine g_isub C dX5_work_69 rfl ?_
            refine g_iast (f := x.1) (ws' := wT E ad (setA (setA (setA S 4 (fset x.1 ((S.1 8) (k9 : Int)) ((x.1 ((S.1 8) (k9 : Int))) - (min ((S.1 9) (k9 : Int)) (x.1 ((S.1 8) (k9 : Int))))))) 10 x.2.2) 12 x.2.1)) C dX5_work_70 rfl 4 rfl (by omega) (by decide) rfl ?_
            refine g_aload_n C dX5_work_71 rfl 3 rfl ?_
            refine g_get (v := .ref (ad 12)) (T := TX5) (N := 6) (ci := 4) C in_X5 7 rfl rfl 5 (by decide) wd80 (Or.inl rfl) rfl dX5_work_72 rfl ?_
            refine g_iload_n C dX5_work_75 rfl 2 rfl ?_
            refine g_dup2 C dX5_work_76 rfl rfl rfl ?_
            refine g_iald (f := x.2.1) C dX5_work_77 rfl 12 rfl (by omega) (by decide) ?_
            refine g_iload C dX5_work_78 rfl 0 rfl ?_
            refine g_iadd C dX5_work_80 rfl ?_
            refine g_iast (f := x.2.1) (ws' := wT E ad (setA (setA (setA S 4 (fset x.1 ((S.1 8) (k9 : Int)) ((x.1 ((S.1 8) (k9 : Int))) - (min ((S.1 9) (k9 : Int)) (x.1 ((S.1 8) (k9 : Int))))))) 10 x.2.2) 12 (fset x.2.1 (k9 : Int) ((x.2.1 (k9 : Int)) + (min ((S.1 9) (k9 : Int)) (x.1 ((S.1 8) (k9 : Int)))))))) C dX5_work_81 rfl 12 rfl (by omega) (by decide) rfl ?_
            refine g_aload_n C dX5_work_82 rfl 3 rfl ?_
            refine g_get (v := .ref (ad 10)) (T := TX5) (N := 6) (ci := 4) C in_X5 7 rfl rfl 3 (by decide) wd77 (Or.inl rfl) rfl dX5_work_83 rfl ?_
            refine g_iload_n C dX5_work_86 rfl 2 rfl ?_
            refine g_dup2 C dX5_work_87 rfl rfl rfl ?_
            refine g_iald (f := x.2.2) C dX5_work_88 rfl 10 rfl (by omega) (by decide) ?_
            have b88 := iv2_0.2 (k9 : Int)
            refine g_iconst C dX5_work_89 rfl ?_
            refine g_isub C dX5_work_90 rfl ?_
            refine g_iast (f := x.2.2) (ws' := wT E ad (setA (setA (setA S 4 (fset x.1 ((S.1 8) (k9 : Int)) ((x.1 ((S.1 8) (k9 : Int))) - (min ((S.1 9) (k9 : Int)) (x.1 ((S.1 8) (k9 : Int))))))) 10 (fset x.2.2 (k9 : Int) ((x.2.2 (k9 : Int)) - (1)))) 12 (fset x.2.1 (k9 : Int) ((x.2.1 (k9 : Int)) + (min ((S.1 9) (k9 : Int)) (x.1 ((S.1 8) (k9 : Int)))))))) C dX5_work_91 rfl 10 rfl (by omega) (by decide) rfl ?_
            refine g_iinc (lv' := [(2, .int (iI ((k9 : Int) + 1))), (4, .int (iI (min ((S.1 9) (k9 : Int)) (x.1 ((S.1 8) (k9 : Int)))))), (3, .int (iI (x.1 ((S.1 8) (k9 : Int))))), (0, .ref (ad 7)), (1, .ref (ad 1))]) C dX5_work_92 rfl 2 rfl (by decide) rfl ?_
            refine g_goto C dX5_work_95 2 (by decide) ?_
            have e2 : (pumpB (S.1 8) (S.1 9) (S.1 11)) k9 x = ((fset x.1 ((S.1 8) (k9 : Int)) ((x.1 ((S.1 8) (k9 : Int))) - (min ((S.1 9) (k9 : Int)) (x.1 ((S.1 8) (k9 : Int)))))), (fset x.2.1 (k9 : Int) ((x.2.1 (k9 : Int)) + (min ((S.1 9) (k9 : Int)) (x.1 ((S.1 8) (k9 : Int)))))), (fset x.2.2 (k9 : Int) ((x.2.2 (k9 : Int)) - (1)))) := by
              unfold pumpB
              first | (rw [if_pos (by omega)]) | (rw [if_neg (by omega)])
            have i2 := ih2 (by omega)
            rw [show pumpI S (k9 + 1) = ((fset x.1 ((S.1 8) (k9 : Int)) ((x.1 ((S.1 8) (k9 : Int))) - (min ((S.1 9) (k9 : Int)) (x.1 ((S.1 8) (k9 : Int)))))), (fset x.2.1 (k9 : Int) ((x.2.1 (k9 : Int)) + (min ((S.1 9) (k9 : Int)) (x.1 ((S.1 8) (k9 : Int)))))), (fset x.2.2 (k9 : Int) ((x.2.2 (k9 : Int)) - (1)))) from by rw [← e2, hx2]; rfl] at i2
            exact g_to [0, 3, 4] (i2) rfl rfl rfl
  refine g_to [0, 1, 2] (L2 0 (by omega)) rfl rfl rfl
abbrev r_X5_fuelOfAll : Room := { frames := 0, cells := 0, slots := 0, locals := 0 }
set_option maxHeartbeats 4000000 in
set_option maxRecDepth 100000 in
theorem k_X5_fuelOfAll (l : Launch) (E : gE) (ad : Nat → Nat) (S : gS) (hS : okT S) : gK l E yX5_fuelOfAll cX5_fuelOfAll 3 (some .int) r_X5_fuelOfAll [.ref (ad 7)] (wT E ad S) (some (.int (iI (sm (S.1 10) 0 (S.2 1).toNat)))) (wT E ad S) := by
  refine gK_by RX5 rfl mX5_fuelOfAll [(0, .ref (ad 7))] (Nat.le_of_ble_eq_true rfl) rfl ?_
  intro zp ze zs zm za zb zh zc zA zQ C Z
  refine g_iconst C dX5_fuelOfAll_0 rfl ?_
  refine g_istore_n (lv' := [(1, .int (iI (0))), (0, .ref (ad 7))]) C dX5_fuelOfAll_1 rfl (by decide) rfl ?_
  refine g_iconst C dX5_fuelOfAll_2 rfl ?_
  refine g_istore_n (lv' := [(2, .int (iI (0))), (1, .int (iI (0))), (0, .ref (ad 7))]) C dX5_fuelOfAll_3 rfl (by decide) rfl ?_
  have L4 : ∀ k9 : Nat, k9 ≤ (S.2 1).toNat → gG E zp l ze r_X5_fuelOfAll zs zm za zb zh zc zA 3 0 0 zQ (wT E ad S) 4 [(2, .int (iI (k9 : Int))), (1, .int (iI (itr (smB (S.1 10) 0) 0 k9))), (0, .ref (ad 7))] [] := by
    refine g_up ((S.2 1).toNat) _ ?_
    intro k9 ih4 hk4
    obtain ⟨x, hx4⟩ : ∃ z, z = itr (smB (S.1 10) 0) 0 k9 := ⟨_, rfl⟩
    rw [← hx4]
    have ff := okT_i1 hS
    refine g_iload_n C dX5_fuelOfAll_4 rfl 0 rfl ?_
    refine g_aload_n C dX5_fuelOfAll_5 rfl 2 rfl ?_
    refine g_get (v := .int (iI (S.2 1))) (T := TX5) (N := 6) (ci := 4) C in_X5 7 rfl rfl 1 (by decide) wd97 (Or.inr wd98) rfl dX5_fuelOfAll_6 rfl ?_
    have f6 := okT_i1 hS
    refine g_icmp_ge C dX5_fuelOfAll_9 27 (by decide) rfl (by omega) (by omega) (fun c9 => ?_) (fun c9 => ?_)
    · skip
      have hz4 : x = sm (S.1 10) 0 (S.2 1).toNat := by rw [hx4, show k9 = (S.2 1).toNat from by omega] <;> rfl
      refine g_iload_n C dX5_fuelOfAll_27 rfl 1 rfl ?_
      exact z_iret C Z rfl dX5_fuelOfAll_28 (by exact congrArg (fun z => some (Value.int (iI z))) (hz4.symm)) rfl
    · skip
      refine g_iload_n C dX5_fuelOfAll_12 rfl 1 rfl ?_
      refine g_aload_n C dX5_fuelOfAll_13 rfl 2 rfl ?_
      refine g_get (v := .ref (ad 10)) (T := TX5) (N := 6) (ci := 4) C in_X5 7 rfl rfl 3 (by decide) wd77 (Or.inl rfl) rfl dX5_fuelOfAll_14 rfl ?_
      refine g_iload_n C dX5_fuelOfAll_17 rfl 0 rfl ?_
      refine g_iald (f := (S.1 10)) C dX5_fuelOfAll_18 rfl 10 rfl (by omega) (by decide) ?_
      have b18 := okT_10 hS (k9 : Int)
      refine g_iadd C dX5_fuelOfAll_19 rfl ?_
      refine g_istore_n (lv' := [(1, .int (iI (x + ((S.1 10) (k9 : Int))))), (2, .int (iI (k9 : Int))), (0, .ref (ad 7))]) C dX5_fuelOfAll_20 rfl (by decide) rfl ?_
      refine g_iinc (lv' := [(2, .int (iI ((k9 : Int) + 1))), (1, .int (iI (x + ((S.1 10) (k9 : Int))))), (0, .ref (ad 7))]) C dX5_fuelOfAll_21 rfl 1 rfl (by decide) rfl ?_
      refine g_goto C dX5_fuelOfAll_24 4 (by decide) ?_
      have e4 : (smB (S.1 10) 0) k9 x = (x + ((S.1 10) (k9 : Int))) := by
        first | rfl | (simp [smB])
      have i4 := ih4 (by omega)
      rw [show itr (smB (S.1 10) 0) 0 (k9 + 1) = (x + ((S.1 10) (k9 : Int))) from by rw [← e4, hx4]; rfl] at i4
      exact g_to [0, 1, 2] (i4) rfl rfl rfl
  refine g_to [0, 1, 2] (L4 0 (by omega)) rfl rfl rfl
abbrev r_X5_setUp : Room := { frames := 0, cells := 0, slots := 0, locals := 0 }
set_option maxHeartbeats 4000000 in
set_option maxRecDepth 100000 in
theorem k_X5_setUp (l : Launch) (E : gE) (ad : Nat → Nat) (S : gS) (q pw fu : Int) (hS : okT S) (hn : S.2 1 < 5) : gK l E yX5_setUp cX5_setUp 5 (some .int) r_X5_setUp [.ref (ad 7), .int (iI q), .int (iI pw), .int (iI fu)] (wT E ad S) (some (.int (iI (S.2 1)))) (wT E ad (setUpS S q pw fu)) := by
  refine gK_by RX5 rfl mX5_setUp [(0, .ref (ad 7)), (1, .int (iI q)), (2, .int (iI pw)), (3, .int (iI fu))] (Nat.le_of_ble_eq_true rfl) rfl ?_
  intro zp ze zs zm za zb zh zc zA zQ C Z
  refine g_aload_n C dX5_setUp_0 rfl 0 rfl ?_
  refine g_get (v := .int (iI (S.2 1))) (T := TX5) (N := 6) (ci := 4) C in_X5 7 rfl rfl 1 (by decide) wd97 (Or.inr wd98) rfl dX5_setUp_1 rfl ?_
  have f1 := okT_i1 hS
  refine g_istore (lv' := [(4, .int (iI (S.2 1))), (0, .ref (ad 7)), (1, .int (iI q)), (2, .int (iI pw)), (3, .int (iI fu))]) C dX5_setUp_4 rfl (by decide) rfl ?_
  refine g_aload_n C dX5_setUp_6 rfl 1 rfl ?_
  refine g_get (v := .ref (ad 8)) (T := TX5) (N := 6) (ci := 4) C in_X5 7 rfl rfl 0 (by decide) wd90 (Or.inr wd91) rfl dX5_setUp_7 rfl ?_
  refine g_iload C dX5_setUp_10 rfl 0 rfl ?_
  refine g_iload_n C dX5_setUp_12 rfl 2 rfl ?_
  refine g_iast (f := (S.1 8)) (ws' := wT E ad (setA S 8 (fset (S.1 8) (S.2 1) q))) C dX5_setUp_13 rfl 8 rfl (by omega) (by decide) rfl ?_
  refine g_aload_n C dX5_setUp_14 rfl 1 rfl ?_
  refine g_get (v := .ref (ad 9)) (T := TX5) (N := 6) (ci := 4) C in_X5 7 rfl rfl 2 (by decide) wd76 (Or.inl rfl) rfl dX5_setUp_15 rfl ?_
  refine g_iload C dX5_setUp_18 rfl 0 rfl ?_
  refine g_iload_n C dX5_setUp_20 rfl 3 rfl ?_
  refine g_iast (f := (S.1 9)) (ws' := wT E ad (setA (setA S 8 (fset (S.1 8) (S.2 1) q)) 9 (fset (S.1 9) (S.2 1) pw))) C dX5_setUp_21 rfl 9 rfl (by omega) (by decide) rfl ?_
  refine g_aload_n C dX5_setUp_22 rfl 1 rfl ?_
  refine g_get (v := .ref (ad 10)) (T := TX5) (N := 6) (ci := 4) C in_X5 7 rfl rfl 3 (by decide) wd77 (Or.inl rfl) rfl dX5_setUp_23 rfl ?_
  refine g_iload C dX5_setUp_26 rfl 0 rfl ?_
  refine g_iload_n C dX5_setUp_28 rfl 4 rfl ?_
  refine g_iast (f := (S.1 10)) (ws' := wT E ad (setA (setA (setA S 8 (fset (S.1 8) (S.2 1) q)) 9 (fset (S.1 9) (S.2 1) pw)) 10 (fset (S.1 10) (S.2 1) fu))) C dX5_setUp_29 rfl 10 rfl (by omega) (by decide) rfl ?_
  refine g_aload_n C dX5_setUp_30 rfl 1 rfl ?_
  refine g_get (v := .ref (ad 11)) (T := TX5) (N := 6) (ci := 4) C in_X5 7 rfl rfl 4 (by decide) wd78 (Or.inl rfl) rfl dX5_setUp_31 rfl ?_
  refine g_iload C dX5_setUp_34 rfl 0 rfl ?_
  refine g_iconst C dX5_setUp_36 rfl ?_
  refine g_zast (f := (S.1 11)) (ws' := wT E ad (setA (setA (setA (setA S 8 (fset (S.1 8) (S.2 1) q)) 9 (fset (S.1 9) (S.2 1) pw)) 10 (fset (S.1 10) (S.2 1) fu)) 11 (fset (S.1 11) (S.2 1) (1)))) C dX5_setUp_37 rfl 11 rfl (by omega) (by decide) (by omega) rfl ?_
  refine g_aload_n C dX5_setUp_38 rfl 1 rfl ?_
  refine g_dup C dX5_setUp_39 rfl rfl ?_
  refine g_get (v := .int (iI (S.2 1))) (T := TX5) (N := 6) (ci := 4) C in_X5 7 rfl rfl 1 (by decide) wd97 (Or.inr wd98) rfl dX5_setUp_40 rfl ?_
  have f40 := okT_i1 hS
  refine g_iconst C dX5_setUp_43 rfl ?_
  refine g_iadd C dX5_setUp_44 rfl ?_
  refine g_put (T := TX5) (N := 6) (ci := 4) (ws' := wT E ad (setI (setA (setA (setA (setA S 8 (fset (S.1 8) (S.2 1) q)) 9 (fset (S.1 9) (S.2 1) pw)) 10 (fset (S.1 10) (S.2 1) fu)) 11 (fset (S.1 11) (S.2 1) (1))) 1 ((S.2 1) + (1)))) C in_X5 tyX5 tyX5_ok nmX5 7 rfl rfl 1 (by decide) wd97 (Or.inr wd98) rfl (ty := .int) (by decide +kernel) rfl rfl (Nat.le_of_ble_eq_true rfl) rfl dX5_setUp_45 rfl ?_
  refine g_iload C dX5_setUp_48 rfl 0 rfl ?_
  exact z_iret C Z rfl dX5_setUp_50 rfl rfl
abbrev r_X5_tell : Room := { frames := 1, cells := 0, slots := 0, locals := 21 }
set_option maxHeartbeats 4000000 in
set_option maxRecDepth 100000 in
theorem k_X5_tell (l : Launch) (E : gE) (ad : Nat → Nat) (S : gS) (k wh : Int) (hS : okT S) (hk : 0 ≤ k ∧ k < 5) (hw : -2147483648 ≤ wh ∧ wh ≤ 2147483647) : gK l E yX5_tell cX5_tell 3 (some .int) r_X5_tell [.ref (ad 7), .int (iI k), .int (iI wh)] (wT E ad S) (some (.int (iI (pTell S k wh)))) (wT E ad S) := by
  refine gK_by RX5 rfl mX5_tell [(0, .ref (ad 7)), (1, .int (iI k)), (2, .int (iI wh))] (Nat.le_of_ble_eq_true rfl) rfl ?_
  intro zp ze zs zm za zb zh zc zA zQ C Z
  refine g_iload_n C dX5_tell_0 rfl 2 rfl ?_
  by_cases c1_0 : wh = 0
  · refine g_tableIn C dX5_tell_1 36 0 c1_0 (by omega) (by decide) (by decide) rfl (by decide) ?_
    refine g_aload_n C dX5_tell_36 rfl 0 rfl ?_
    refine g_iload_n C dX5_tell_37 rfl 1 rfl ?_
    refine g_callU0 (As := [.int (iI k)]) (rv := some (.int (iI ((S.1 8) k % 10)))) (w1 := wT E ad S) (kc' := 0) (ks' := 0) C "FloodWardens$Numbered" RX5 (k_X4_xOf_X5 l E ad S k hS (by omega)) mX4_xOf ⟨wd322, wd321, wd319⟩ rfl (by decide +kernel) wd318 7 4 rfl rfl rfl rfl rfl (Nat.le_of_ble_eq_true rfl) ⟨Nat.le_of_ble_eq_true rfl, Nat.le_of_ble_eq_true rfl⟩ ⟨Nat.le_of_ble_eq_true rfl, Nat.le_of_ble_eq_true rfl⟩ rfl rfl dX5_tell_38 rfl ?_
    exact z_iret C Z rfl dX5_tell_41 (by exact congrArg (fun z => some (Value.int (iI z))) (by unfold pTell bI; (repeat' split) <;> first | rfl | omega)) rfl
  by_cases c1_1 : wh = 1
  · refine g_tableIn C dX5_tell_1 42 1 c1_1 (by omega) (by decide) (by decide) rfl (by decide) ?_
    refine g_aload_n C dX5_tell_42 rfl 0 rfl ?_
    refine g_iload_n C dX5_tell_43 rfl 1 rfl ?_
    refine g_callU0 (As := [.int (iI k)]) (rv := some (.int (iI ((S.1 8) k / 10)))) (w1 := wT E ad S) (kc' := 0) (ks' := 0) C "FloodWardens$Numbered" RX5 (k_X4_yOf_X5 l E ad S k hS (by omega)) mX4_yOf ⟨wd328, wd327, wd325⟩ rfl (by decide +kernel) wd324 7 4 rfl rfl rfl rfl rfl (Nat.le_of_ble_eq_true rfl) ⟨Nat.le_of_ble_eq_true rfl, Nat.le_of_ble_eq_true rfl⟩ ⟨Nat.le_of_ble_eq_true rfl, Nat.le_of_ble_eq_true rfl⟩ rfl rfl dX5_tell_44 rfl ?_
    exact z_iret C Z rfl dX5_tell_47 (by exact congrArg (fun z => some (Value.int (iI z))) (by unfold pTell bI; (repeat' split) <;> first | rfl | omega)) rfl
  by_cases c1_2 : wh = 2
  · refine g_tableIn C dX5_tell_1 48 2 c1_2 (by omega) (by decide) (by decide) rfl (by decide) ?_
    refine g_aload_n C dX5_tell_48 rfl 0 rfl ?_
    refine g_get (v := .ref (ad 9)) (T := TX5) (N := 6) (ci := 4) C in_X5 7 rfl rfl 2 (by decide) wd76 (Or.inl rfl) rfl dX5_tell_49 rfl ?_
    refine g_iload_n C dX5_tell_52 rfl 1 rfl ?_
    refine g_iald (f := (S.1 9)) C dX5_tell_53 rfl 9 rfl (by omega) (by decide) ?_
    have b53 := okT_9 hS k
    exact z_iret C Z rfl dX5_tell_54 (by exact congrArg (fun z => some (Value.int (iI z))) (by unfold pTell bI; (repeat' split) <;> first | rfl | omega)) rfl
  by_cases c1_3 : wh = 3
  · refine g_tableIn C dX5_tell_1 55 3 c1_3 (by omega) (by decide) (by decide) rfl (by decide) ?_
    refine g_aload_n C dX5_tell_55 rfl 0 rfl ?_
    refine g_get (v := .ref (ad 10)) (T := TX5) (N := 6) (ci := 4) C in_X5 7 rfl rfl 3 (by decide) wd77 (Or.inl rfl) rfl dX5_tell_56 rfl ?_
    refine g_iload_n C dX5_tell_59 rfl 1 rfl ?_
    refine g_iald (f := (S.1 10)) C dX5_tell_60 rfl 10 rfl (by omega) (by decide) ?_
    have b60 := okT_10 hS k
    exact z_iret C Z rfl dX5_tell_61 (by exact congrArg (fun z => some (Value.int (iI z))) (by unfold pTell bI; (repeat' split) <;> first | rfl | omega)) rfl
  by_cases c1_4 : wh = 4
  · refine g_tableIn C dX5_tell_1 62 4 c1_4 (by omega) (by decide) (by decide) rfl (by decide) ?_
    refine g_aload_n C dX5_tell_62 rfl 0 rfl ?_
    refine g_get (v := .ref (ad 11)) (T := TX5) (N := 6) (ci := 4) C in_X5 7 rfl rfl 4 (by decide) wd78 (Or.inl rfl) rfl dX5_tell_63 rfl ?_
    refine g_iload_n C dX5_tell_66 rfl 1 rfl ?_
    refine g_zald (f := (S.1 11)) C dX5_tell_67 rfl 11 rfl (by omega) (by decide) ?_
    have b67 := okT_11 hS k
    refine g_if_eq C dX5_tell_68 75 (by decide) rfl (by omega) (fun c68 => ?_) (fun c68 => ?_)
    · skip
      refine g_iconst C dX5_tell_75 rfl ?_
      exact z_iret C Z rfl dX5_tell_76 (by exact congrArg (fun z => some (Value.int (iI z))) (by unfold pTell bI; (repeat' split) <;> first | rfl | omega)) rfl
    · skip
      refine g_iconst C dX5_tell_71 rfl ?_
      refine g_goto C dX5_tell_72 76 (by decide) ?_
      exact z_iret C Z rfl dX5_tell_76 (by exact congrArg (fun z => some (Value.int (iI z))) (by unfold pTell bI; (repeat' split) <;> first | rfl | omega)) rfl
  refine g_tableOut C dX5_tell_1 77 (by omega) (by omega) (by decide) ?_
  refine g_aload_n C dX5_tell_77 rfl 0 rfl ?_
  refine g_get (v := .ref (ad 12)) (T := TX5) (N := 6) (ci := 4) C in_X5 7 rfl rfl 5 (by decide) wd80 (Or.inl rfl) rfl dX5_tell_78 rfl ?_
  refine g_iload_n C dX5_tell_81 rfl 1 rfl ?_
  refine g_iald (f := (S.1 12)) C dX5_tell_82 rfl 12 rfl (by omega) (by decide) ?_
  exact z_iret C Z rfl dX5_tell_83 (by exact congrArg (fun z => some (Value.int (iI z))) (by unfold pTell bI; (repeat' split) <;> first | rfl | omega)) rfl
abbrev r_X1_isRinging : Room := { frames := 0, cells := 0, slots := 0, locals := 0 }
set_option maxHeartbeats 4000000 in
set_option maxRecDepth 100000 in
theorem k_X1_isRinging (l : Launch) (E : gE) (ad : Nat → Nat) (S : gS) (k : Int) (hS : okT S) (hk : 0 ≤ k ∧ k < 4) : gK l E yX1_isRinging cX1_isRinging 3 (some .boolean) r_X1_isRinging [.ref (ad 13), .int (iI k), .ref (ad 1)] (wT E ad S) (some (.int (iI (bI (S.1 15 k ≤ S.1 4 (S.1 14 k)))))) (wT E ad S) := by
  refine gK_by RX1 rfl mX1_isRinging [(0, .ref (ad 13)), (1, .int (iI k)), (2, .ref (ad 1))] (Nat.le_of_ble_eq_true rfl) rfl ?_
  intro zp ze zs zm za zb zh zc zA zQ C Z
  refine g_aload_n C dX1_isRinging_0 rfl 2 rfl ?_
  refine g_get (v := .ref (ad 4)) (T := TX3) (N := 5) (ci := 3) C in_X3 1 rfl rfl 2 (by decide) wd48 (Or.inl rfl) rfl dX1_isRinging_1 rfl ?_
  refine g_aload_n C dX1_isRinging_4 rfl 0 rfl ?_
  refine g_get (v := .ref (ad 14)) (T := TX1) (N := 3) (ci := 1) C in_X1 13 rfl rfl 0 (by decide) wd82 (Or.inr wd83) rfl dX1_isRinging_5 rfl ?_
  refine g_iload_n C dX1_isRinging_8 rfl 1 rfl ?_
  refine g_iald (f := (S.1 14)) C dX1_isRinging_9 rfl 14 rfl (by omega) (by decide) ?_
  have b9 := okT_14 hS k
  refine g_iald (f := (S.1 4)) C dX1_isRinging_10 rfl 4 rfl (by omega) (by decide) ?_
  have b10 := okT_4 hS ((S.1 14) k)
  refine g_aload_n C dX1_isRinging_11 rfl 0 rfl ?_
  refine g_get (v := .ref (ad 15)) (T := TX1) (N := 3) (ci := 1) C in_X1 13 rfl rfl 2 (by decide) wd133 (Or.inl rfl) rfl dX1_isRinging_12 rfl ?_
  refine g_iload_n C dX1_isRinging_15 rfl 1 rfl ?_
  refine g_iald (f := (S.1 15)) C dX1_isRinging_16 rfl 15 rfl (by omega) (by decide) ?_
  have b16 := okT_15 hS k
  refine g_icmp_lt C dX1_isRinging_17 24 (by decide) rfl (by omega) (by omega) (fun c17 => ?_) (fun c17 => ?_)
  · skip
    refine g_iconst C dX1_isRinging_24 rfl ?_
    exact z_iret C Z (z_nar (by omega)) dX1_isRinging_25 (by exact congrArg (fun z => some (Value.int (iI z))) (by first | (rw [bI_t (by omega)]) | (rw [bI_f (by omega)]))) rfl
  · skip
    refine g_iconst C dX1_isRinging_20 rfl ?_
    refine g_goto C dX1_isRinging_21 25 (by decide) ?_
    exact z_iret C Z (z_nar (by omega)) dX1_isRinging_25 (by exact congrArg (fun z => some (Value.int (iI z))) (by first | (rw [bI_t (by omega)]) | (rw [bI_f (by omega)]))) rfl
abbrev r_X1_ringing : Room := { frames := 1, cells := 0, slots := 0, locals := 22 }
set_option maxHeartbeats 4000000 in
set_option maxRecDepth 100000 in
theorem k_X1_ringing (l : Launch) (E : gE) (ad : Nat → Nat) (S : gS) (hS : okT S) : gK l E yX1_ringing cX1_ringing 4 (some .int) r_X1_ringing [.ref (ad 13), .ref (ad 1)] (wT E ad S) (some (.int (iI (ringN (S.1 4) (S.1 14) (S.1 15) (S.2 2).toNat)))) (wT E ad S) := by
  refine gK_by RX1 rfl mX1_ringing [(0, .ref (ad 13)), (1, .ref (ad 1))] (Nat.le_of_ble_eq_true rfl) rfl ?_
  intro zp ze zs zm za zb zh zc zA zQ C Z
  refine g_iconst C dX1_ringing_0 rfl ?_
  refine g_istore_n (lv' := [(2, .int (iI (0))), (0, .ref (ad 13)), (1, .ref (ad 1))]) C dX1_ringing_1 rfl (by decide) rfl ?_
  refine g_iconst C dX1_ringing_2 rfl ?_
  refine g_istore_n (lv' := [(3, .int (iI (0))), (2, .int (iI (0))), (0, .ref (ad 13)), (1, .ref (ad 1))]) C dX1_ringing_3 rfl (by decide) rfl ?_
  have L4 : ∀ k9 : Nat, k9 ≤ (S.2 2).toNat → gG E zp l ze r_X1_ringing zs zm za zb zh zc zA 4 0 0 zQ (wT E ad S) 4 [(3, .int (iI (k9 : Int))), (2, .int (iI (itr (ringB (S.1 4) (S.1 14) (S.1 15)) 0 k9))), (0, .ref (ad 13)), (1, .ref (ad 1))] [] := by
    refine g_up ((S.2 2).toNat) _ ?_
    intro k9 ih4 hk4
    obtain ⟨x, hx4⟩ : ∃ z, z = itr (ringB (S.1 4) (S.1 14) (S.1 15)) 0 k9 := ⟨_, rfl⟩
    rw [← hx4]
    have ff := okT_i2 hS
    refine g_iload_n C dX1_ringing_4 rfl 0 rfl ?_
    refine g_aload_n C dX1_ringing_5 rfl 2 rfl ?_
    refine g_get (v := .int (iI (S.2 2))) (T := TX1) (N := 3) (ci := 1) C in_X1 13 rfl rfl 1 (by decide) wd99 (Or.inr wd100) rfl dX1_ringing_6 rfl ?_
    have f6 := okT_i2 hS
    refine g_icmp_ge C dX1_ringing_9 35 (by decide) rfl (by omega) (by omega) (fun c9 => ?_) (fun c9 => ?_)
    · skip
      have hz4 : x = ringN (S.1 4) (S.1 14) (S.1 15) (S.2 2).toNat := by rw [hx4, show k9 = (S.2 2).toNat from by omega] <;> rfl
      refine g_iload_n C dX1_ringing_35 rfl 1 rfl ?_
      exact z_iret C Z rfl dX1_ringing_36 (by exact congrArg (fun z => some (Value.int (iI z))) (hz4.symm)) rfl
    · skip
      refine g_iload_n C dX1_ringing_12 rfl 1 rfl ?_
      refine g_aload_n C dX1_ringing_13 rfl 2 rfl ?_
      refine g_iload_n C dX1_ringing_14 rfl 0 rfl ?_
      refine g_aload_n C dX1_ringing_15 rfl 3 rfl ?_
      refine g_callV0 (As := [.int (iI (k9 : Int)), .ref (ad 1)]) (rv := some (.int (iI (bI ((S.1 15) (k9 : Int) ≤ (S.1 4) ((S.1 14) (k9 : Int))))))) (w1 := wT E ad S) (kc' := 0) (ks' := 0) C (k_X1_isRinging l E ad S (k9 : Int) hS (by omega)) mX1_isRinging iX1_isRinging wd286 13 1 rfl rfl rfl rfl rfl (Nat.le_of_ble_eq_true rfl) ⟨Nat.le_of_ble_eq_true rfl, Nat.le_of_ble_eq_true rfl⟩ ⟨Nat.le_of_ble_eq_true rfl, Nat.le_of_ble_eq_true rfl⟩ rfl rfl dX1_ringing_16 rfl ?_
      have n16 := bI_w ((S.1 15) (k9 : Int) ≤ (S.1 4) ((S.1 14) (k9 : Int)))
      refine g_if_eq C dX1_ringing_19 26 (by decide) rfl (by omega) (fun c19 => ?_) (fun c19 => ?_)
      · skip
        refine g_iconst C dX1_ringing_26 rfl ?_
        refine g_iadd C dX1_ringing_27 rfl ?_
        refine g_istore_n (lv' := [(2, .int (iI (x + (0)))), (3, .int (iI (k9 : Int))), (0, .ref (ad 13)), (1, .ref (ad 1))]) C dX1_ringing_28 rfl (by decide) rfl ?_
        refine g_iinc (lv' := [(3, .int (iI ((k9 : Int) + 1))), (2, .int (iI (x + (0)))), (0, .ref (ad 13)), (1, .ref (ad 1))]) C dX1_ringing_29 rfl 1 rfl (by decide) rfl ?_
        refine g_goto C dX1_ringing_32 4 (by decide) ?_
        have e4 : (ringB (S.1 4) (S.1 14) (S.1 15)) k9 x = (x + (0)) := by
          unfold ringB
          first | rfl | omega
        have i4 := ih4 (by omega)
        rw [show itr (ringB (S.1 4) (S.1 14) (S.1 15)) 0 (k9 + 1) = (x + (0)) from by rw [← e4, hx4]; rfl] at i4
        exact g_to [0, 1, 2, 3] (i4) rfl rfl rfl
      · skip
        refine g_iconst C dX1_ringing_22 rfl ?_
        refine g_goto C dX1_ringing_23 27 (by decide) ?_
        refine g_iadd C dX1_ringing_27 rfl ?_
        refine g_istore_n (lv' := [(2, .int (iI (x + (1)))), (3, .int (iI (k9 : Int))), (0, .ref (ad 13)), (1, .ref (ad 1))]) C dX1_ringing_28 rfl (by decide) rfl ?_
        refine g_iinc (lv' := [(3, .int (iI ((k9 : Int) + 1))), (2, .int (iI (x + (1)))), (0, .ref (ad 13)), (1, .ref (ad 1))]) C dX1_ringing_29 rfl 1 rfl (by decide) rfl ?_
        refine g_goto C dX1_ringing_32 4 (by decide) ?_
        have e4 : (ringB (S.1 4) (S.1 14) (S.1 15)) k9 x = (x + (1)) := by
          unfold ringB
          first | rfl | omega
        have i4 := ih4 (by omega)
        rw [show itr (ringB (S.1 4) (S.1 14) (S.1 15)) 0 (k9 + 1) = (x + (1)) from by rw [← e4, hx4]; rfl] at i4
        exact g_to [0, 1, 2, 3] (i4) rfl rfl rfl
  refine g_to [0, 1, 2, 3] (L4 0 (by omega)) rfl rfl rfl
abbrev r_X1_hang : Room := { frames := 0, cells := 0, slots := 0, locals := 0 }
set_option maxHeartbeats 4000000 in
set_option maxRecDepth 100000 in
theorem k_X1_hang (l : Launch) (E : gE) (ad : Nat → Nat) (S : gS) (q mk : Int) (hS : okT S) (hn : S.2 2 < 4) : gK l E yX1_hang cX1_hang 4 (some .int) r_X1_hang [.ref (ad 13), .int (iI q), .int (iI mk)] (wT E ad S) (some (.int (iI (S.2 2)))) (wT E ad (hangS S q mk)) := by
  refine gK_by RX1 rfl mX1_hang [(0, .ref (ad 13)), (1, .int (iI q)), (2, .int (iI mk))] (Nat.le_of_ble_eq_true rfl) rfl ?_
  intro zp ze zs zm za zb zh zc zA zQ C Z
  refine g_aload_n C dX1_hang_0 rfl 0 rfl ?_
  refine g_get (v := .int (iI (S.2 2))) (T := TX1) (N := 3) (ci := 1) C in_X1 13 rfl rfl 1 (by decide) wd99 (Or.inr wd100) rfl dX1_hang_1 rfl ?_
  have f1 := okT_i2 hS
  refine g_istore_n (lv' := [(3, .int (iI (S.2 2))), (0, .ref (ad 13)), (1, .int (iI q)), (2, .int (iI mk))]) C dX1_hang_4 rfl (by decide) rfl ?_
  refine g_aload_n C dX1_hang_5 rfl 1 rfl ?_
  refine g_get (v := .ref (ad 14)) (T := TX1) (N := 3) (ci := 1) C in_X1 13 rfl rfl 0 (by decide) wd82 (Or.inr wd83) rfl dX1_hang_6 rfl ?_
  refine g_iload_n C dX1_hang_9 rfl 0 rfl ?_
  refine g_iload_n C dX1_hang_10 rfl 2 rfl ?_
  refine g_iast (f := (S.1 14)) (ws' := wT E ad (setA S 14 (fset (S.1 14) (S.2 2) q))) C dX1_hang_11 rfl 14 rfl (by omega) (by decide) rfl ?_
  refine g_aload_n C dX1_hang_12 rfl 1 rfl ?_
  refine g_get (v := .ref (ad 15)) (T := TX1) (N := 3) (ci := 1) C in_X1 13 rfl rfl 2 (by decide) wd133 (Or.inl rfl) rfl dX1_hang_13 rfl ?_
  refine g_iload_n C dX1_hang_16 rfl 0 rfl ?_
  refine g_iload_n C dX1_hang_17 rfl 3 rfl ?_
  refine g_iast (f := (S.1 15)) (ws' := wT E ad (setA (setA S 14 (fset (S.1 14) (S.2 2) q)) 15 (fset (S.1 15) (S.2 2) mk))) C dX1_hang_18 rfl 15 rfl (by omega) (by decide) rfl ?_
  refine g_aload_n C dX1_hang_19 rfl 1 rfl ?_
  refine g_dup C dX1_hang_20 rfl rfl ?_
  refine g_get (v := .int (iI (S.2 2))) (T := TX1) (N := 3) (ci := 1) C in_X1 13 rfl rfl 1 (by decide) wd99 (Or.inr wd100) rfl dX1_hang_21 rfl ?_
  have f21 := okT_i2 hS
  refine g_iconst C dX1_hang_24 rfl ?_
  refine g_iadd C dX1_hang_25 rfl ?_
  refine g_put (T := TX1) (N := 3) (ci := 1) (ws' := wT E ad (setI (setA (setA S 14 (fset (S.1 14) (S.2 2) q)) 15 (fset (S.1 15) (S.2 2) mk)) 2 ((S.2 2) + (1)))) C in_X1 tyX1 tyX1_ok nmX1 13 rfl rfl 1 (by decide) wd99 (Or.inr wd100) rfl (ty := .int) (by decide +kernel) rfl rfl (Nat.le_of_ble_eq_true rfl) rfl dX1_hang_26 rfl ?_
  refine g_iload_n C dX1_hang_29 rfl 0 rfl ?_
  exact z_iret C Z rfl dX1_hang_30 rfl rfl
abbrev r_X1_tell : Room := { frames := 1, cells := 0, slots := 0, locals := 22 }
set_option maxHeartbeats 4000000 in
set_option maxRecDepth 100000 in
theorem k_X1_tell (l : Launch) (E : gE) (ad : Nat → Nat) (S : gS) (k wh : Int) (hS : okT S) (hk : 0 ≤ k ∧ k < 4) (hw : -2147483648 ≤ wh ∧ wh ≤ 2147483647) : gK l E yX1_tell cX1_tell 4 (some .int) r_X1_tell [.ref (ad 13), .int (iI k), .int (iI wh), .ref (ad 1)] (wT E ad S) (some (.int (iI (gTell S k wh)))) (wT E ad S) := by
  refine gK_by RX1 rfl mX1_tell [(0, .ref (ad 13)), (1, .int (iI k)), (2, .int (iI wh)), (3, .ref (ad 1))] (Nat.le_of_ble_eq_true rfl) rfl ?_
  intro zp ze zs zm za zb zh zc zA zQ C Z
  refine g_iload_n C dX1_tell_0 rfl 2 rfl ?_
  by_cases c1_0 : wh = 0
  · refine g_tableIn C dX1_tell_1 32 0 c1_0 (by omega) (by decide) (by decide) rfl (by decide) ?_
    refine g_aload_n C dX1_tell_32 rfl 0 rfl ?_
    refine g_iload_n C dX1_tell_33 rfl 1 rfl ?_
    refine g_callU0 (As := [.int (iI k)]) (rv := some (.int (iI ((S.1 14) k % 10)))) (w1 := wT E ad S) (kc' := 0) (ks' := 0) C "FloodWardens$Numbered" RX1 (k_X4_xOf_X1 l E ad S k hS (by omega)) mX4_xOf ⟨wd322, wd336, wd335⟩ rfl (by decide +kernel) wd334 13 1 rfl rfl rfl rfl rfl (Nat.le_of_ble_eq_true rfl) ⟨Nat.le_of_ble_eq_true rfl, Nat.le_of_ble_eq_true rfl⟩ ⟨Nat.le_of_ble_eq_true rfl, Nat.le_of_ble_eq_true rfl⟩ rfl rfl dX1_tell_34 rfl ?_
    exact z_iret C Z rfl dX1_tell_37 (by exact congrArg (fun z => some (Value.int (iI z))) (by unfold gTell; (repeat' split) <;> first | rfl | omega)) rfl
  by_cases c1_1 : wh = 1
  · refine g_tableIn C dX1_tell_1 38 1 c1_1 (by omega) (by decide) (by decide) rfl (by decide) ?_
    refine g_aload_n C dX1_tell_38 rfl 0 rfl ?_
    refine g_iload_n C dX1_tell_39 rfl 1 rfl ?_
    refine g_callU0 (As := [.int (iI k)]) (rv := some (.int (iI ((S.1 14) k / 10)))) (w1 := wT E ad S) (kc' := 0) (ks' := 0) C "FloodWardens$Numbered" RX1 (k_X4_yOf_X1 l E ad S k hS (by omega)) mX4_yOf ⟨wd328, wd339, wd338⟩ rfl (by decide +kernel) wd337 13 1 rfl rfl rfl rfl rfl (Nat.le_of_ble_eq_true rfl) ⟨Nat.le_of_ble_eq_true rfl, Nat.le_of_ble_eq_true rfl⟩ ⟨Nat.le_of_ble_eq_true rfl, Nat.le_of_ble_eq_true rfl⟩ rfl rfl dX1_tell_40 rfl ?_
    exact z_iret C Z rfl dX1_tell_43 (by exact congrArg (fun z => some (Value.int (iI z))) (by unfold gTell; (repeat' split) <;> first | rfl | omega)) rfl
  by_cases c1_2 : wh = 2
  · refine g_tableIn C dX1_tell_1 44 2 c1_2 (by omega) (by decide) (by decide) rfl (by decide) ?_
    refine g_aload_n C dX1_tell_44 rfl 0 rfl ?_
    refine g_get (v := .ref (ad 15)) (T := TX1) (N := 3) (ci := 1) C in_X1 13 rfl rfl 2 (by decide) wd133 (Or.inl rfl) rfl dX1_tell_45 rfl ?_
    refine g_iload_n C dX1_tell_48 rfl 1 rfl ?_
    refine g_iald (f := (S.1 15)) C dX1_tell_49 rfl 15 rfl (by omega) (by decide) ?_
    have b49 := okT_15 hS k
    exact z_iret C Z rfl dX1_tell_50 (by exact congrArg (fun z => some (Value.int (iI z))) (by unfold gTell; (repeat' split) <;> first | rfl | omega)) rfl
  by_cases c1_3 : wh = 3
  · refine g_tableIn C dX1_tell_1 51 3 c1_3 (by omega) (by decide) (by decide) rfl (by decide) ?_
    refine g_aload_n C dX1_tell_51 rfl 3 rfl ?_
    refine g_get (v := .ref (ad 4)) (T := TX3) (N := 5) (ci := 3) C in_X3 1 rfl rfl 2 (by decide) wd48 (Or.inl rfl) rfl dX1_tell_52 rfl ?_
    refine g_aload_n C dX1_tell_55 rfl 0 rfl ?_
    refine g_get (v := .ref (ad 14)) (T := TX1) (N := 3) (ci := 1) C in_X1 13 rfl rfl 0 (by decide) wd82 (Or.inr wd83) rfl dX1_tell_56 rfl ?_
    refine g_iload_n C dX1_tell_59 rfl 1 rfl ?_
    refine g_iald (f := (S.1 14)) C dX1_tell_60 rfl 14 rfl (by omega) (by decide) ?_
    have b60 := okT_14 hS k
    refine g_iald (f := (S.1 4)) C dX1_tell_61 rfl 4 rfl (by omega) (by decide) ?_
    have b61 := okT_4 hS ((S.1 14) k)
    exact z_iret C Z rfl dX1_tell_62 (by exact congrArg (fun z => some (Value.int (iI z))) (by unfold gTell; (repeat' split) <;> first | rfl | omega)) rfl
  refine g_tableOut C dX1_tell_1 63 (by omega) (by omega) (by decide) ?_
  refine g_aload_n C dX1_tell_63 rfl 0 rfl ?_
  refine g_iload_n C dX1_tell_64 rfl 1 rfl ?_
  refine g_aload_n C dX1_tell_65 rfl 3 rfl ?_
  refine g_callV0 (As := [.int (iI k), .ref (ad 1)]) (rv := some (.int (iI (bI ((S.1 15) k ≤ (S.1 4) ((S.1 14) k)))))) (w1 := wT E ad S) (kc' := 0) (ks' := 0) C (k_X1_isRinging l E ad S k hS (by omega)) mX1_isRinging iX1_isRinging wd286 13 1 rfl rfl rfl rfl rfl (Nat.le_of_ble_eq_true rfl) ⟨Nat.le_of_ble_eq_true rfl, Nat.le_of_ble_eq_true rfl⟩ ⟨Nat.le_of_ble_eq_true rfl, Nat.le_of_ble_eq_true rfl⟩ rfl rfl dX1_tell_66 rfl ?_
  have n66 := bI_w ((S.1 15) k ≤ (S.1 4) ((S.1 14) k))
  refine g_if_eq C dX1_tell_69 76 (by decide) rfl (by omega) (fun c69 => ?_) (fun c69 => ?_)
  · skip
    refine g_iconst C dX1_tell_76 rfl ?_
    exact z_iret C Z rfl dX1_tell_77 (by exact congrArg (fun z => some (Value.int (iI z))) (by unfold gTell; (repeat' split) <;> first | rfl | omega)) rfl
  · skip
    refine g_iconst C dX1_tell_72 rfl ?_
    refine g_goto C dX1_tell_73 77 (by decide) ?_
    exact z_iret C Z rfl dX1_tell_77 (by exact congrArg (fun z => some (Value.int (iI z))) (by unfold gTell; (repeat' split) <;> first | rfl | omega)) rfl
abbrev r_X6_hasRoomFor : Room := { frames := 0, cells := 0, slots := 0, locals := 0 }
set_option maxHeartbeats 4000000 in
set_option maxRecDepth 100000 in
theorem k_X6_hasRoomFor (l : Launch) (E : gE) (ad : Nat → Nat) (S : gS) (k q : Int) (hS : okT S) (hk : 0 ≤ k ∧ k < 4) (hq : 0 ≤ q ∧ q ≤ 1000) : gK l E yX6_hasRoomFor cX6_hasRoomFor 3 (some .boolean) r_X6_hasRoomFor [.ref (ad 16), .int (iI k), .int (iI q)] (wT E ad S) (some (.int (iI (bI (q ≤ S.1 18 k - S.1 19 k))))) (wT E ad S) := by
  refine gK_by RX6 rfl mX6_hasRoomFor [(0, .ref (ad 16)), (1, .int (iI k)), (2, .int (iI q))] (Nat.le_of_ble_eq_true rfl) rfl ?_
  intro zp ze zs zm za zb zh zc zA zQ C Z
  refine g_aload_n C dX6_hasRoomFor_0 rfl 0 rfl ?_
  refine g_get (v := .ref (ad 18)) (T := TX6) (N := 5) (ci := 5) C in_X6 16 rfl rfl 2 (by decide) wd145 (Or.inl rfl) rfl dX6_hasRoomFor_1 rfl ?_
  refine g_iload_n C dX6_hasRoomFor_4 rfl 1 rfl ?_
  refine g_iald (f := (S.1 18)) C dX6_hasRoomFor_5 rfl 18 rfl (by omega) (by decide) ?_
  have b5 := okT_18 hS k
  refine g_aload_n C dX6_hasRoomFor_6 rfl 0 rfl ?_
  refine g_get (v := .ref (ad 19)) (T := TX6) (N := 5) (ci := 5) C in_X6 16 rfl rfl 3 (by decide) wd146 (Or.inl rfl) rfl dX6_hasRoomFor_7 rfl ?_
  refine g_iload_n C dX6_hasRoomFor_10 rfl 1 rfl ?_
  refine g_iald (f := (S.1 19)) C dX6_hasRoomFor_11 rfl 19 rfl (by omega) (by decide) ?_
  have b11 := okT_19 hS k
  refine g_isub C dX6_hasRoomFor_12 rfl ?_
  refine g_iload_n C dX6_hasRoomFor_13 rfl 2 rfl ?_
  refine g_icmp_lt C dX6_hasRoomFor_14 21 (by decide) rfl (by omega) (by omega) (fun c14 => ?_) (fun c14 => ?_)
  · skip
    refine g_iconst C dX6_hasRoomFor_21 rfl ?_
    exact z_iret C Z (z_nar (by omega)) dX6_hasRoomFor_22 (by exact congrArg (fun z => some (Value.int (iI z))) (by first | (rw [bI_t (by omega)]) | (rw [bI_f (by omega)]))) rfl
  · skip
    refine g_iconst C dX6_hasRoomFor_17 rfl ?_
    refine g_goto C dX6_hasRoomFor_18 22 (by decide) ?_
    exact z_iret C Z (z_nar (by omega)) dX6_hasRoomFor_22 (by exact congrArg (fun z => some (Value.int (iI z))) (by first | (rw [bI_t (by omega)]) | (rw [bI_f (by omega)]))) rfl
abbrev r_X6_takeIn : Room := { frames := 0, cells := 0, slots := 0, locals := 0 }
set_option maxHeartbeats 4000000 in
set_option maxRecDepth 100000 in
theorem k_X6_takeIn (l : Launch) (E : gE) (ad : Nat → Nat) (S : gS) (k q : Int) (hS : okT S) (hk : 0 ≤ k ∧ k < 4) : gK l E yX6_takeIn cX6_takeIn 3 none r_X6_takeIn [.ref (ad 16), .int (iI k), .int (iI q)] (wT E ad S) (none) (wT E ad (setA (setA S 19 (fset (S.1 19) k (S.1 19 k + q))) 20 (fset (S.1 20) k (S.1 20 k + 1)))) := by
  refine gK_by RX6 rfl mX6_takeIn [(0, .ref (ad 16)), (1, .int (iI k)), (2, .int (iI q))] (Nat.le_of_ble_eq_true rfl) rfl ?_
  intro zp ze zs zm za zb zh zc zA zQ C Z
  refine g_aload_n C dX6_takeIn_0 rfl 0 rfl ?_
  refine g_get (v := .ref (ad 19)) (T := TX6) (N := 5) (ci := 5) C in_X6 16 rfl rfl 3 (by decide) wd146 (Or.inl rfl) rfl dX6_takeIn_1 rfl ?_
  refine g_iload_n C dX6_takeIn_4 rfl 1 rfl ?_
  refine g_dup2 C dX6_takeIn_5 rfl rfl rfl ?_
  refine g_iald (f := (S.1 19)) C dX6_takeIn_6 rfl 19 rfl (by omega) (by decide) ?_
  have b6 := okT_19 hS k
  refine g_iload_n C dX6_takeIn_7 rfl 2 rfl ?_
  refine g_iadd C dX6_takeIn_8 rfl ?_
  refine g_iast (f := (S.1 19)) (ws' := wT E ad (setA S 19 (fset (S.1 19) k (((S.1 19) k) + q)))) C dX6_takeIn_9 rfl 19 rfl (by omega) (by decide) rfl ?_
  refine g_aload_n C dX6_takeIn_10 rfl 0 rfl ?_
  refine g_get (v := .ref (ad 20)) (T := TX6) (N := 5) (ci := 5) C in_X6 16 rfl rfl 4 (by decide) wd147 (Or.inl rfl) rfl dX6_takeIn_11 rfl ?_
  refine g_iload_n C dX6_takeIn_14 rfl 1 rfl ?_
  refine g_dup2 C dX6_takeIn_15 rfl rfl rfl ?_
  refine g_iald (f := (S.1 20)) C dX6_takeIn_16 rfl 20 rfl (by omega) (by decide) ?_
  refine g_iconst C dX6_takeIn_17 rfl ?_
  refine g_iadd C dX6_takeIn_18 rfl ?_
  refine g_iast (f := (S.1 20)) (ws' := wT E ad (setA (setA S 19 (fset (S.1 19) k (((S.1 19) k) + q))) 20 (fset (S.1 20) k (((S.1 20) k) + (1))))) C dX6_takeIn_19 rfl 20 rfl (by omega) (by decide) rfl ?_
  exact z_vret C Z dX6_takeIn_20 rfl rfl
abbrev r_X6_open : Room := { frames := 0, cells := 0, slots := 0, locals := 0 }
set_option maxHeartbeats 4000000 in
set_option maxRecDepth 100000 in
theorem k_X6_open (l : Launch) (E : gE) (ad : Nat → Nat) (S : gS) (q rm : Int) (hS : okT S) (hn : S.2 3 < 4) : gK l E yX6_open cX6_open 4 (some .int) r_X6_open [.ref (ad 16), .int (iI q), .int (iI rm)] (wT E ad S) (some (.int (iI (S.2 3)))) (wT E ad (openS S q rm)) := by
  refine gK_by RX6 rfl mX6_open [(0, .ref (ad 16)), (1, .int (iI q)), (2, .int (iI rm))] (Nat.le_of_ble_eq_true rfl) rfl ?_
  intro zp ze zs zm za zb zh zc zA zQ C Z
  refine g_aload_n C dX6_open_0 rfl 0 rfl ?_
  refine g_get (v := .int (iI (S.2 3))) (T := TX6) (N := 5) (ci := 5) C in_X6 16 rfl rfl 1 (by decide) wd101 (Or.inr wd102) rfl dX6_open_1 rfl ?_
  have f1 := okT_i3 hS
  refine g_istore_n (lv' := [(3, .int (iI (S.2 3))), (0, .ref (ad 16)), (1, .int (iI q)), (2, .int (iI rm))]) C dX6_open_4 rfl (by decide) rfl ?_
  refine g_aload_n C dX6_open_5 rfl 1 rfl ?_
  refine g_get (v := .ref (ad 17)) (T := TX6) (N := 5) (ci := 5) C in_X6 16 rfl rfl 0 (by decide) wd84 (Or.inr wd85) rfl dX6_open_6 rfl ?_
  refine g_iload_n C dX6_open_9 rfl 0 rfl ?_
  refine g_iload_n C dX6_open_10 rfl 2 rfl ?_
  refine g_iast (f := (S.1 17)) (ws' := wT E ad (setA S 17 (fset (S.1 17) (S.2 3) q))) C dX6_open_11 rfl 17 rfl (by omega) (by decide) rfl ?_
  refine g_aload_n C dX6_open_12 rfl 1 rfl ?_
  refine g_get (v := .ref (ad 18)) (T := TX6) (N := 5) (ci := 5) C in_X6 16 rfl rfl 2 (by decide) wd145 (Or.inl rfl) rfl dX6_open_13 rfl ?_
  refine g_iload_n C dX6_open_16 rfl 0 rfl ?_
  refine g_iload_n C dX6_open_17 rfl 3 rfl ?_
  refine g_iast (f := (S.1 18)) (ws' := wT E ad (setA (setA S 17 (fset (S.1 17) (S.2 3) q)) 18 (fset (S.1 18) (S.2 3) rm))) C dX6_open_18 rfl 18 rfl (by omega) (by decide) rfl ?_
  refine g_aload_n C dX6_open_19 rfl 1 rfl ?_
  refine g_dup C dX6_open_20 rfl rfl ?_
  refine g_get (v := .int (iI (S.2 3))) (T := TX6) (N := 5) (ci := 5) C in_X6 16 rfl rfl 1 (by decide) wd101 (Or.inr wd102) rfl dX6_open_21 rfl ?_
  have f21 := okT_i3 hS
  refine g_iconst C dX6_open_24 rfl ?_
  refine g_iadd C dX6_open_25 rfl ?_
  refine g_put (T := TX6) (N := 5) (ci := 5) (ws' := wT E ad (setI (setA (setA S 17 (fset (S.1 17) (S.2 3) q)) 18 (fset (S.1 18) (S.2 3) rm)) 3 ((S.2 3) + (1)))) C in_X6 tyX6 tyX6_ok nmX6 16 rfl rfl 1 (by decide) wd101 (Or.inr wd102) rfl (ty := .int) (by decide +kernel) rfl rfl (Nat.le_of_ble_eq_true rfl) rfl dX6_open_26 rfl ?_
  refine g_iload_n C dX6_open_29 rfl 0 rfl ?_
  exact z_iret C Z rfl dX6_open_30 rfl rfl
abbrev r_X6_nearestWithRoom : Room := { frames := 1, cells := 0, slots := 0, locals := 22 }
set_option maxHeartbeats 4000000 in
set_option maxRecDepth 100000 in
theorem k_X6_nearestWithRoom (l : Launch) (E : gE) (ad : Nat → Nat) (S : gS) (q : Int) (hS : okT S) (hq : 0 ≤ q ∧ q ≤ 1000) : gK l E yX6_nearestWithRoom cX6_nearestWithRoom 6 (some .int) r_X6_nearestWithRoom [.ref (ad 16), .int (iI q), .ref (ad 28)] (wT E ad S) (some (.int (iI (roomS S q)))) (wT E ad S) := by
  refine gK_by RX6 rfl mX6_nearestWithRoom [(0, .ref (ad 16)), (1, .int (iI q)), (2, .ref (ad 28))] (Nat.le_of_ble_eq_true rfl) rfl ?_
  intro zp ze zs zm za zb zh zc zA zQ C Z
  refine g_iconst C dX6_nearestWithRoom_0 rfl ?_
  refine g_istore_n (lv' := [(3, .int (iI (-1))), (0, .ref (ad 16)), (1, .int (iI q)), (2, .ref (ad 28))]) C dX6_nearestWithRoom_1 rfl (by decide) rfl ?_
  refine g_iconst C dX6_nearestWithRoom_2 rfl ?_
  refine g_istore (lv' := [(4, .int (iI (-1))), (3, .int (iI (-1))), (0, .ref (ad 16)), (1, .int (iI q)), (2, .ref (ad 28))]) C dX6_nearestWithRoom_3 rfl (by decide) rfl ?_
  refine g_iconst C dX6_nearestWithRoom_5 rfl ?_
  refine g_istore (lv' := [(5, .int (iI (0))), (4, .int (iI (-1))), (3, .int (iI (-1))), (0, .ref (ad 16)), (1, .int (iI q)), (2, .ref (ad 28))]) C dX6_nearestWithRoom_6 rfl (by decide) rfl ?_
  have L8 : ∀ k9 : Nat, k9 ≤ (S.2 3).toNat → gG E zp l ze r_X6_nearestWithRoom zs zm za zb zh zc zA 6 0 0 zQ (wT E ad S) 8 [(5, .int (iI (k9 : Int))), (4, .int (iI (roomI (S.1 17) (S.1 18) (S.1 19) (S.1 29) q k9).2)), (3, .int (iI (roomI (S.1 17) (S.1 18) (S.1 19) (S.1 29) q k9).1)), (0, .ref (ad 16)), (1, .int (iI q)), (2, .ref (ad 28))] [] := by
    refine g_up ((S.2 3).toNat) _ ?_
    intro k9 ih8 hk8
    have iv8_0 := roomI_b (rm := S.1 18) (pp := S.1 19) (stp := S.1 29) (m := q) (okT_17 hS) k9
    obtain ⟨x, hx8⟩ : ∃ z, z = roomI (S.1 17) (S.1 18) (S.1 19) (S.1 29) q k9 := ⟨_, rfl⟩
    rw [← hx8]
    rw [← hx8] at iv8_0
    have ff := okT_i3 hS
    refine g_iload C dX6_nearestWithRoom_8 rfl 0 rfl ?_
    refine g_aload_n C dX6_nearestWithRoom_10 rfl 3 rfl ?_
    refine g_get (v := .int (iI (S.2 3))) (T := TX6) (N := 5) (ci := 5) C in_X6 16 rfl rfl 1 (by decide) wd101 (Or.inr wd102) rfl dX6_nearestWithRoom_11 rfl ?_
    have f11 := okT_i3 hS
    refine g_icmp_ge C dX6_nearestWithRoom_14 61 (by decide) rfl (by omega) (by omega) (fun c14 => ?_) (fun c14 => ?_)
    · skip
      have hz8 : x = roomI (S.1 17) (S.1 18) (S.1 19) (S.1 29) q (S.2 3).toNat := by rw [hx8, show k9 = (S.2 3).toNat from by omega] <;> rfl
      refine g_iload_n C dX6_nearestWithRoom_61 rfl 2 rfl ?_
      exact z_iret C Z rfl dX6_nearestWithRoom_62 (by unfold roomS; rw [← hz8]) rfl
    · skip
      refine g_aload_n C dX6_nearestWithRoom_17 rfl 3 rfl ?_
      refine g_iload C dX6_nearestWithRoom_18 rfl 0 rfl ?_
      refine g_iload_n C dX6_nearestWithRoom_20 rfl 4 rfl ?_
      refine g_callV0 (As := [.int (iI (k9 : Int)), .int (iI q)]) (rv := some (.int (iI (bI (q ≤ (S.1 18) (k9 : Int) - (S.1 19) (k9 : Int)))))) (w1 := wT E ad S) (kc' := 0) (ks' := 0) C (k_X6_hasRoomFor l E ad S (k9 : Int) q hS (by omega) (by omega)) mX6_hasRoomFor iX6_hasRoomFor wd384 16 5 rfl rfl rfl rfl rfl (Nat.le_of_ble_eq_true rfl) ⟨Nat.le_of_ble_eq_true rfl, Nat.le_of_ble_eq_true rfl⟩ ⟨Nat.le_of_ble_eq_true rfl, Nat.le_of_ble_eq_true rfl⟩ rfl rfl dX6_nearestWithRoom_21 rfl ?_
      have n21 := bI_w (q ≤ (S.1 18) (k9 : Int) - (S.1 19) (k9 : Int))
      refine g_if_eq C dX6_nearestWithRoom_24 55 (by decide) rfl (by omega) (fun c24 => ?_) (fun c24 => ?_)
      · skip
        refine g_iinc (lv' := [(5, .int (iI ((k9 : Int) + 1))), (4, .int (iI x.2)), (3, .int (iI x.1)), (0, .ref (ad 16)), (1, .int (iI q)), (2, .ref (ad 28))]) C dX6_nearestWithRoom_55 rfl 0 rfl (by decide) rfl ?_
        refine g_goto C dX6_nearestWithRoom_58 8 (by decide) ?_
        have e8 : (roomB (S.1 17) (S.1 18) (S.1 19) (S.1 29) q) k9 x = (x.1, x.2) := by
          unfold roomB
          first | (rw [if_pos (by omega)]) | (rw [if_neg (by omega)])
        have i8 := ih8 (by omega)
        rw [show roomI (S.1 17) (S.1 18) (S.1 19) (S.1 29) q (k9 + 1) = (x.1, x.2) from by rw [← e8, hx8]; rfl] at i8
        exact g_to [0, 1, 2, 3, 4, 5] (i8) rfl rfl rfl
      · skip
        refine g_aload_n C dX6_nearestWithRoom_27 rfl 5 rfl ?_
        refine g_aload_n C dX6_nearestWithRoom_28 rfl 3 rfl ?_
        refine g_get (v := .ref (ad 17)) (T := TX6) (N := 5) (ci := 5) C in_X6 16 rfl rfl 0 (by decide) wd84 (Or.inr wd85) rfl dX6_nearestWithRoom_29 rfl ?_
        refine g_iload C dX6_nearestWithRoom_32 rfl 0 rfl ?_
        refine g_iald (f := (S.1 17)) C dX6_nearestWithRoom_34 rfl 17 rfl (by omega) (by decide) ?_
        have b34 := okT_17 hS (k9 : Int)
        refine g_iload C dX6_nearestWithRoom_35 rfl 1 rfl ?_
        refine g_callV0 (As := [.int (iI ((S.1 17) (k9 : Int))), .int (iI x.2)]) (rv := some (.int (iI (bI ((S.1 29) ((S.1 17) (k9 : Int)) ≠ -1 ∧ (x.2 = -1 ∨ (S.1 29) ((S.1 17) (k9 : Int)) < (S.1 29) x.2)))))) (w1 := wT E ad S) (kc' := 0) (ks' := 0) C (k_X8_isNearer l E ad S ((S.1 17) (k9 : Int)) x.2 hS (by omega) (by omega)) mX8_isNearer iX8_isNearer wd388 28 7 rfl rfl rfl rfl rfl (Nat.le_of_ble_eq_true rfl) ⟨Nat.le_of_ble_eq_true rfl, Nat.le_of_ble_eq_true rfl⟩ ⟨Nat.le_of_ble_eq_true rfl, Nat.le_of_ble_eq_true rfl⟩ rfl rfl dX6_nearestWithRoom_37 rfl ?_
        have n37 := bI_w ((S.1 29) ((S.1 17) (k9 : Int)) ≠ -1 ∧ (x.2 = -1 ∨ (S.1 29) ((S.1 17) (k9 : Int)) < (S.1 29) x.2))
        refine g_if_eq C dX6_nearestWithRoom_40 55 (by decide) rfl (by omega) (fun c40 => ?_) (fun c40 => ?_)
        · skip
          refine g_iinc (lv' := [(5, .int (iI ((k9 : Int) + 1))), (4, .int (iI x.2)), (3, .int (iI x.1)), (0, .ref (ad 16)), (1, .int (iI q)), (2, .ref (ad 28))]) C dX6_nearestWithRoom_55 rfl 0 rfl (by decide) rfl ?_
          refine g_goto C dX6_nearestWithRoom_58 8 (by decide) ?_
          have e8 : (roomB (S.1 17) (S.1 18) (S.1 19) (S.1 29) q) k9 x = (x.1, x.2) := by
            unfold roomB
            first | (rw [if_pos (by omega)]) | (rw [if_neg (by omega)])
          have i8 := ih8 (by omega)
          rw [show roomI (S.1 17) (S.1 18) (S.1 19) (S.1 29) q (k9 + 1) = (x.1, x.2) from by rw [← e8, hx8]; rfl] at i8
          exact g_to [0, 1, 2, 3, 4, 5] (i8) rfl rfl rfl
        · skip
          refine g_iload C dX6_nearestWithRoom_43 rfl 0 rfl ?_
          refine g_istore_n (lv' := [(3, .int (iI (k9 : Int))), (5, .int (iI (k9 : Int))), (4, .int (iI x.2)), (0, .ref (ad 16)), (1, .int (iI q)), (2, .ref (ad 28))]) C dX6_nearestWithRoom_45 rfl (by decide) rfl ?_
          refine g_aload_n C dX6_nearestWithRoom_46 rfl 3 rfl ?_
          refine g_get (v := .ref (ad 17)) (T := TX6) (N := 5) (ci := 5) C in_X6 16 rfl rfl 0 (by decide) wd84 (Or.inr wd85) rfl dX6_nearestWithRoom_47 rfl ?_
          refine g_iload C dX6_nearestWithRoom_50 rfl 1 rfl ?_
          refine g_iald (f := (S.1 17)) C dX6_nearestWithRoom_52 rfl 17 rfl (by omega) (by decide) ?_
          have b52 := okT_17 hS (k9 : Int)
          refine g_istore (lv' := [(4, .int (iI ((S.1 17) (k9 : Int)))), (3, .int (iI (k9 : Int))), (5, .int (iI (k9 : Int))), (0, .ref (ad 16)), (1, .int (iI q)), (2, .ref (ad 28))]) C dX6_nearestWithRoom_53 rfl (by decide) rfl ?_
          refine g_iinc (lv' := [(5, .int (iI ((k9 : Int) + 1))), (4, .int (iI ((S.1 17) (k9 : Int)))), (3, .int (iI (k9 : Int))), (0, .ref (ad 16)), (1, .int (iI q)), (2, .ref (ad 28))]) C dX6_nearestWithRoom_55 rfl 2 rfl (by decide) rfl ?_
          refine g_goto C dX6_nearestWithRoom_58 8 (by decide) ?_
          have e8 : (roomB (S.1 17) (S.1 18) (S.1 19) (S.1 29) q) k9 x = ((k9 : Int), ((S.1 17) (k9 : Int))) := by
            unfold roomB
            first | (rw [if_pos (by omega)]) | (rw [if_neg (by omega)])
          have i8 := ih8 (by omega)
          rw [show roomI (S.1 17) (S.1 18) (S.1 19) (S.1 29) q (k9 + 1) = ((k9 : Int), ((S.1 17) (k9 : Int))) from by rw [← e8, hx8]; rfl] at i8
          exact g_to [0, 1, 2, 3, 4, 5] (i8) rfl rfl rfl
  refine g_to [0, 1, 2, 3, 4, 5] (L8 0 (by omega)) rfl rfl rfl
abbrev r_X6_tell : Room := { frames := 1, cells := 0, slots := 0, locals := 21 }
set_option maxHeartbeats 4000000 in
set_option maxRecDepth 100000 in
theorem k_X6_tell (l : Launch) (E : gE) (ad : Nat → Nat) (S : gS) (k wh : Int) (hS : okT S) (hk : 0 ≤ k ∧ k < 4) (hw : -2147483648 ≤ wh ∧ wh ≤ 2147483647) : gK l E yX6_tell cX6_tell 3 (some .int) r_X6_tell [.ref (ad 16), .int (iI k), .int (iI wh)] (wT E ad S) (some (.int (iI (rTell S k wh)))) (wT E ad S) := by
  refine gK_by RX6 rfl mX6_tell [(0, .ref (ad 16)), (1, .int (iI k)), (2, .int (iI wh))] (Nat.le_of_ble_eq_true rfl) rfl ?_
  intro zp ze zs zm za zb zh zc zA zQ C Z
  refine g_iload_n C dX6_tell_0 rfl 2 rfl ?_
  by_cases c1_0 : wh = 0
  · refine g_tableIn C dX6_tell_1 32 0 c1_0 (by omega) (by decide) (by decide) rfl (by decide) ?_
    refine g_aload_n C dX6_tell_32 rfl 0 rfl ?_
    refine g_iload_n C dX6_tell_33 rfl 1 rfl ?_
    refine g_callU0 (As := [.int (iI k)]) (rv := some (.int (iI ((S.1 17) k % 10)))) (w1 := wT E ad S) (kc' := 0) (ks' := 0) C "FloodWardens$Numbered" RX6 (k_X4_xOf_X6 l E ad S k hS (by omega)) mX4_xOf ⟨wd322, wd346, wd345⟩ rfl (by decide +kernel) wd344 16 5 rfl rfl rfl rfl rfl (Nat.le_of_ble_eq_true rfl) ⟨Nat.le_of_ble_eq_true rfl, Nat.le_of_ble_eq_true rfl⟩ ⟨Nat.le_of_ble_eq_true rfl, Nat.le_of_ble_eq_true rfl⟩ rfl rfl dX6_tell_34 rfl ?_
    exact z_iret C Z rfl dX6_tell_37 (by exact congrArg (fun z => some (Value.int (iI z))) (by unfold rTell; (repeat' split) <;> first | rfl | omega)) rfl
  by_cases c1_1 : wh = 1
  · refine g_tableIn C dX6_tell_1 38 1 c1_1 (by omega) (by decide) (by decide) rfl (by decide) ?_
    refine g_aload_n C dX6_tell_38 rfl 0 rfl ?_
    refine g_iload_n C dX6_tell_39 rfl 1 rfl ?_
    refine g_callU0 (As := [.int (iI k)]) (rv := some (.int (iI ((S.1 17) k / 10)))) (w1 := wT E ad S) (kc' := 0) (ks' := 0) C "FloodWardens$Numbered" RX6 (k_X4_yOf_X6 l E ad S k hS (by omega)) mX4_yOf ⟨wd328, wd349, wd348⟩ rfl (by decide +kernel) wd347 16 5 rfl rfl rfl rfl rfl (Nat.le_of_ble_eq_true rfl) ⟨Nat.le_of_ble_eq_true rfl, Nat.le_of_ble_eq_true rfl⟩ ⟨Nat.le_of_ble_eq_true rfl, Nat.le_of_ble_eq_true rfl⟩ rfl rfl dX6_tell_40 rfl ?_
    exact z_iret C Z rfl dX6_tell_43 (by exact congrArg (fun z => some (Value.int (iI z))) (by unfold rTell; (repeat' split) <;> first | rfl | omega)) rfl
  by_cases c1_2 : wh = 2
  · refine g_tableIn C dX6_tell_1 44 2 c1_2 (by omega) (by decide) (by decide) rfl (by decide) ?_
    refine g_aload_n C dX6_tell_44 rfl 0 rfl ?_
    refine g_get (v := .ref (ad 18)) (T := TX6) (N := 5) (ci := 5) C in_X6 16 rfl rfl 2 (by decide) wd145 (Or.inl rfl) rfl dX6_tell_45 rfl ?_
    refine g_iload_n C dX6_tell_48 rfl 1 rfl ?_
    refine g_iald (f := (S.1 18)) C dX6_tell_49 rfl 18 rfl (by omega) (by decide) ?_
    have b49 := okT_18 hS k
    exact z_iret C Z rfl dX6_tell_50 (by exact congrArg (fun z => some (Value.int (iI z))) (by unfold rTell; (repeat' split) <;> first | rfl | omega)) rfl
  by_cases c1_3 : wh = 3
  · refine g_tableIn C dX6_tell_1 51 3 c1_3 (by omega) (by decide) (by decide) rfl (by decide) ?_
    refine g_aload_n C dX6_tell_51 rfl 0 rfl ?_
    refine g_get (v := .ref (ad 19)) (T := TX6) (N := 5) (ci := 5) C in_X6 16 rfl rfl 3 (by decide) wd146 (Or.inl rfl) rfl dX6_tell_52 rfl ?_
    refine g_iload_n C dX6_tell_55 rfl 1 rfl ?_
    refine g_iald (f := (S.1 19)) C dX6_tell_56 rfl 19 rfl (by omega) (by decide) ?_
    have b56 := okT_19 hS k
    exact z_iret C Z rfl dX6_tell_57 (by exact congrArg (fun z => some (Value.int (iI z))) (by unfold rTell; (repeat' split) <;> first | rfl | omega)) rfl
  refine g_tableOut C dX6_tell_1 58 (by omega) (by omega) (by decide) ?_
  refine g_aload_n C dX6_tell_58 rfl 0 rfl ?_
  refine g_get (v := .ref (ad 20)) (T := TX6) (N := 5) (ci := 5) C in_X6 16 rfl rfl 4 (by decide) wd147 (Or.inl rfl) rfl dX6_tell_59 rfl ?_
  refine g_iload_n C dX6_tell_62 rfl 1 rfl ?_
  refine g_iald (f := (S.1 20)) C dX6_tell_63 rfl 20 rfl (by omega) (by decide) ?_
  exact z_iret C Z rfl dX6_tell_64 (by exact congrArg (fun z => some (Value.int (iI z))) (by unfold rTell; (repeat' split) <;> first | rfl | omega)) rfl
