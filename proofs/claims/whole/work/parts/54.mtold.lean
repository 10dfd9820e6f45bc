abbrev r_X11_peopleAt : Room := { frames := 0, cells := 0, slots := 0, locals := 0 }
set_option maxHeartbeats 4000000 in
set_option maxRecDepth 100000 in
theorem k_X11_peopleAt (l : Launch) (E : gE) (am : Nat → Nat) (sa : Nat) (M : gS) (ad : Nat → Nat) (S : gS) (q : Int) (hM : okM M) (hS : okS S) (hq : 0 ≤ q ∧ q < 80) : gK l E yX11_peopleAt cX11_peopleAt 4 (some .int) r_X11_peopleAt [.ref (am 0), .int (iI q)] (wM E am (ad 0) sa M ++ (wS E ad S)) (some (.int (iI (papI S q (M.2 4).toNat)))) (wM E am (ad 0) sa M ++ (wS E ad S)) := by
  refine gK_by RX11 rfl mX11_peopleAt [(0, .ref (am 0)), (1, .int (iI q))] (Nat.le_of_ble_eq_true rfl) rfl ?_
  intro zp ze zs zm za zb zh zc zA zQ C Z
  refine g_iconst C dX11_peopleAt_0 rfl ?_
  refine g_istore_n (lv' := [(2, .int (iI (0))), (0, .ref (am 0)), (1, .int (iI q))]) C dX11_peopleAt_1 rfl (by decide) rfl ?_
  refine g_iconst C dX11_peopleAt_2 rfl ?_
  refine g_istore_n (lv' := [(3, .int (iI (0))), (2, .int (iI (0))), (0, .ref (am 0)), (1, .int (iI q))]) C dX11_peopleAt_3 rfl (by decide) rfl ?_
  have L4 : ∀ k9 : Nat, k9 ≤ (M.2 4).toNat → gG E zp l ze r_X11_peopleAt zs zm za zb zh zc zA 4 0 0 zQ (wM E am (ad 0) sa M ++ (wS E ad S)) 4 [(3, .int (iI (k9 : Int))), (2, .int (iI (papI S q k9))), (0, .ref (am 0)), (1, .int (iI q))] [] := by
    refine g_up ((M.2 4).toNat) _ ?_
    intro k9 ih4 hk4
    obtain ⟨x, hx4⟩ : ∃ z, z = papI S q k9 := ⟨_, rfl⟩
    rw [← hx4]
    have ff9 := okM_i4 hM
    refine g_iload_n C dX11_peopleAt_4 rfl 0 rfl ?_
    refine g_aload_n C dX11_peopleAt_5 rfl 2 rfl ?_
    refine g_get (v := .int (iI (M.2 4))) (T := TX11) (N := 13) (ci := 10) C in_X11 0 rfl rfl 5 (by decide) wd939 (Or.inl rfl) rfl dX11_peopleAt_6 rfl ?_
    have f6 := okM_i4 hM
    refine g_icmp_ge C dX11_peopleAt_9 70 (by decide) rfl (by omega) (by omega) (fun c9 => ?_) (fun c9 => ?_)
    · skip
      have hz4 : x = papI S q (M.2 4).toNat := by rw [hx4, show k9 = (M.2 4).toNat from by omega] <;> rfl
      refine g_iload_n C dX11_peopleAt_70 rfl 1 rfl ?_
      exact z_iret C Z rfl dX11_peopleAt_71 (by exact congrArg (fun z => some (Value.int (iI z))) (hz4.symm)) rfl
    · skip
      refine g_iload_n C dX11_peopleAt_12 rfl 1 rfl ?_
      refine g_aload_n C dX11_peopleAt_13 rfl 2 rfl ?_
      refine g_get (v := .ref (ad 0)) (T := TX11) (N := 13) (ci := 10) C in_X11 0 rfl rfl 11 (by decide) wd945 (Or.inl rfl) rfl dX11_peopleAt_14 rfl ?_
      refine g_getN (v := .ref (ad 7)) (T := TX10) (N := 10) (ci := 9) C rfl in_X10 6 rfl rfl 8 (by decide) (by decide +kernel) rfl rfl dX11_peopleAt_17 rfl ?_
      refine g_iconst C dX11_peopleAt_20 rfl ?_
      refine g_iload_n C dX11_peopleAt_21 rfl 0 rfl ?_
      refine g_imul C dX11_peopleAt_22 rfl ?_
      refine g_iald (f := (S.1 7)) C dX11_peopleAt_23 rfl 13 rfl (by omega) (by decide) ?_
      have b23 := okS_70 hS (k9 : Int)
      refine g_iload_n C dX11_peopleAt_24 rfl 3 rfl ?_
      refine g_icmp_ne C dX11_peopleAt_25 61 (by decide) rfl (by omega) (by omega) (fun c25 => ?_) (fun c25 => ?_)
      · skip
        refine g_iconst C dX11_peopleAt_61 rfl ?_
        refine g_iadd C dX11_peopleAt_62 rfl ?_
        refine g_istore_n (lv' := [(2, .int (iI (x + (0)))), (3, .int (iI (k9 : Int))), (0, .ref (am 0)), (1, .int (iI q))]) C dX11_peopleAt_63 rfl (by decide) rfl ?_
        refine g_iinc (lv' := [(3, .int (iI ((k9 : Int) + 1))), (2, .int (iI (x + (0)))), (0, .ref (am 0)), (1, .int (iI q))]) C dX11_peopleAt_64 rfl 1 rfl (by decide) rfl ?_
        refine g_goto C dX11_peopleAt_67 4 (by decide) ?_
        have e4 : (papB S q) k9 x = (x + (0)) := by
          unfold papB tod
          first | (rw [if_pos (by omega)] <;> rfl) | (rw [if_neg (by omega)] <;> rfl)
        have i4 := ih4 (by omega)
        rw [show papI S q (k9 + 1) = (x + (0)) from by rw [← e4, hx4]; rfl] at i4
        exact g_to [0, 1, 2, 3] (i4) rfl rfl rfl
      · skip
        refine g_aload_n C dX11_peopleAt_28 rfl 2 rfl ?_
        refine g_get (v := .ref (ad 0)) (T := TX11) (N := 13) (ci := 10) C in_X11 0 rfl rfl 11 (by decide) wd945 (Or.inl rfl) rfl dX11_peopleAt_29 rfl ?_
        refine g_getN (v := .ref (ad 7)) (T := TX10) (N := 10) (ci := 9) C rfl in_X10 6 rfl rfl 8 (by decide) (by decide +kernel) rfl rfl dX11_peopleAt_32 rfl ?_
        refine g_iconst C dX11_peopleAt_35 rfl ?_
        refine g_iload_n C dX11_peopleAt_36 rfl 0 rfl ?_
        refine g_imul C dX11_peopleAt_37 rfl ?_
        refine g_iconst C dX11_peopleAt_38 rfl ?_
        refine g_iadd C dX11_peopleAt_39 rfl ?_
        refine g_iald (f := (S.1 7)) C dX11_peopleAt_40 rfl 13 rfl (by omega) (by decide) ?_
        have b40 := okS_72 hS (k9 : Int)
        refine g_iconst C dX11_peopleAt_41 rfl ?_
        refine g_icmp_ge C dX11_peopleAt_42 61 (by decide) rfl (by omega) (by omega) (fun c42 => ?_) (fun c42 => ?_)
        · skip
          refine g_iconst C dX11_peopleAt_61 rfl ?_
          refine g_iadd C dX11_peopleAt_62 rfl ?_
          refine g_istore_n (lv' := [(2, .int (iI (x + (0)))), (3, .int (iI (k9 : Int))), (0, .ref (am 0)), (1, .int (iI q))]) C dX11_peopleAt_63 rfl (by decide) rfl ?_
          refine g_iinc (lv' := [(3, .int (iI ((k9 : Int) + 1))), (2, .int (iI (x + (0)))), (0, .ref (am 0)), (1, .int (iI q))]) C dX11_peopleAt_64 rfl 1 rfl (by decide) rfl ?_
          refine g_goto C dX11_peopleAt_67 4 (by decide) ?_
          have e4 : (papB S q) k9 x = (x + (0)) := by
            unfold papB tod
            first | (rw [if_pos (by omega)] <;> rfl) | (rw [if_neg (by omega)] <;> rfl)
          have i4 := ih4 (by omega)
          rw [show papI S q (k9 + 1) = (x + (0)) from by rw [← e4, hx4]; rfl] at i4
          exact g_to [0, 1, 2, 3] (i4) rfl rfl rfl
        · skip
          refine g_aload_n C dX11_peopleAt_45 rfl 2 rfl ?_
          refine g_get (v := .ref (ad 0)) (T := TX11) (N := 13) (ci := 10) C in_X11 0 rfl rfl 11 (by decide) wd945 (Or.inl rfl) rfl dX11_peopleAt_46 rfl ?_
          refine g_getN (v := .ref (ad 7)) (T := TX10) (N := 10) (ci := 9) C rfl in_X10 6 rfl rfl 8 (by decide) (by decide +kernel) rfl rfl dX11_peopleAt_49 rfl ?_
          refine g_iconst C dX11_peopleAt_52 rfl ?_
          refine g_iload_n C dX11_peopleAt_53 rfl 0 rfl ?_
          refine g_imul C dX11_peopleAt_54 rfl ?_
          refine g_iconst C dX11_peopleAt_55 rfl ?_
          refine g_iadd C dX11_peopleAt_56 rfl ?_
          refine g_iald (f := (S.1 7)) C dX11_peopleAt_57 rfl 13 rfl (by omega) (by decide) ?_
          have b57 := okS_71 hS (k9 : Int)
          refine g_goto C dX11_peopleAt_58 62 (by decide) ?_
          refine g_iadd C dX11_peopleAt_62 rfl ?_
          refine g_istore_n (lv' := [(2, .int (iI (x + ((S.1 7) (((4) * (k9 : Int)) + (1)))))), (3, .int (iI (k9 : Int))), (0, .ref (am 0)), (1, .int (iI q))]) C dX11_peopleAt_63 rfl (by decide) rfl ?_
          refine g_iinc (lv' := [(3, .int (iI ((k9 : Int) + 1))), (2, .int (iI (x + ((S.1 7) (((4) * (k9 : Int)) + (1)))))), (0, .ref (am 0)), (1, .int (iI q))]) C dX11_peopleAt_64 rfl 1 rfl (by decide) rfl ?_
          refine g_goto C dX11_peopleAt_67 4 (by decide) ?_
          have e4 : (papB S q) k9 x = (x + ((S.1 7) (((4) * (k9 : Int)) + (1)))) := by
            unfold papB tod
            first | (rw [if_pos (by omega)] <;> rfl) | (rw [if_neg (by omega)] <;> rfl)
          have i4 := ih4 (by omega)
          rw [show papI S q (k9 + 1) = (x + ((S.1 7) (((4) * (k9 : Int)) + (1)))) from by rw [← e4, hx4]; rfl] at i4
          exact g_to [0, 1, 2, 3] (i4) rfl rfl rfl
  refine g_to [0, 1, 2, 3] (L4 0 (by omega)) rfl rfl rfl
abbrev r_X11_cellTold : Room := { frames := 1, cells := 1, slots := 6, locals := 23 }
set_option maxHeartbeats 4000000 in
set_option maxRecDepth 100000 in
theorem k_X11_cellTold (l : Launch) (E : gE) (am : Nat → Nat) (sa : Nat) (M : gS) (ad : Nat → Nat) (S : gS) (q what : Int) (hM : okM M) (hS : okS S) (hq : 0 ≤ q ∧ q < 80) (hw : 0 ≤ what ∧ what < 6) : gK l E yX11_cellTold cX11_cellTold 4 (some .int) r_X11_cellTold [.ref (am 0), .int (iI q), .int (iI what)] (wM E am (ad 0) sa M ++ (wS E ad S)) (some (.int (iI (mCel S (M.2 4).toNat q what)))) (wM E am (ad 0) sa M ++ (wS E ad S)) := by
  refine gK_by RX11 rfl mX11_cellTold [(0, .ref (am 0)), (1, .int (iI q)), (2, .int (iI what))] (Nat.le_of_ble_eq_true rfl) rfl ?_
  intro zp ze zs zm za zb zh zc zA zQ C Z
  refine g_bipush C dX11_cellTold_0 rfl rfl ?_
  refine g_newa (N := 6) C wd66 rfl (by decide) ⟨Nat.le_of_ble_eq_true rfl, Nat.le_of_ble_eq_true rfl⟩ dX11_cellTold_2 rfl (fun na2 => ?_)
  refine g_to [0, 1, 2] (ws1 := wM E am (ad 0) sa M ++ (wS E ad S ++ ([(na2, ca E 6 (fun _ => 0))]))) ?_ (by simp only [List.append_assoc]) rfl rfl
  refine g_dup C dX11_cellTold_4 rfl rfl ?_
  refine g_iconst C dX11_cellTold_5 rfl ?_
  refine g_aload_n C dX11_cellTold_6 rfl 0 rfl ?_
  refine g_get (v := .ref (ad 0)) (T := TX11) (N := 13) (ci := 10) C in_X11 0 rfl rfl 11 (by decide) wd945 (Or.inl rfl) rfl dX11_cellTold_7 rfl ?_
  refine g_getN (v := .ref (ad 1)) (T := TX10) (N := 10) (ci := 9) C rfl in_X10 6 rfl rfl 2 (by decide) (by decide +kernel) rfl rfl dX11_cellTold_10 rfl ?_
  refine g_iload_n C dX11_cellTold_13 rfl 1 rfl ?_
  refine g_iald (f := (S.1 1)) C dX11_cellTold_14 rfl 7 rfl (by omega) (by decide) ?_
  have b14 := okS_1 hS q
  refine g_iast (f := (fun _ => 0)) (ws' := wM E am (ad 0) sa M ++ (wS E ad S ++ ([(na2, ca E 6 (fset (fun _ => 0) (0) ((S.1 1) q)))]))) C dX11_cellTold_15 rfl 15 rfl (by omega) (by decide) rfl ?_
  refine g_dup C dX11_cellTold_16 rfl rfl ?_
  refine g_iconst C dX11_cellTold_17 rfl ?_
  refine g_aload_n C dX11_cellTold_18 rfl 0 rfl ?_
  refine g_get (v := .ref (ad 0)) (T := TX11) (N := 13) (ci := 10) C in_X11 0 rfl rfl 11 (by decide) wd945 (Or.inl rfl) rfl dX11_cellTold_19 rfl ?_
  refine g_getN (v := .ref (ad 2)) (T := TX10) (N := 10) (ci := 9) C rfl in_X10 6 rfl rfl 3 (by decide) (by decide +kernel) rfl rfl dX11_cellTold_22 rfl ?_
  refine g_iload_n C dX11_cellTold_25 rfl 1 rfl ?_
  refine g_iald (f := (S.1 2)) C dX11_cellTold_26 rfl 8 rfl (by omega) (by decide) ?_
  have b26 := okS_2 hS q
  refine g_iast (f := (fset (fun _ => 0) (0) ((S.1 1) q))) (ws' := wM E am (ad 0) sa M ++ (wS E ad S ++ ([(na2, ca E 6 (fset (fset (fun _ => 0) (0) ((S.1 1) q)) (1) ((S.1 2) q)))]))) C dX11_cellTold_27 rfl 15 rfl (by omega) (by decide) rfl ?_
  refine g_dup C dX11_cellTold_28 rfl rfl ?_
  refine g_iconst C dX11_cellTold_29 rfl ?_
  refine g_aload_n C dX11_cellTold_30 rfl 0 rfl ?_
  refine g_get (v := .ref (ad 0)) (T := TX11) (N := 13) (ci := 10) C in_X11 0 rfl rfl 11 (by decide) wd945 (Or.inl rfl) rfl dX11_cellTold_31 rfl ?_
  refine g_getN (v := .ref (ad 3)) (T := TX10) (N := 10) (ci := 9) C rfl in_X10 6 rfl rfl 4 (by decide) (by decide +kernel) rfl rfl dX11_cellTold_34 rfl ?_
  refine g_iload_n C dX11_cellTold_37 rfl 1 rfl ?_
  refine g_iald (f := (S.1 3)) C dX11_cellTold_38 rfl 9 rfl (by omega) (by decide) ?_
  have b38 := okS_3 hS q
  refine g_iast (f := (fset (fset (fun _ => 0) (0) ((S.1 1) q)) (1) ((S.1 2) q))) (ws' := wM E am (ad 0) sa M ++ (wS E ad S ++ ([(na2, ca E 6 (fset (fset (fset (fun _ => 0) (0) ((S.1 1) q)) (1) ((S.1 2) q)) (2) ((S.1 3) q)))]))) C dX11_cellTold_39 rfl 15 rfl (by omega) (by decide) rfl ?_
  refine g_dup C dX11_cellTold_40 rfl rfl ?_
  refine g_iconst C dX11_cellTold_41 rfl ?_
  refine g_aload_n C dX11_cellTold_42 rfl 0 rfl ?_
  refine g_get (v := .ref (ad 0)) (T := TX11) (N := 13) (ci := 10) C in_X11 0 rfl rfl 11 (by decide) wd945 (Or.inl rfl) rfl dX11_cellTold_43 rfl ?_
  refine g_iload_n C dX11_cellTold_46 rfl 1 rfl ?_
  refine g_perm (ws1 := wS E ad S ++ (wM E am (ad 0) sa M ++ ([(na2, ca E 6 (fset (fset (fset (fun _ => 0) (0) ((S.1 1) q)) (1) ((S.1 2) q)) (2) ((S.1 3) q)))]))) pm_102 ?_
  refine g_callVf (As := [.int (iI q)]) (rv := some (.int (iI (lev (S.1 1) (S.1 2) (S.1 3) q)))) (w1 := wS E ad S) (kc' := 1) (ks' := 6) C (wM E am (ad 0) sa M ++ ([(na2, ca E 6 (fset (fset (fset (fun _ => 0) (0) ((S.1 1) q)) (1) ((S.1 2) q)) (2) ((S.1 3) q)))])) (k_X10_levelOf l E ad S q hS (by omega)) mX10_levelOf iX10_levelOf wd1038 0 9 rfl rfl rfl rfl rfl (Nat.le_of_ble_eq_true rfl) ⟨Nat.le_of_ble_eq_true rfl, Nat.le_of_ble_eq_true rfl⟩ ⟨Nat.le_of_ble_eq_true rfl, Nat.le_of_ble_eq_true rfl⟩ rfl rfl rfl dX11_cellTold_47 rfl ?_
  refine g_perm (ws1 := wM E am (ad 0) sa M ++ (wS E ad S ++ ([(na2, ca E 6 (fset (fset (fset (fun _ => 0) (0) ((S.1 1) q)) (1) ((S.1 2) q)) (2) ((S.1 3) q)))]))) pm_102 ?_
  have n47 := lev_b (okS_1 hS) (okS_2 hS) (okS_3 hS) q
  refine g_iast (f := (fset (fset (fset (fun _ => 0) (0) ((S.1 1) q)) (1) ((S.1 2) q)) (2) ((S.1 3) q))) (ws' := wM E am (ad 0) sa M ++ (wS E ad S ++ ([(na2, ca E 6 (fset (fset (fset (fset (fun _ => 0) (0) ((S.1 1) q)) (1) ((S.1 2) q)) (2) ((S.1 3) q)) (3) (lev (S.1 1) (S.1 2) (S.1 3) q)))]))) C dX11_cellTold_50 rfl 15 rfl (by omega) (by decide) rfl ?_
  refine g_dup C dX11_cellTold_51 rfl rfl ?_
  refine g_iconst C dX11_cellTold_52 rfl ?_
  refine g_aload_n C dX11_cellTold_53 rfl 0 rfl ?_
  refine g_iload_n C dX11_cellTold_54 rfl 1 rfl ?_
  refine g_callVf (As := [.int (iI q)]) (rv := some (.int (iI (papI S q ((M.2 4)).toNat)))) (w1 := wM E am (ad 0) sa M ++ (wS E ad S)) (kc' := 1) (ks' := 6) C ([(na2, ca E 6 (fset (fset (fset (fset (fun _ => 0) (0) ((S.1 1) q)) (1) ((S.1 2) q)) (2) ((S.1 3) q)) (3) (lev (S.1 1) (S.1 2) (S.1 3) q)))]) (k_X11_peopleAt l E am sa M ad S q hM hS (by omega)) mX11_peopleAt iX11_peopleAt wd1042 0 10 rfl rfl rfl rfl rfl (Nat.le_of_ble_eq_true rfl) ⟨Nat.le_of_ble_eq_true rfl, Nat.le_of_ble_eq_true rfl⟩ ⟨Nat.le_of_ble_eq_true rfl, Nat.le_of_ble_eq_true rfl⟩ rfl rfl (by simp only [List.append_assoc]) dX11_cellTold_55 rfl ?_
  refine g_iast (f := (fset (fset (fset (fset (fun _ => 0) (0) ((S.1 1) q)) (1) ((S.1 2) q)) (2) ((S.1 3) q)) (3) (lev (S.1 1) (S.1 2) (S.1 3) q))) (ws' := wM E am (ad 0) sa M ++ (wS E ad S ++ ([(na2, ca E 6 (fset (fset (fset (fset (fset (fun _ => 0) (0) ((S.1 1) q)) (1) ((S.1 2) q)) (2) ((S.1 3) q)) (3) (lev (S.1 1) (S.1 2) (S.1 3) q)) (4) (papI S q ((M.2 4)).toNat)))]))) C dX11_cellTold_58 rfl 15 rfl (by omega) (by decide) rfl ?_
  refine g_dup C dX11_cellTold_59 rfl rfl ?_
  refine g_iconst C dX11_cellTold_60 rfl ?_
  refine g_aload_n C dX11_cellTold_61 rfl 0 rfl ?_
  refine g_get (v := .ref (ad 0)) (T := TX11) (N := 13) (ci := 10) C in_X11 0 rfl rfl 11 (by decide) wd945 (Or.inl rfl) rfl dX11_cellTold_62 rfl ?_
  refine g_iload_n C dX11_cellTold_65 rfl 1 rfl ?_
  refine g_perm (ws1 := wS E ad S ++ (wM E am (ad 0) sa M ++ ([(na2, ca E 6 (fset (fset (fset (fset (fset (fun _ => 0) (0) ((S.1 1) q)) (1) ((S.1 2) q)) (2) ((S.1 3) q)) (3) (lev (S.1 1) (S.1 2) (S.1 3) q)) (4) (papI S q ((M.2 4)).toNat)))]))) pm_102 ?_
  refine g_callVf (As := [.int (iI q)]) (rv := some (.int (iI (bI (q ≠ -1 ∧ (S.1 3) q < 3))))) (w1 := wS E ad S) (kc' := 1) (ks' := 6) C (wM E am (ad 0) sa M ++ ([(na2, ca E 6 (fset (fset (fset (fset (fset (fun _ => 0) (0) ((S.1 1) q)) (1) ((S.1 2) q)) (2) ((S.1 3) q)) (3) (lev (S.1 1) (S.1 2) (S.1 3) q)) (4) (papI S q ((M.2 4)).toNat)))])) (k_X10_canBeWalked l E ad S q hS (by omega)) mX10_canBeWalked iX10_canBeWalked wd1046 0 9 rfl rfl rfl rfl rfl (Nat.le_of_ble_eq_true rfl) ⟨Nat.le_of_ble_eq_true rfl, Nat.le_of_ble_eq_true rfl⟩ ⟨Nat.le_of_ble_eq_true rfl, Nat.le_of_ble_eq_true rfl⟩ rfl rfl rfl dX11_cellTold_66 rfl ?_
  refine g_perm (ws1 := wM E am (ad 0) sa M ++ (wS E ad S ++ ([(na2, ca E 6 (fset (fset (fset (fset (fset (fun _ => 0) (0) ((S.1 1) q)) (1) ((S.1 2) q)) (2) ((S.1 3) q)) (3) (lev (S.1 1) (S.1 2) (S.1 3) q)) (4) (papI S q ((M.2 4)).toNat)))]))) pm_102 ?_
  have n66 := bI_w (q ≠ -1 ∧ (S.1 3) q < 3)
  refine g_if_eq C dX11_cellTold_69 76 (by decide) rfl (by omega) (fun c69 => ?_) (fun c69 => ?_)
  · skip
    refine g_iconst C dX11_cellTold_76 rfl ?_
    refine g_iast (f := (fset (fset (fset (fset (fset (fun _ => 0) (0) ((S.1 1) q)) (1) ((S.1 2) q)) (2) ((S.1 3) q)) (3) (lev (S.1 1) (S.1 2) (S.1 3) q)) (4) (papI S q ((M.2 4)).toNat))) (ws' := wM E am (ad 0) sa M ++ (wS E ad S ++ ([(na2, ca E 6 (fset (fset (fset (fset (fset (fset (fun _ => 0) (0) ((S.1 1) q)) (1) ((S.1 2) q)) (2) ((S.1 3) q)) (3) (lev (S.1 1) (S.1 2) (S.1 3) q)) (4) (papI S q ((M.2 4)).toNat)) (5) (0)))]))) C dX11_cellTold_77 rfl 15 rfl (by omega) (by decide) rfl ?_
    refine g_astore_n (lv' := [(3, .ref na2), (0, .ref (am 0)), (1, .int (iI q)), (2, .int (iI what))]) C dX11_cellTold_78 rfl (by decide) rfl ?_
    refine g_aload_n C dX11_cellTold_79 rfl 0 rfl ?_
    refine g_iload_n C dX11_cellTold_80 rfl 3 rfl ?_
    refine g_iald (f := (fset (fset (fset (fset (fset (fset (fun _ => 0) (0) ((S.1 1) q)) (1) ((S.1 2) q)) (2) ((S.1 3) q)) (3) (lev (S.1 1) (S.1 2) (S.1 3) q)) (4) (papI S q ((M.2 4)).toNat)) (5) (0))) C dX11_cellTold_81 rfl 15 rfl (by omega) (by decide) ?_
    refine g_drop (w1 := wM E am (ad 0) sa M ++ (wS E ad S)) ([(na2, ca E 6 (fset (fset (fset (fset (fset (fset (fun _ => 0) (0) ((S.1 1) q)) (1) ((S.1 2) q)) (2) ((S.1 3) q)) (3) (lev (S.1 1) (S.1 2) (S.1 3) q)) (4) (papI S q ((M.2 4)).toNat)) (5) (0)))]) (by simp only [List.append_assoc]) ?_
    exact z_iret C Z rfl dX11_cellTold_82 (by exact congrArg (fun z => some (Value.int (iI z))) (by (have hw9 : what = 0 ∨ what = 1 ∨ what = 2 ∨ what = 3 ∨ what = 4 ∨ what = 5 := (by omega); rcases hw9 with h9 | h9 | h9 | h9 | h9 | h9 <;> subst h9 <;> (first | rfl | (exact (show bI (q ≠ -1 ∧ S.1 3 q < 3) = 1 from bI_t (by omega))) | (exact (show bI (q ≠ -1 ∧ S.1 3 q < 3) = 0 from bI_f (by omega))))))) rfl
  · skip
    refine g_iconst C dX11_cellTold_72 rfl ?_
    refine g_goto C dX11_cellTold_73 77 (by decide) ?_
    refine g_iast (f := (fset (fset (fset (fset (fset (fun _ => 0) (0) ((S.1 1) q)) (1) ((S.1 2) q)) (2) ((S.1 3) q)) (3) (lev (S.1 1) (S.1 2) (S.1 3) q)) (4) (papI S q ((M.2 4)).toNat))) (ws' := wM E am (ad 0) sa M ++ (wS E ad S ++ ([(na2, ca E 6 (fset (fset (fset (fset (fset (fset (fun _ => 0) (0) ((S.1 1) q)) (1) ((S.1 2) q)) (2) ((S.1 3) q)) (3) (lev (S.1 1) (S.1 2) (S.1 3) q)) (4) (papI S q ((M.2 4)).toNat)) (5) (1)))]))) C dX11_cellTold_77 rfl 15 rfl (by omega) (by decide) rfl ?_
    refine g_astore_n (lv' := [(3, .ref na2), (0, .ref (am 0)), (1, .int (iI q)), (2, .int (iI what))]) C dX11_cellTold_78 rfl (by decide) rfl ?_
    refine g_aload_n C dX11_cellTold_79 rfl 0 rfl ?_
    refine g_iload_n C dX11_cellTold_80 rfl 3 rfl ?_
    refine g_iald (f := (fset (fset (fset (fset (fset (fset (fun _ => 0) (0) ((S.1 1) q)) (1) ((S.1 2) q)) (2) ((S.1 3) q)) (3) (lev (S.1 1) (S.1 2) (S.1 3) q)) (4) (papI S q ((M.2 4)).toNat)) (5) (1))) C dX11_cellTold_81 rfl 15 rfl (by omega) (by decide) ?_
    refine g_drop (w1 := wM E am (ad 0) sa M ++ (wS E ad S)) ([(na2, ca E 6 (fset (fset (fset (fset (fset (fset (fun _ => 0) (0) ((S.1 1) q)) (1) ((S.1 2) q)) (2) ((S.1 3) q)) (3) (lev (S.1 1) (S.1 2) (S.1 3) q)) (4) (papI S q ((M.2 4)).toNat)) (5) (1)))]) (by simp only [List.append_assoc]) ?_
    exact z_iret C Z rfl dX11_cellTold_82 (by exact congrArg (fun z => some (Value.int (iI z))) (by (have hw9 : what = 0 ∨ what = 1 ∨ what = 2 ∨ what = 3 ∨ what = 4 ∨ what = 5 := (by omega); rcases hw9 with h9 | h9 | h9 | h9 | h9 | h9 <;> subst h9 <;> (first | rfl | (exact (show bI (q ≠ -1 ∧ S.1 3 q < 3) = 1 from bI_t (by omega))) | (exact (show bI (q ≠ -1 ∧ S.1 3 q < 3) = 0 from bI_f (by omega))))))) rfl
abbrev r_X11_pumpTold : Room := { frames := 0, cells := 0, slots := 0, locals := 0 }
set_option maxHeartbeats 4000000 in
set_option maxRecDepth 100000 in
theorem k_X11_pumpTold (l : Launch) (E : gE) (am : Nat → Nat) (sa : Nat) (M : gS) (ad : Nat → Nat) (S : gS) (p what : Int) (hM : okM M) (hS : okS S) (hi : 0 ≤ p ∧ p < 5) (hw : 0 ≤ what ∧ what < 6) : gK l E yX11_pumpTold cX11_pumpTold 3 (some .int) r_X11_pumpTold [.ref (am 0), .int (iI p), .int (iI what)] (wM E am (ad 0) sa M ++ (wS E ad S)) (some (.int (iI (mPmp S p what)))) (wM E am (ad 0) sa M ++ (wS E ad S)) := by
  refine gK_by RX11 rfl mX11_pumpTold [(0, .ref (am 0)), (1, .int (iI p)), (2, .int (iI what))] (Nat.le_of_ble_eq_true rfl) rfl ?_
  intro zp ze zs zm za zb zh zc zA zQ C Z
  refine g_iload_n C dX11_pumpTold_0 rfl 2 rfl ?_
  refine g_if_ne C dX11_pumpTold_1 21 (by decide) rfl (by omega) (fun c1 => ?_) (fun c1 => ?_)
  · skip
    refine g_iload_n C dX11_pumpTold_21 rfl 2 rfl ?_
    refine g_iconst C dX11_pumpTold_22 rfl ?_
    refine g_icmp_ne C dX11_pumpTold_23 43 (by decide) rfl (by omega) (by omega) (fun c23 => ?_) (fun c23 => ?_)
    · skip
      refine g_aload_n C dX11_pumpTold_43 rfl 0 rfl ?_
      refine g_get (v := .ref (ad 0)) (T := TX11) (N := 13) (ci := 10) C in_X11 0 rfl rfl 11 (by decide) wd945 (Or.inl rfl) rfl dX11_pumpTold_44 rfl ?_
      refine g_getN (v := .ref (ad 4)) (T := TX10) (N := 10) (ci := 9) C rfl in_X10 6 rfl rfl 5 (by decide) (by decide +kernel) rfl rfl dX11_pumpTold_47 rfl ?_
      refine g_iconst C dX11_pumpTold_50 rfl ?_
      refine g_iload_n C dX11_pumpTold_51 rfl 1 rfl ?_
      refine g_imul C dX11_pumpTold_52 rfl ?_
      refine g_iload_n C dX11_pumpTold_53 rfl 2 rfl ?_
      refine g_iadd C dX11_pumpTold_54 rfl ?_
      refine g_iconst C dX11_pumpTold_55 rfl ?_
      refine g_isub C dX11_pumpTold_56 rfl ?_
      refine g_iald (f := (S.1 4)) C dX11_pumpTold_57 rfl 10 rfl (by omega) (by decide) ?_
      exact z_iret C Z rfl dX11_pumpTold_58 (by exact congrArg (fun z => some (Value.int (iI z))) (by unfold mPmp; repeat (first | (rw [if_pos (by omega)]) | (rw [if_neg (by omega)]) | (rw [if_pos trivial])))) rfl
    · skip
      refine g_aload_n C dX11_pumpTold_26 rfl 0 rfl ?_
      refine g_get (v := .ref (ad 0)) (T := TX11) (N := 13) (ci := 10) C in_X11 0 rfl rfl 11 (by decide) wd945 (Or.inl rfl) rfl dX11_pumpTold_27 rfl ?_
      refine g_getN (v := .ref (ad 4)) (T := TX10) (N := 10) (ci := 9) C rfl in_X10 6 rfl rfl 5 (by decide) (by decide +kernel) rfl rfl dX11_pumpTold_30 rfl ?_
      refine g_iconst C dX11_pumpTold_33 rfl ?_
      refine g_iload_n C dX11_pumpTold_34 rfl 1 rfl ?_
      refine g_imul C dX11_pumpTold_35 rfl ?_
      refine g_iald (f := (S.1 4)) C dX11_pumpTold_36 rfl 10 rfl (by omega) (by decide) ?_
      have b36 := okS_40 hS p
      refine g_bipush C dX11_pumpTold_37 rfl rfl ?_
      refine g_idiv C dX11_pumpTold_39 rfl (by omega) (by omega) ?_
      refine g_goto C dX11_pumpTold_40 58 (by decide) ?_
      exact z_iret C Z rfl dX11_pumpTold_58 (by exact congrArg (fun z => some (Value.int (iI z))) (by unfold mPmp; repeat (first | (rw [if_pos (by omega)]) | (rw [if_neg (by omega)]) | (rw [if_pos trivial])))) rfl
  · skip
    refine g_aload_n C dX11_pumpTold_4 rfl 0 rfl ?_
    refine g_get (v := .ref (ad 0)) (T := TX11) (N := 13) (ci := 10) C in_X11 0 rfl rfl 11 (by decide) wd945 (Or.inl rfl) rfl dX11_pumpTold_5 rfl ?_
    refine g_getN (v := .ref (ad 4)) (T := TX10) (N := 10) (ci := 9) C rfl in_X10 6 rfl rfl 5 (by decide) (by decide +kernel) rfl rfl dX11_pumpTold_8 rfl ?_
    refine g_iconst C dX11_pumpTold_11 rfl ?_
    refine g_iload_n C dX11_pumpTold_12 rfl 1 rfl ?_
    refine g_imul C dX11_pumpTold_13 rfl ?_
    refine g_iald (f := (S.1 4)) C dX11_pumpTold_14 rfl 10 rfl (by omega) (by decide) ?_
    have b14 := okS_40 hS p
    refine g_bipush C dX11_pumpTold_15 rfl rfl ?_
    refine g_irem C dX11_pumpTold_17 rfl (by omega) (by omega) ?_
    refine g_goto C dX11_pumpTold_18 58 (by decide) ?_
    exact z_iret C Z rfl dX11_pumpTold_58 (by exact congrArg (fun z => some (Value.int (iI z))) (by unfold mPmp; repeat (first | (rw [if_pos (by omega)]) | (rw [if_neg (by omega)]) | (rw [if_pos trivial])))) rfl
abbrev r_X11_gaugeTold : Room := { frames := 1, cells := 0, slots := 0, locals := 22 }
set_option maxHeartbeats 4000000 in
set_option maxRecDepth 100000 in
theorem k_X11_gaugeTold (l : Launch) (E : gE) (am : Nat → Nat) (sa : Nat) (M : gS) (ad : Nat → Nat) (S : gS) (g what : Int) (hM : okM M) (hS : okS S) (hi : 0 ≤ g ∧ g < 4) (hw : 0 ≤ what ∧ what < 5) : gK l E yX11_gaugeTold cX11_gaugeTold 4 (some .int) r_X11_gaugeTold [.ref (am 0), .int (iI g), .int (iI what)] (wM E am (ad 0) sa M ++ (wS E ad S)) (some (.int (iI (mGau S g what)))) (wM E am (ad 0) sa M ++ (wS E ad S)) := by
  refine gK_by RX11 rfl mX11_gaugeTold [(0, .ref (am 0)), (1, .int (iI g)), (2, .int (iI what))] (Nat.le_of_ble_eq_true rfl) rfl ?_
  intro zp ze zs zm za zb zh zc zA zQ C Z
  refine g_aload_n C dX11_gaugeTold_0 rfl 0 rfl ?_
  refine g_get (v := .ref (ad 0)) (T := TX11) (N := 13) (ci := 10) C in_X11 0 rfl rfl 11 (by decide) wd945 (Or.inl rfl) rfl dX11_gaugeTold_1 rfl ?_
  refine g_getN (v := .ref (ad 5)) (T := TX10) (N := 10) (ci := 9) C rfl in_X10 6 rfl rfl 6 (by decide) (by decide +kernel) rfl rfl dX11_gaugeTold_4 rfl ?_
  refine g_iconst C dX11_gaugeTold_7 rfl ?_
  refine g_iload_n C dX11_gaugeTold_8 rfl 1 rfl ?_
  refine g_imul C dX11_gaugeTold_9 rfl ?_
  refine g_iald (f := (S.1 5)) C dX11_gaugeTold_10 rfl 11 rfl (by omega) (by decide) ?_
  have b10 := okS_50 hS g
  refine g_istore_n (lv' := [(3, .int (iI ((S.1 5) ((2) * g)))), (0, .ref (am 0)), (1, .int (iI g)), (2, .int (iI what))]) C dX11_gaugeTold_11 rfl (by decide) rfl ?_
  refine g_iload_n C dX11_gaugeTold_12 rfl 3 rfl ?_
  refine g_if_ne C dX11_gaugeTold_13 23 (by decide) rfl (by omega) (fun c13 => ?_) (fun c13 => ?_)
  · skip
    refine g_iload_n C dX11_gaugeTold_23 rfl 3 rfl ?_
    refine g_iconst C dX11_gaugeTold_24 rfl ?_
    refine g_icmp_ne C dX11_gaugeTold_25 35 (by decide) rfl (by omega) (by omega) (fun c25 => ?_) (fun c25 => ?_)
    · skip
      refine g_iload_n C dX11_gaugeTold_35 rfl 3 rfl ?_
      refine g_iconst C dX11_gaugeTold_36 rfl ?_
      refine g_icmp_ne C dX11_gaugeTold_37 56 (by decide) rfl (by omega) (by omega) (fun c37 => ?_) (fun c37 => ?_)
      · skip
        refine g_iload_n C dX11_gaugeTold_56 rfl 3 rfl ?_
        refine g_iconst C dX11_gaugeTold_57 rfl ?_
        refine g_icmp_ne C dX11_gaugeTold_58 73 (by decide) rfl (by omega) (by omega) (fun c58 => ?_) (fun c58 => ?_)
        · skip
          refine g_aload_n C dX11_gaugeTold_73 rfl 1 rfl ?_
          refine g_aload_n C dX11_gaugeTold_74 rfl 1 rfl ?_
          refine g_get (v := .ref (ad 0)) (T := TX11) (N := 13) (ci := 10) C in_X11 0 rfl rfl 11 (by decide) wd945 (Or.inl rfl) rfl dX11_gaugeTold_75 rfl ?_
          refine g_iload_n C dX11_gaugeTold_78 rfl 2 rfl ?_
          refine g_callV0 (As := [.ref (ad 0), .int (iI g)]) (rv := some (.int (iI (bI ((S.1 5) (2 * g + 1) ≤ (S.1 3) ((S.1 5) (2 * g))))))) (w1 := wM E am (ad 0) sa M ++ (wS E ad S)) (kc' := 0) (ks' := 0) C (k_X11_rings l E am (ad 0) sa M ad S g hM hS (by omega)) mX11_rings iX11_rings wd1066 0 10 rfl rfl rfl rfl rfl (Nat.le_of_ble_eq_true rfl) ⟨Nat.le_of_ble_eq_true rfl, Nat.le_of_ble_eq_true rfl⟩ ⟨Nat.le_of_ble_eq_true rfl, Nat.le_of_ble_eq_true rfl⟩ rfl rfl dX11_gaugeTold_79 rfl ?_
          have n79 := bI_w ((S.1 5) (2 * g + 1) ≤ (S.1 3) ((S.1 5) (2 * g)))
          refine g_if_eq C dX11_gaugeTold_82 89 (by decide) rfl (by omega) (fun c82 => ?_) (fun c82 => ?_)
          · skip
            refine g_iconst C dX11_gaugeTold_89 rfl ?_
            exact z_iret C Z rfl dX11_gaugeTold_90 (by exact congrArg (fun z => some (Value.int (iI z))) (by unfold mGau; (try rw [bI_t (by omega)]); (try rw [bI_f (by omega)]); repeat (first | (rw [if_pos (by omega)]) | (rw [if_neg (by omega)]) | (rw [if_pos trivial])))) rfl
          · skip
            refine g_iconst C dX11_gaugeTold_85 rfl ?_
            refine g_goto C dX11_gaugeTold_86 90 (by decide) ?_
            exact z_iret C Z rfl dX11_gaugeTold_90 (by exact congrArg (fun z => some (Value.int (iI z))) (by unfold mGau; (try rw [bI_t (by omega)]); (try rw [bI_f (by omega)]); repeat (first | (rw [if_pos (by omega)]) | (rw [if_neg (by omega)]) | (rw [if_pos trivial])))) rfl
        · skip
          refine g_aload_n C dX11_gaugeTold_61 rfl 1 rfl ?_
          refine g_get (v := .ref (ad 0)) (T := TX11) (N := 13) (ci := 10) C in_X11 0 rfl rfl 11 (by decide) wd945 (Or.inl rfl) rfl dX11_gaugeTold_62 rfl ?_
          refine g_getN (v := .ref (ad 3)) (T := TX10) (N := 10) (ci := 9) C rfl in_X10 6 rfl rfl 4 (by decide) (by decide +kernel) rfl rfl dX11_gaugeTold_65 rfl ?_
          refine g_iload_n C dX11_gaugeTold_68 rfl 0 rfl ?_
          refine g_iald (f := (S.1 3)) C dX11_gaugeTold_69 rfl 9 rfl (by omega) (by decide) ?_
          have b69 := okS_3 hS ((S.1 5) ((2) * g))
          refine g_goto C dX11_gaugeTold_70 90 (by decide) ?_
          exact z_iret C Z rfl dX11_gaugeTold_90 (by exact congrArg (fun z => some (Value.int (iI z))) (by unfold mGau; (try rw [bI_t (by omega)]); (try rw [bI_f (by omega)]); repeat (first | (rw [if_pos (by omega)]) | (rw [if_neg (by omega)]) | (rw [if_pos trivial])))) rfl
      · skip
        refine g_aload_n C dX11_gaugeTold_40 rfl 1 rfl ?_
        refine g_get (v := .ref (ad 0)) (T := TX11) (N := 13) (ci := 10) C in_X11 0 rfl rfl 11 (by decide) wd945 (Or.inl rfl) rfl dX11_gaugeTold_41 rfl ?_
        refine g_getN (v := .ref (ad 5)) (T := TX10) (N := 10) (ci := 9) C rfl in_X10 6 rfl rfl 6 (by decide) (by decide +kernel) rfl rfl dX11_gaugeTold_44 rfl ?_
        refine g_iconst C dX11_gaugeTold_47 rfl ?_
        refine g_iload_n C dX11_gaugeTold_48 rfl 2 rfl ?_
        refine g_imul C dX11_gaugeTold_49 rfl ?_
        refine g_iconst C dX11_gaugeTold_50 rfl ?_
        refine g_iadd C dX11_gaugeTold_51 rfl ?_
        refine g_iald (f := (S.1 5)) C dX11_gaugeTold_52 rfl 11 rfl (by omega) (by decide) ?_
        have b52 := okS_51 hS g
        refine g_goto C dX11_gaugeTold_53 90 (by decide) ?_
        exact z_iret C Z rfl dX11_gaugeTold_90 (by exact congrArg (fun z => some (Value.int (iI z))) (by unfold mGau; (try rw [bI_t (by omega)]); (try rw [bI_f (by omega)]); repeat (first | (rw [if_pos (by omega)]) | (rw [if_neg (by omega)]) | (rw [if_pos trivial])))) rfl
    · skip
      refine g_iload_n C dX11_gaugeTold_28 rfl 0 rfl ?_
      refine g_bipush C dX11_gaugeTold_29 rfl rfl ?_
      refine g_idiv C dX11_gaugeTold_31 rfl (by omega) (by omega) ?_
      refine g_goto C dX11_gaugeTold_32 90 (by decide) ?_
      exact z_iret C Z rfl dX11_gaugeTold_90 (by exact congrArg (fun z => some (Value.int (iI z))) (by unfold mGau; (try rw [bI_t (by omega)]); (try rw [bI_f (by omega)]); repeat (first | (rw [if_pos (by omega)]) | (rw [if_neg (by omega)]) | (rw [if_pos trivial])))) rfl
  · skip
    refine g_iload_n C dX11_gaugeTold_16 rfl 0 rfl ?_
    refine g_bipush C dX11_gaugeTold_17 rfl rfl ?_
    refine g_irem C dX11_gaugeTold_19 rfl (by omega) (by omega) ?_
    refine g_goto C dX11_gaugeTold_20 90 (by decide) ?_
    exact z_iret C Z rfl dX11_gaugeTold_90 (by exact congrArg (fun z => some (Value.int (iI z))) (by unfold mGau; (try rw [bI_t (by omega)]); (try rw [bI_f (by omega)]); repeat (first | (rw [if_pos (by omega)]) | (rw [if_neg (by omega)]) | (rw [if_pos trivial])))) rfl
abbrev r_X11_refugeTold : Room := { frames := 1, cells := 0, slots := 0, locals := 24 }
set_option maxHeartbeats 4000000 in
set_option maxRecDepth 100000 in
theorem k_X11_refugeTold (l : Launch) (E : gE) (am : Nat → Nat) (sa : Nat) (M : gS) (ad : Nat → Nat) (S : gS) (p what : Int) (hM : okM M) (hS : okS S) (hi : 0 ≤ p ∧ p < 4) (hw : 0 ≤ what ∧ what < 5) : gK l E yX11_refugeTold cX11_refugeTold 5 (some .int) r_X11_refugeTold [.ref (am 0), .int (iI p), .int (iI what)] (wM E am (ad 0) sa M ++ (wS E ad S)) (some (.int (iI (mRef S (M.2 4).toNat p what)))) (wM E am (ad 0) sa M ++ (wS E ad S)) := by
  refine gK_by RX11 rfl mX11_refugeTold [(0, .ref (am 0)), (1, .int (iI p)), (2, .int (iI what))] (Nat.le_of_ble_eq_true rfl) rfl ?_
  intro zp ze zs zm za zb zh zc zA zQ C Z
  refine g_iconst C dX11_refugeTold_0 rfl ?_
  refine g_istore_n (lv' := [(3, .int (iI (0))), (0, .ref (am 0)), (1, .int (iI p)), (2, .int (iI what))]) C dX11_refugeTold_1 rfl (by decide) rfl ?_
  refine g_iconst C dX11_refugeTold_2 rfl ?_
  refine g_istore (lv' := [(4, .int (iI (0))), (3, .int (iI (0))), (0, .ref (am 0)), (1, .int (iI p)), (2, .int (iI what))]) C dX11_refugeTold_3 rfl (by decide) rfl ?_
  have L5 : ∀ k9 : Nat, k9 ≤ (M.2 4).toNat → gG E zp l ze r_X11_refugeTold zs zm za zb zh zc zA 5 0 0 zQ (wM E am (ad 0) sa M ++ (wS E ad S)) 5 [(4, .int (iI (k9 : Int))), (3, .int (iI (gstI S p k9))), (0, .ref (am 0)), (1, .int (iI p)), (2, .int (iI what))] [] := by
    refine g_up ((M.2 4).toNat) _ ?_
    intro k9 ih5 hk5
    obtain ⟨x, hx5⟩ : ∃ z, z = gstI S p k9 := ⟨_, rfl⟩
    rw [← hx5]
    have ff9 := okM_i4 hM
    refine g_iload C dX11_refugeTold_5 rfl 0 rfl ?_
    refine g_aload_n C dX11_refugeTold_7 rfl 2 rfl ?_
    refine g_get (v := .int (iI (M.2 4))) (T := TX11) (N := 13) (ci := 10) C in_X11 0 rfl rfl 5 (by decide) wd939 (Or.inl rfl) rfl dX11_refugeTold_8 rfl ?_
    have f8 := okM_i4 hM
    refine g_icmp_ge C dX11_refugeTold_11 64 (by decide) rfl (by omega) (by omega) (fun c11 => ?_) (fun c11 => ?_)
    · skip
      have hz5 : x = gstI S p (M.2 4).toNat := by rw [hx5, show k9 = (M.2 4).toNat from by omega] <;> rfl
      refine g_iload_n C dX11_refugeTold_64 rfl 4 rfl ?_
      refine g_if_ne C dX11_refugeTold_65 85 (by decide) rfl (by omega) (fun c65 => ?_) (fun c65 => ?_)
      · skip
        refine g_iload_n C dX11_refugeTold_85 rfl 4 rfl ?_
        refine g_iconst C dX11_refugeTold_86 rfl ?_
        refine g_icmp_ne C dX11_refugeTold_87 107 (by decide) rfl (by omega) (by omega) (fun c87 => ?_) (fun c87 => ?_)
        · skip
          refine g_iload_n C dX11_refugeTold_107 rfl 4 rfl ?_
          refine g_iconst C dX11_refugeTold_108 rfl ?_
          refine g_icmp_ne C dX11_refugeTold_109 128 (by decide) rfl (by omega) (by omega) (fun c109 => ?_) (fun c109 => ?_)
          · skip
            refine g_iload_n C dX11_refugeTold_128 rfl 4 rfl ?_
            refine g_iconst C dX11_refugeTold_129 rfl ?_
            refine g_icmp_ne C dX11_refugeTold_130 145 (by decide) rfl (by omega) (by omega) (fun c130 => ?_) (fun c130 => ?_)
            · skip
              refine g_iload_n C dX11_refugeTold_145 rfl 1 rfl ?_
              exact z_iret C Z rfl dX11_refugeTold_146 (by exact congrArg (fun z => some (Value.int (iI z))) (by unfold mRef; (try rw [hz5]); repeat (first | (rw [if_pos (by omega)]) | (rw [if_neg (by omega)]) | (rw [if_pos trivial])))) rfl
            · skip
              refine g_aload_n C dX11_refugeTold_133 rfl 2 rfl ?_
              refine g_aload_n C dX11_refugeTold_134 rfl 2 rfl ?_
              refine g_get (v := .ref (ad 0)) (T := TX11) (N := 13) (ci := 10) C in_X11 0 rfl rfl 11 (by decide) wd945 (Or.inl rfl) rfl dX11_refugeTold_135 rfl ?_
              refine g_iload_n C dX11_refugeTold_138 rfl 3 rfl ?_
              refine g_callV0 (As := [.ref (ad 0), .int (iI p)]) (rv := some (.int (iI (pinI S p ((M.2 4)).toNat)))) (w1 := wM E am (ad 0) sa M ++ (wS E ad S)) (kc' := 0) (ks' := 0) C (k_X11_peopleIn l E am (ad 0) sa M ad S p hM hS (by omega)) mX11_peopleIn iX11_peopleIn wd1078 0 10 rfl rfl rfl rfl rfl (Nat.le_of_ble_eq_true rfl) ⟨Nat.le_of_ble_eq_true rfl, Nat.le_of_ble_eq_true rfl⟩ ⟨Nat.le_of_ble_eq_true rfl, Nat.le_of_ble_eq_true rfl⟩ rfl rfl dX11_refugeTold_139 rfl ?_
              have n139 := pinI_b (M := M) (r := p) hS hM
              refine g_goto C dX11_refugeTold_142 146 (by decide) ?_
              exact z_iret C Z rfl dX11_refugeTold_146 (by exact congrArg (fun z => some (Value.int (iI z))) (by unfold mRef; (try rw [hz5]); repeat (first | (rw [if_pos (by omega)]) | (rw [if_neg (by omega)]) | (rw [if_pos trivial])))) rfl
          · skip
            refine g_aload_n C dX11_refugeTold_112 rfl 2 rfl ?_
            refine g_get (v := .ref (ad 0)) (T := TX11) (N := 13) (ci := 10) C in_X11 0 rfl rfl 11 (by decide) wd945 (Or.inl rfl) rfl dX11_refugeTold_113 rfl ?_
            refine g_getN (v := .ref (ad 6)) (T := TX10) (N := 10) (ci := 9) C rfl in_X10 6 rfl rfl 7 (by decide) (by decide +kernel) rfl rfl dX11_refugeTold_116 rfl ?_
            refine g_iconst C dX11_refugeTold_119 rfl ?_
            refine g_iload_n C dX11_refugeTold_120 rfl 3 rfl ?_
            refine g_imul C dX11_refugeTold_121 rfl ?_
            refine g_iconst C dX11_refugeTold_122 rfl ?_
            refine g_iadd C dX11_refugeTold_123 rfl ?_
            refine g_iald (f := (S.1 6)) C dX11_refugeTold_124 rfl 12 rfl (by omega) (by decide) ?_
            have b124 := okS_61 hS p
            refine g_goto C dX11_refugeTold_125 146 (by decide) ?_
            exact z_iret C Z rfl dX11_refugeTold_146 (by exact congrArg (fun z => some (Value.int (iI z))) (by unfold mRef; (try rw [hz5]); repeat (first | (rw [if_pos (by omega)]) | (rw [if_neg (by omega)]) | (rw [if_pos trivial])))) rfl
        · skip
          refine g_aload_n C dX11_refugeTold_90 rfl 2 rfl ?_
          refine g_get (v := .ref (ad 0)) (T := TX11) (N := 13) (ci := 10) C in_X11 0 rfl rfl 11 (by decide) wd945 (Or.inl rfl) rfl dX11_refugeTold_91 rfl ?_
          refine g_getN (v := .ref (ad 6)) (T := TX10) (N := 10) (ci := 9) C rfl in_X10 6 rfl rfl 7 (by decide) (by decide +kernel) rfl rfl dX11_refugeTold_94 rfl ?_
          refine g_iconst C dX11_refugeTold_97 rfl ?_
          refine g_iload_n C dX11_refugeTold_98 rfl 3 rfl ?_
          refine g_imul C dX11_refugeTold_99 rfl ?_
          refine g_iald (f := (S.1 6)) C dX11_refugeTold_100 rfl 12 rfl (by omega) (by decide) ?_
          have b100 := okS_60 hS p
          refine g_bipush C dX11_refugeTold_101 rfl rfl ?_
          refine g_idiv C dX11_refugeTold_103 rfl (by omega) (by omega) ?_
          refine g_goto C dX11_refugeTold_104 146 (by decide) ?_
          exact z_iret C Z rfl dX11_refugeTold_146 (by exact congrArg (fun z => some (Value.int (iI z))) (by unfold mRef; (try rw [hz5]); repeat (first | (rw [if_pos (by omega)]) | (rw [if_neg (by omega)]) | (rw [if_pos trivial])))) rfl
      · skip
        refine g_aload_n C dX11_refugeTold_68 rfl 2 rfl ?_
        refine g_get (v := .ref (ad 0)) (T := TX11) (N := 13) (ci := 10) C in_X11 0 rfl rfl 11 (by decide) wd945 (Or.inl rfl) rfl dX11_refugeTold_69 rfl ?_
        refine g_getN (v := .ref (ad 6)) (T := TX10) (N := 10) (ci := 9) C rfl in_X10 6 rfl rfl 7 (by decide) (by decide +kernel) rfl rfl dX11_refugeTold_72 rfl ?_
        refine g_iconst C dX11_refugeTold_75 rfl ?_
        refine g_iload_n C dX11_refugeTold_76 rfl 3 rfl ?_
        refine g_imul C dX11_refugeTold_77 rfl ?_
        refine g_iald (f := (S.1 6)) C dX11_refugeTold_78 rfl 12 rfl (by omega) (by decide) ?_
        have b78 := okS_60 hS p
        refine g_bipush C dX11_refugeTold_79 rfl rfl ?_
        refine g_irem C dX11_refugeTold_81 rfl (by omega) (by omega) ?_
        refine g_goto C dX11_refugeTold_82 146 (by decide) ?_
        exact z_iret C Z rfl dX11_refugeTold_146 (by exact congrArg (fun z => some (Value.int (iI z))) (by unfold mRef; (try rw [hz5]); repeat (first | (rw [if_pos (by omega)]) | (rw [if_neg (by omega)]) | (rw [if_pos trivial])))) rfl
    · skip
      refine g_iload_n C dX11_refugeTold_14 rfl 1 rfl ?_
      refine g_aload_n C dX11_refugeTold_15 rfl 2 rfl ?_
      refine g_get (v := .ref (ad 0)) (T := TX11) (N := 13) (ci := 10) C in_X11 0 rfl rfl 11 (by decide) wd945 (Or.inl rfl) rfl dX11_refugeTold_16 rfl ?_
      refine g_getN (v := .ref (ad 7)) (T := TX10) (N := 10) (ci := 9) C rfl in_X10 6 rfl rfl 8 (by decide) (by decide +kernel) rfl rfl dX11_refugeTold_19 rfl ?_
      refine g_iconst C dX11_refugeTold_22 rfl ?_
      refine g_iload C dX11_refugeTold_23 rfl 0 rfl ?_
      refine g_imul C dX11_refugeTold_25 rfl ?_
      refine g_iconst C dX11_refugeTold_26 rfl ?_
      refine g_iadd C dX11_refugeTold_27 rfl ?_
      refine g_iald (f := (S.1 7)) C dX11_refugeTold_28 rfl 13 rfl (by omega) (by decide) ?_
      have b28 := okS_72 hS (k9 : Int)
      refine g_iconst C dX11_refugeTold_29 rfl ?_
      refine g_icmp_ne C dX11_refugeTold_30 55 (by decide) rfl (by omega) (by omega) (fun c30 => ?_) (fun c30 => ?_)
      · skip
        refine g_iconst C dX11_refugeTold_55 rfl ?_
        refine g_iadd C dX11_refugeTold_56 rfl ?_
        refine g_istore_n (lv' := [(3, .int (iI (x + (0)))), (4, .int (iI (k9 : Int))), (0, .ref (am 0)), (1, .int (iI p)), (2, .int (iI what))]) C dX11_refugeTold_57 rfl (by decide) rfl ?_
        refine g_iinc (lv' := [(4, .int (iI ((k9 : Int) + 1))), (3, .int (iI (x + (0)))), (0, .ref (am 0)), (1, .int (iI p)), (2, .int (iI what))]) C dX11_refugeTold_58 rfl 1 rfl (by decide) rfl ?_
        refine g_goto C dX11_refugeTold_61 5 (by decide) ?_
        have e5 : (gstB S p) k9 x = (x + (0)) := by
          unfold gstB
          first | (rw [bI_t (by omega)]) | (rw [bI_f (by omega)])
        have i5 := ih5 (by omega)
        rw [show gstI S p (k9 + 1) = (x + (0)) from by rw [← e5, hx5]; rfl] at i5
        exact g_to [0, 1, 2, 3, 4] (i5) rfl rfl rfl
      · skip
        refine g_aload_n C dX11_refugeTold_33 rfl 2 rfl ?_
        refine g_get (v := .ref (ad 0)) (T := TX11) (N := 13) (ci := 10) C in_X11 0 rfl rfl 11 (by decide) wd945 (Or.inl rfl) rfl dX11_refugeTold_34 rfl ?_
        refine g_getN (v := .ref (ad 7)) (T := TX10) (N := 10) (ci := 9) C rfl in_X10 6 rfl rfl 8 (by decide) (by decide +kernel) rfl rfl dX11_refugeTold_37 rfl ?_
        refine g_iconst C dX11_refugeTold_40 rfl ?_
        refine g_iload C dX11_refugeTold_41 rfl 0 rfl ?_
        refine g_imul C dX11_refugeTold_43 rfl ?_
        refine g_iconst C dX11_refugeTold_44 rfl ?_
        refine g_iadd C dX11_refugeTold_45 rfl ?_
        refine g_iald (f := (S.1 7)) C dX11_refugeTold_46 rfl 13 rfl (by omega) (by decide) ?_
        have b46 := okS_73 hS (k9 : Int)
        refine g_iload_n C dX11_refugeTold_47 rfl 3 rfl ?_
        refine g_icmp_ne C dX11_refugeTold_48 55 (by decide) rfl (by omega) (by omega) (fun c48 => ?_) (fun c48 => ?_)
        · skip
          refine g_iconst C dX11_refugeTold_55 rfl ?_
          refine g_iadd C dX11_refugeTold_56 rfl ?_
          refine g_istore_n (lv' := [(3, .int (iI (x + (0)))), (4, .int (iI (k9 : Int))), (0, .ref (am 0)), (1, .int (iI p)), (2, .int (iI what))]) C dX11_refugeTold_57 rfl (by decide) rfl ?_
          refine g_iinc (lv' := [(4, .int (iI ((k9 : Int) + 1))), (3, .int (iI (x + (0)))), (0, .ref (am 0)), (1, .int (iI p)), (2, .int (iI what))]) C dX11_refugeTold_58 rfl 1 rfl (by decide) rfl ?_
          refine g_goto C dX11_refugeTold_61 5 (by decide) ?_
          have e5 : (gstB S p) k9 x = (x + (0)) := by
            unfold gstB
            first | (rw [bI_t (by omega)]) | (rw [bI_f (by omega)])
          have i5 := ih5 (by omega)
          rw [show gstI S p (k9 + 1) = (x + (0)) from by rw [← e5, hx5]; rfl] at i5
          exact g_to [0, 1, 2, 3, 4] (i5) rfl rfl rfl
        · skip
          refine g_iconst C dX11_refugeTold_51 rfl ?_
          refine g_goto C dX11_refugeTold_52 56 (by decide) ?_
          refine g_iadd C dX11_refugeTold_56 rfl ?_
          refine g_istore_n (lv' := [(3, .int (iI (x + (1)))), (4, .int (iI (k9 : Int))), (0, .ref (am 0)), (1, .int (iI p)), (2, .int (iI what))]) C dX11_refugeTold_57 rfl (by decide) rfl ?_
          refine g_iinc (lv' := [(4, .int (iI ((k9 : Int) + 1))), (3, .int (iI (x + (1)))), (0, .ref (am 0)), (1, .int (iI p)), (2, .int (iI what))]) C dX11_refugeTold_58 rfl 1 rfl (by decide) rfl ?_
          refine g_goto C dX11_refugeTold_61 5 (by decide) ?_
          have e5 : (gstB S p) k9 x = (x + (1)) := by
            unfold gstB
            first | (rw [bI_t (by omega)]) | (rw [bI_f (by omega)])
          have i5 := ih5 (by omega)
          rw [show gstI S p (k9 + 1) = (x + (1)) from by rw [← e5, hx5]; rfl] at i5
          exact g_to [0, 1, 2, 3, 4] (i5) rfl rfl rfl
  refine g_to [0, 1, 2, 3, 4] (L5 0 (by omega)) rfl rfl rfl
abbrev r_X11_wayOf : Room := { frames := 6, cells := 0, slots := 0, locals := 142 }
set_option maxHeartbeats 4000000 in
set_option maxRecDepth 100000 in
theorem k_X11_wayOf (l : Launch) (E : gE) (am : Nat → Nat) (sa : Nat) (M : gS) (ad : Nat → Nat) (S : gS) (h : Int) (hM : okM M) (hS : okS S) (hh : 0 ≤ h ∧ h < 10) : gK l E yX11_wayOf cX11_wayOf 3 (some .int) r_X11_wayOf [.ref (am 0), .int (iI h)] (wM E am (ad 0) sa M ++ (wS E ad S)) (some (.int (iI (mWay M S h)))) (wM E am (ad 0) sa (mWayM M S h) ++ (wS E ad S)) := by
  refine gK_by RX11 rfl mX11_wayOf [(0, .ref (am 0)), (1, .int (iI h))] (Nat.le_of_ble_eq_true rfl) rfl ?_
  intro zp ze zs zm za zb zh zc zA zQ C Z
  refine g_aload_n C dX11_wayOf_0 rfl 0 rfl ?_
  refine g_get (v := .ref (ad 0)) (T := TX11) (N := 13) (ci := 10) C in_X11 0 rfl rfl 11 (by decide) wd945 (Or.inl rfl) rfl dX11_wayOf_1 rfl ?_
  refine g_getN (v := .ref (ad 7)) (T := TX10) (N := 10) (ci := 9) C rfl in_X10 6 rfl rfl 8 (by decide) (by decide +kernel) rfl rfl dX11_wayOf_4 rfl ?_
  refine g_iconst C dX11_wayOf_7 rfl ?_
  refine g_iload_n C dX11_wayOf_8 rfl 1 rfl ?_
  refine g_imul C dX11_wayOf_9 rfl ?_
  refine g_iconst C dX11_wayOf_10 rfl ?_
  refine g_iadd C dX11_wayOf_11 rfl ?_
  refine g_iald (f := (S.1 7)) C dX11_wayOf_12 rfl 13 rfl (by omega) (by decide) ?_
  have b12 := okS_72 hS h
  refine g_iconst C dX11_wayOf_13 rfl ?_
  refine g_icmp_le C dX11_wayOf_14 40 (by decide) rfl (by omega) (by omega) (fun c14 => ?_) (fun c14 => ?_)
  · skip
    refine g_aload_n C dX11_wayOf_40 rfl 0 rfl ?_
    refine g_aload_n C dX11_wayOf_41 rfl 0 rfl ?_
    refine g_get (v := .ref (ad 0)) (T := TX11) (N := 13) (ci := 10) C in_X11 0 rfl rfl 11 (by decide) wd945 (Or.inl rfl) rfl dX11_wayOf_42 rfl ?_
    refine g_iload_n C dX11_wayOf_45 rfl 1 rfl ?_
    refine g_callV0 (As := [.ref (ad 0), .int (iI h)]) (rv := some (.int (iI (rfX M S h).2.1))) (w1 := wM E am (ad 0) sa (rfX M S h).1 ++ (wS E ad S)) (kc' := 0) (ks' := 0) C (k_X11_refugeFor l E am (ad 0) sa M ad S h hM hS (by omega)) mX11_refugeFor iX11_refugeFor wd1094 0 10 rfl rfl rfl rfl rfl (Nat.le_of_ble_eq_true rfl) ⟨Nat.le_of_ble_eq_true rfl, Nat.le_of_ble_eq_true rfl⟩ ⟨Nat.le_of_ble_eq_true rfl, Nat.le_of_ble_eq_true rfl⟩ rfl rfl dX11_wayOf_46 rfl ?_
    have n46 := (rfX_b (c := h) hM hS).2.2.1
    have m46 := okM_i3 hM
    refine g_istore_n (lv' := [(2, .int (iI (rfX M S h).2.1)), (0, .ref (am 0)), (1, .int (iI h))]) C dX11_wayOf_49 rfl (by decide) rfl ?_
    refine g_iload_n C dX11_wayOf_50 rfl 0 rfl ?_
    refine g_iconst C dX11_wayOf_51 rfl ?_
    refine g_icmp_ne C dX11_wayOf_52 59 (by decide) rfl (by omega) (by omega) (fun c52 => ?_) (fun c52 => ?_)
    · skip
      refine g_aload_n C dX11_wayOf_59 rfl 1 rfl ?_
      refine g_aload_n C dX11_wayOf_60 rfl 1 rfl ?_
      refine g_get (v := .ref (ad 0)) (T := TX11) (N := 13) (ci := 10) C in_X11 0 rfl rfl 11 (by decide) wd945 (Or.inl rfl) rfl dX11_wayOf_61 rfl ?_
      refine g_aload_n C dX11_wayOf_64 rfl 1 rfl ?_
      refine g_get (v := .ref (ad 0)) (T := TX11) (N := 13) (ci := 10) C in_X11 0 rfl rfl 11 (by decide) wd945 (Or.inl rfl) rfl dX11_wayOf_65 rfl ?_
      refine g_getN (v := .ref (ad 7)) (T := TX10) (N := 10) (ci := 9) C rfl in_X10 6 rfl rfl 8 (by decide) (by decide +kernel) rfl rfl dX11_wayOf_68 rfl ?_
      refine g_iconst C dX11_wayOf_71 rfl ?_
      refine g_iload_n C dX11_wayOf_72 rfl 2 rfl ?_
      refine g_imul C dX11_wayOf_73 rfl ?_
      refine g_iald (f := (S.1 7)) C dX11_wayOf_74 rfl 13 rfl (by omega) (by decide) ?_
      have b74 := okS_70 hS h
      refine g_aload_n C dX11_wayOf_75 rfl 1 rfl ?_
      refine g_get (v := .ref (ad 0)) (T := TX11) (N := 13) (ci := 10) C in_X11 0 rfl rfl 11 (by decide) wd945 (Or.inl rfl) rfl dX11_wayOf_76 rfl ?_
      refine g_getN (v := .ref (ad 6)) (T := TX10) (N := 10) (ci := 9) C rfl in_X10 6 rfl rfl 7 (by decide) (by decide +kernel) rfl rfl dX11_wayOf_79 rfl ?_
      refine g_iconst C dX11_wayOf_82 rfl ?_
      refine g_iload_n C dX11_wayOf_83 rfl 0 rfl ?_
      refine g_imul C dX11_wayOf_84 rfl ?_
      refine g_iald (f := (S.1 6)) C dX11_wayOf_85 rfl 12 rfl (by omega) (by decide) ?_
      have b85 := okS_60 hS ((rfX M S h).2.1)
      refine g_callV0 (As := [.ref (ad 0), .int (iI ((S.1 7) ((4) * h))), .int (iI ((S.1 6) ((2) * (rfX M S h).2.1)))]) (rv := some (.int (iI (dst (S.1 3) ((S.1 7) ((4) * h)) ((S.1 6) ((2) * (rfX M S h).2.1)))))) (w1 := wM E am (ad 0) sa (stpM (rfX M S h).1 S ((S.1 7) ((4) * h)) ((S.1 6) ((2) * (rfX M S h).2.1))) ++ (wS E ad S)) (kc' := 0) (ks' := 0) C (k_X11_steps l E am (ad 0) sa (rfX M S h).1 ad S ((S.1 7) ((4) * h)) ((S.1 6) ((2) * (rfX M S h).2.1)) (rfX_b (c := h) hM hS).1 hS (by omega) (by omega)) mX11_steps iX11_steps wd1102 0 10 rfl rfl rfl rfl rfl (Nat.le_of_ble_eq_true rfl) ⟨Nat.le_of_ble_eq_true rfl, Nat.le_of_ble_eq_true rfl⟩ ⟨Nat.le_of_ble_eq_true rfl, Nat.le_of_ble_eq_true rfl⟩ rfl rfl dX11_wayOf_86 rfl ?_
      have n86 := dst_b (w := (S.1 3)) (a := ((S.1 7) ((4) * h))) (b := ((S.1 6) ((2) * (rfX M S h).2.1))) (by omega)
      exact z_iret C Z rfl dX11_wayOf_89 (by exact congrArg (fun z => some (Value.int (iI z))) (by unfold mWay; repeat (first | (rw [if_pos (by omega)]) | (rw [if_neg (by omega)]) | (rw [if_pos trivial])))) (by unfold mWayM flM; first | (rw [if_pos (by omega)]) | (rw [if_neg (by omega), if_pos (by omega)]) | (rw [if_neg (by omega), if_neg (by omega)]))
    · skip
      refine g_iconst C dX11_wayOf_55 rfl ?_
      refine g_goto C dX11_wayOf_56 89 (by decide) ?_
      exact z_iret C Z rfl dX11_wayOf_89 (by exact congrArg (fun z => some (Value.int (iI z))) (by unfold mWay; repeat (first | (rw [if_pos (by omega)]) | (rw [if_neg (by omega)]) | (rw [if_pos trivial])))) (by unfold mWayM flM; first | (rw [if_pos (by omega)]) | (rw [if_neg (by omega), if_pos (by omega)]) | (rw [if_neg (by omega), if_neg (by omega)]))
  · skip
    refine g_aload_n C dX11_wayOf_17 rfl 0 rfl ?_
    refine g_get (v := .ref (ad 0)) (T := TX11) (N := 13) (ci := 10) C in_X11 0 rfl rfl 11 (by decide) wd945 (Or.inl rfl) rfl dX11_wayOf_18 rfl ?_
    refine g_getN (v := .ref (ad 7)) (T := TX10) (N := 10) (ci := 9) C rfl in_X10 6 rfl rfl 8 (by decide) (by decide +kernel) rfl rfl dX11_wayOf_21 rfl ?_
    refine g_iconst C dX11_wayOf_24 rfl ?_
    refine g_iload_n C dX11_wayOf_25 rfl 1 rfl ?_
    refine g_imul C dX11_wayOf_26 rfl ?_
    refine g_iconst C dX11_wayOf_27 rfl ?_
    refine g_iadd C dX11_wayOf_28 rfl ?_
    refine g_iald (f := (S.1 7)) C dX11_wayOf_29 rfl 13 rfl (by omega) (by decide) ?_
    have b29 := okS_72 hS h
    refine g_iconst C dX11_wayOf_30 rfl ?_
    refine g_icmp_ne C dX11_wayOf_31 38 (by decide) rfl (by omega) (by omega) (fun c31 => ?_) (fun c31 => ?_)
    · skip
      refine g_iconst C dX11_wayOf_38 rfl ?_
      exact z_iret C Z rfl dX11_wayOf_39 (by exact congrArg (fun z => some (Value.int (iI z))) (by unfold mWay; repeat (first | (rw [if_pos (by omega)]) | (rw [if_neg (by omega)]) | (rw [if_pos trivial])))) (by unfold mWayM flM; first | (rw [if_pos (by omega)]) | (rw [if_neg (by omega), if_pos (by omega)]) | (rw [if_neg (by omega), if_neg (by omega)]))
    · skip
      refine g_iconst C dX11_wayOf_34 rfl ?_
      refine g_goto C dX11_wayOf_35 39 (by decide) ?_
      exact z_iret C Z rfl dX11_wayOf_39 (by exact congrArg (fun z => some (Value.int (iI z))) (by unfold mWay; repeat (first | (rw [if_pos (by omega)]) | (rw [if_neg (by omega)]) | (rw [if_pos trivial])))) (by unfold mWayM flM; first | (rw [if_pos (by omega)]) | (rw [if_neg (by omega), if_pos (by omega)]) | (rw [if_neg (by omega), if_neg (by omega)]))
abbrev r_X11_houseTold : Room := { frames := 7, cells := 0, slots := 0, locals := 164 }
set_option maxHeartbeats 4000000 in
set_option maxRecDepth 100000 in
theorem k_X11_houseTold (l : Launch) (E : gE) (am : Nat → Nat) (sa : Nat) (M : gS) (ad : Nat → Nat) (S : gS) (h what : Int) (hM : okM M) (hS : okS S) (hh : 0 ≤ h ∧ h < 10) (hw : 0 ≤ what ∧ what < 5) : gK l E yX11_houseTold cX11_houseTold 3 (some .int) r_X11_houseTold [.ref (am 0), .int (iI h), .int (iI what)] (wM E am (ad 0) sa M ++ (wS E ad S)) (some (.int (iI (mHtl M S h what)))) (wM E am (ad 0) sa (mHtlM M S h what) ++ (wS E ad S)) := by
  refine gK_by RX11 rfl mX11_houseTold [(0, .ref (am 0)), (1, .int (iI h)), (2, .int (iI what))] (Nat.le_of_ble_eq_true rfl) rfl ?_
  intro zp ze zs zm za zb zh zc zA zQ C Z
  refine g_iload_n C dX11_houseTold_0 rfl 2 rfl ?_
  refine g_if_ne C dX11_houseTold_1 21 (by decide) rfl (by omega) (fun c1 => ?_) (fun c1 => ?_)
  · skip
    refine g_iload_n C dX11_houseTold_21 rfl 2 rfl ?_
    refine g_iconst C dX11_houseTold_22 rfl ?_
    refine g_icmp_ne C dX11_houseTold_23 43 (by decide) rfl (by omega) (by omega) (fun c23 => ?_) (fun c23 => ?_)
    · skip
      refine g_iload_n C dX11_houseTold_43 rfl 2 rfl ?_
      refine g_iconst C dX11_houseTold_44 rfl ?_
      refine g_icmp_ne C dX11_houseTold_45 56 (by decide) rfl (by omega) (by omega) (fun c45 => ?_) (fun c45 => ?_)
      · skip
        refine g_aload_n C dX11_houseTold_56 rfl 0 rfl ?_
        refine g_get (v := .ref (ad 0)) (T := TX11) (N := 13) (ci := 10) C in_X11 0 rfl rfl 11 (by decide) wd945 (Or.inl rfl) rfl dX11_houseTold_57 rfl ?_
        refine g_getN (v := .ref (ad 7)) (T := TX10) (N := 10) (ci := 9) C rfl in_X10 6 rfl rfl 8 (by decide) (by decide +kernel) rfl rfl dX11_houseTold_60 rfl ?_
        refine g_iconst C dX11_houseTold_63 rfl ?_
        refine g_iload_n C dX11_houseTold_64 rfl 1 rfl ?_
        refine g_imul C dX11_houseTold_65 rfl ?_
        refine g_iload_n C dX11_houseTold_66 rfl 2 rfl ?_
        refine g_iadd C dX11_houseTold_67 rfl ?_
        refine g_iconst C dX11_houseTold_68 rfl ?_
        refine g_isub C dX11_houseTold_69 rfl ?_
        refine g_iald (f := (S.1 7)) C dX11_houseTold_70 rfl 13 rfl (by omega) (by decide) ?_
        exact z_iret C Z rfl dX11_houseTold_71 (by exact congrArg (fun z => some (Value.int (iI z))) (by unfold mHtl; repeat (first | (rw [if_pos (by omega)]) | (rw [if_neg (by omega)]) | (rw [if_pos trivial])))) (by unfold mHtlM; first | (rw [if_pos (by omega)]) | (rw [if_neg (by omega)]))
      · skip
        refine g_aload_n C dX11_houseTold_48 rfl 0 rfl ?_
        refine g_iload_n C dX11_houseTold_49 rfl 1 rfl ?_
        refine g_callV0 (As := [.int (iI h)]) (rv := some (.int (iI (mWay M S h)))) (w1 := wM E am (ad 0) sa (mWayM M S h) ++ (wS E ad S)) (kc' := 0) (ks' := 0) C (k_X11_wayOf l E am sa M ad S h hM hS (by omega)) mX11_wayOf iX11_wayOf wd1090 0 10 rfl rfl rfl rfl rfl (Nat.le_of_ble_eq_true rfl) ⟨Nat.le_of_ble_eq_true rfl, Nat.le_of_ble_eq_true rfl⟩ ⟨Nat.le_of_ble_eq_true rfl, Nat.le_of_ble_eq_true rfl⟩ rfl rfl dX11_houseTold_50 rfl ?_
        refine g_goto C dX11_houseTold_53 71 (by decide) ?_
        exact z_iret C Z rfl dX11_houseTold_71 (by exact congrArg (fun z => some (Value.int (iI z))) (by unfold mHtl; repeat (first | (rw [if_pos (by omega)]) | (rw [if_neg (by omega)]) | (rw [if_pos trivial])))) (by unfold mHtlM; first | (rw [if_pos (by omega)]) | (rw [if_neg (by omega)]))
    · skip
      refine g_aload_n C dX11_houseTold_26 rfl 0 rfl ?_
      refine g_get (v := .ref (ad 0)) (T := TX11) (N := 13) (ci := 10) C in_X11 0 rfl rfl 11 (by decide) wd945 (Or.inl rfl) rfl dX11_houseTold_27 rfl ?_
      refine g_getN (v := .ref (ad 7)) (T := TX10) (N := 10) (ci := 9) C rfl in_X10 6 rfl rfl 8 (by decide) (by decide +kernel) rfl rfl dX11_houseTold_30 rfl ?_
      refine g_iconst C dX11_houseTold_33 rfl ?_
      refine g_iload_n C dX11_houseTold_34 rfl 1 rfl ?_
      refine g_imul C dX11_houseTold_35 rfl ?_
      refine g_iald (f := (S.1 7)) C dX11_houseTold_36 rfl 13 rfl (by omega) (by decide) ?_
      have b36 := okS_70 hS h
      refine g_bipush C dX11_houseTold_37 rfl rfl ?_
      refine g_idiv C dX11_houseTold_39 rfl (by omega) (by omega) ?_
      refine g_goto C dX11_houseTold_40 71 (by decide) ?_
      exact z_iret C Z rfl dX11_houseTold_71 (by exact congrArg (fun z => some (Value.int (iI z))) (by unfold mHtl; repeat (first | (rw [if_pos (by omega)]) | (rw [if_neg (by omega)]) | (rw [if_pos trivial])))) (by unfold mHtlM; first | (rw [if_pos (by omega)]) | (rw [if_neg (by omega)]))
  · skip
    refine g_aload_n C dX11_houseTold_4 rfl 0 rfl ?_
    refine g_get (v := .ref (ad 0)) (T := TX11) (N := 13) (ci := 10) C in_X11 0 rfl rfl 11 (by decide) wd945 (Or.inl rfl) rfl dX11_houseTold_5 rfl ?_
    refine g_getN (v := .ref (ad 7)) (T := TX10) (N := 10) (ci := 9) C rfl in_X10 6 rfl rfl 8 (by decide) (by decide +kernel) rfl rfl dX11_houseTold_8 rfl ?_
    refine g_iconst C dX11_houseTold_11 rfl ?_
    refine g_iload_n C dX11_houseTold_12 rfl 1 rfl ?_
    refine g_imul C dX11_houseTold_13 rfl ?_
    refine g_iald (f := (S.1 7)) C dX11_houseTold_14 rfl 13 rfl (by omega) (by decide) ?_
    have b14 := okS_70 hS h
    refine g_bipush C dX11_houseTold_15 rfl rfl ?_
    refine g_irem C dX11_houseTold_17 rfl (by omega) (by omega) ?_
    refine g_goto C dX11_houseTold_18 71 (by decide) ?_
    exact z_iret C Z rfl dX11_houseTold_71 (by exact congrArg (fun z => some (Value.int (iI z))) (by unfold mHtl; repeat (first | (rw [if_pos (by omega)]) | (rw [if_neg (by omega)]) | (rw [if_pos trivial])))) (by unfold mHtlM; first | (rw [if_pos (by omega)]) | (rw [if_neg (by omega)]))
abbrev r_X11_callerTold : Room := { frames := 0, cells := 0, slots := 0, locals := 0 }
set_option maxHeartbeats 4000000 in
set_option maxRecDepth 100000 in
theorem k_X11_callerTold (l : Launch) (E : gE) (am : Nat → Nat) (sa : Nat) (M : gS) (ad : Nat → Nat) (S : gS) (c what : Int) (hM : okM M) (hS : okS S) (hi : 0 ≤ c ∧ c < 3) (hw : 0 ≤ what ∧ what < 3) : gK l E yX11_callerTold cX11_callerTold 3 (some .int) r_X11_callerTold [.ref (am 0), .int (iI c), .int (iI what)] (wM E am (ad 0) sa M ++ (wS E ad S)) (some (.int (iI (mCtl S c what)))) (wM E am (ad 0) sa M ++ (wS E ad S)) := by
  refine gK_by RX11 rfl mX11_callerTold [(0, .ref (am 0)), (1, .int (iI c)), (2, .int (iI what))] (Nat.le_of_ble_eq_true rfl) rfl ?_
  intro zp ze zs zm za zb zh zc zA zQ C Z
  refine g_iload_n C dX11_callerTold_0 rfl 2 rfl ?_
  refine g_if_ne C dX11_callerTold_1 21 (by decide) rfl (by omega) (fun c1 => ?_) (fun c1 => ?_)
  · skip
    refine g_iload_n C dX11_callerTold_21 rfl 2 rfl ?_
    refine g_iconst C dX11_callerTold_22 rfl ?_
    refine g_icmp_ne C dX11_callerTold_23 43 (by decide) rfl (by omega) (by omega) (fun c23 => ?_) (fun c23 => ?_)
    · skip
      refine g_aload_n C dX11_callerTold_43 rfl 0 rfl ?_
      refine g_get (v := .ref (ad 0)) (T := TX11) (N := 13) (ci := 10) C in_X11 0 rfl rfl 11 (by decide) wd945 (Or.inl rfl) rfl dX11_callerTold_44 rfl ?_
      refine g_getN (v := .ref (ad 8)) (T := TX10) (N := 10) (ci := 9) C rfl in_X10 6 rfl rfl 9 (by decide) (by decide +kernel) rfl rfl dX11_callerTold_47 rfl ?_
      refine g_iconst C dX11_callerTold_50 rfl ?_
      refine g_iload_n C dX11_callerTold_51 rfl 1 rfl ?_
      refine g_imul C dX11_callerTold_52 rfl ?_
      refine g_iconst C dX11_callerTold_53 rfl ?_
      refine g_iadd C dX11_callerTold_54 rfl ?_
      refine g_iald (f := (S.1 8)) C dX11_callerTold_55 rfl 14 rfl (by omega) (by decide) ?_
      exact z_iret C Z rfl dX11_callerTold_56 (by exact congrArg (fun z => some (Value.int (iI z))) (by unfold mCtl; repeat (first | (rw [if_pos (by omega)]) | (rw [if_neg (by omega)]) | (rw [if_pos trivial])))) rfl
    · skip
      refine g_aload_n C dX11_callerTold_26 rfl 0 rfl ?_
      refine g_get (v := .ref (ad 0)) (T := TX11) (N := 13) (ci := 10) C in_X11 0 rfl rfl 11 (by decide) wd945 (Or.inl rfl) rfl dX11_callerTold_27 rfl ?_
      refine g_getN (v := .ref (ad 8)) (T := TX10) (N := 10) (ci := 9) C rfl in_X10 6 rfl rfl 9 (by decide) (by decide +kernel) rfl rfl dX11_callerTold_30 rfl ?_
      refine g_iconst C dX11_callerTold_33 rfl ?_
      refine g_iload_n C dX11_callerTold_34 rfl 1 rfl ?_
      refine g_imul C dX11_callerTold_35 rfl ?_
      refine g_iald (f := (S.1 8)) C dX11_callerTold_36 rfl 14 rfl (by omega) (by decide) ?_
      have b36 := okS_80 hS c
      refine g_bipush C dX11_callerTold_37 rfl rfl ?_
      refine g_idiv C dX11_callerTold_39 rfl (by omega) (by omega) ?_
      refine g_goto C dX11_callerTold_40 56 (by decide) ?_
      exact z_iret C Z rfl dX11_callerTold_56 (by exact congrArg (fun z => some (Value.int (iI z))) (by unfold mCtl; repeat (first | (rw [if_pos (by omega)]) | (rw [if_neg (by omega)]) | (rw [if_pos trivial])))) rfl
  · skip
    refine g_aload_n C dX11_callerTold_4 rfl 0 rfl ?_
    refine g_get (v := .ref (ad 0)) (T := TX11) (N := 13) (ci := 10) C in_X11 0 rfl rfl 11 (by decide) wd945 (Or.inl rfl) rfl dX11_callerTold_5 rfl ?_
    refine g_getN (v := .ref (ad 8)) (T := TX10) (N := 10) (ci := 9) C rfl in_X10 6 rfl rfl 9 (by decide) (by decide +kernel) rfl rfl dX11_callerTold_8 rfl ?_
    refine g_iconst C dX11_callerTold_11 rfl ?_
    refine g_iload_n C dX11_callerTold_12 rfl 1 rfl ?_
    refine g_imul C dX11_callerTold_13 rfl ?_
    refine g_iald (f := (S.1 8)) C dX11_callerTold_14 rfl 14 rfl (by omega) (by decide) ?_
    have b14 := okS_80 hS c
    refine g_bipush C dX11_callerTold_15 rfl rfl ?_
    refine g_irem C dX11_callerTold_17 rfl (by omega) (by omega) ?_
    refine g_goto C dX11_callerTold_18 56 (by decide) ?_
    exact z_iret C Z rfl dX11_callerTold_56 (by exact congrArg (fun z => some (Value.int (iI z))) (by unfold mCtl; repeat (first | (rw [if_pos (by omega)]) | (rw [if_neg (by omega)]) | (rw [if_pos trivial])))) rfl
abbrev r_X11_people : Room := { frames := 0, cells := 0, slots := 0, locals := 0 }
set_option maxHeartbeats 4000000 in
set_option maxRecDepth 100000 in
theorem k_X11_people (l : Launch) (E : gE) (am : Nat → Nat) (ss sa : Nat) (M : gS) (ad : Nat → Nat) (S : gS) (a : Int) (hM : okM M) (hS : okS S) (ha : 0 ≤ a ∧ a < 4) : gK l E yX11_people cX11_people 5 (some .int) r_X11_people [.ref (am 0), .ref (ad 0), .int (iI a)] (wM E am ss sa M ++ (wS E ad S)) (some (.int (iI (ppI S a (M.2 4).toNat)))) (wM E am ss sa M ++ (wS E ad S)) := by
  refine gK_by RX11 rfl mX11_people [(0, .ref (am 0)), (1, .ref (ad 0)), (2, .int (iI a))] (Nat.le_of_ble_eq_true rfl) rfl ?_
  intro zp ze zs zm za zb zh zc zA zQ C Z
  refine g_iconst C dX11_people_0 rfl ?_
  refine g_istore_n (lv' := [(3, .int (iI (0))), (0, .ref (am 0)), (1, .ref (ad 0)), (2, .int (iI a))]) C dX11_people_1 rfl (by decide) rfl ?_
  refine g_iconst C dX11_people_2 rfl ?_
  refine g_istore (lv' := [(4, .int (iI (0))), (3, .int (iI (0))), (0, .ref (am 0)), (1, .ref (ad 0)), (2, .int (iI a))]) C dX11_people_3 rfl (by decide) rfl ?_
  have L5 : ∀ k9 : Nat, k9 ≤ (M.2 4).toNat → gG E zp l ze r_X11_people zs zm za zb zh zc zA 5 0 0 zQ (wM E am ss sa M ++ (wS E ad S)) 5 [(4, .int (iI (k9 : Int))), (3, .int (iI (ppI S a k9))), (0, .ref (am 0)), (1, .ref (ad 0)), (2, .int (iI a))] [] := by
    refine g_up ((M.2 4).toNat) _ ?_
    intro k9 ih5 hk5
    obtain ⟨x, hx5⟩ : ∃ z, z = ppI S a k9 := ⟨_, rfl⟩
    rw [← hx5]
    have ff9 := okM_i4 hM
    refine g_iload C dX11_people_5 rfl 0 rfl ?_
    refine g_aload_n C dX11_people_7 rfl 2 rfl ?_
    refine g_get (v := .int (iI (M.2 4))) (T := TX11) (N := 13) (ci := 10) C in_X11 0 rfl rfl 5 (by decide) wd939 (Or.inl rfl) rfl dX11_people_8 rfl ?_
    have f8 := okM_i4 hM
    refine g_icmp_ge C dX11_people_11 53 (by decide) rfl (by omega) (by omega) (fun c11 => ?_) (fun c11 => ?_)
    · skip
      have hz5 : x = ppI S a (M.2 4).toNat := by rw [hx5, show k9 = (M.2 4).toNat from by omega] <;> rfl
      refine g_iload_n C dX11_people_53 rfl 1 rfl ?_
      exact z_iret C Z rfl dX11_people_54 (by exact congrArg (fun z => some (Value.int (iI z))) (hz5.symm)) rfl
    · skip
      refine g_iload_n C dX11_people_14 rfl 1 rfl ?_
      refine g_aload_n C dX11_people_15 rfl 3 rfl ?_
      refine g_getN (v := .ref (ad 7)) (T := TX10) (N := 10) (ci := 9) C rfl in_X10 6 rfl rfl 8 (by decide) (by decide +kernel) rfl rfl dX11_people_16 rfl ?_
      refine g_iconst C dX11_people_19 rfl ?_
      refine g_iload C dX11_people_20 rfl 0 rfl ?_
      refine g_imul C dX11_people_22 rfl ?_
      refine g_iconst C dX11_people_23 rfl ?_
      refine g_iadd C dX11_people_24 rfl ?_
      refine g_iald (f := (S.1 7)) C dX11_people_25 rfl 13 rfl (by omega) (by decide) ?_
      have b25 := okS_72 hS (k9 : Int)
      refine g_iload_n C dX11_people_26 rfl 4 rfl ?_
      refine g_icmp_ne C dX11_people_27 44 (by decide) rfl (by omega) (by omega) (fun c27 => ?_) (fun c27 => ?_)
      · skip
        refine g_iconst C dX11_people_44 rfl ?_
        refine g_iadd C dX11_people_45 rfl ?_
        refine g_istore_n (lv' := [(3, .int (iI (x + (0)))), (4, .int (iI (k9 : Int))), (0, .ref (am 0)), (1, .ref (ad 0)), (2, .int (iI a))]) C dX11_people_46 rfl (by decide) rfl ?_
        refine g_iinc (lv' := [(4, .int (iI ((k9 : Int) + 1))), (3, .int (iI (x + (0)))), (0, .ref (am 0)), (1, .ref (ad 0)), (2, .int (iI a))]) C dX11_people_47 rfl 1 rfl (by decide) rfl ?_
        refine g_goto C dX11_people_50 5 (by decide) ?_
        have e5 : (ppB S a) k9 x = (x + (0)) := by
          unfold ppB tod
          first | (rw [if_pos (by omega)] <;> rfl) | (rw [if_neg (by omega)] <;> rfl)
        have i5 := ih5 (by omega)
        rw [show ppI S a (k9 + 1) = (x + (0)) from by rw [← e5, hx5]; rfl] at i5
        exact g_to [0, 1, 2, 3, 4] (i5) rfl rfl rfl
      · skip
        refine g_aload_n C dX11_people_30 rfl 3 rfl ?_
        refine g_getN (v := .ref (ad 7)) (T := TX10) (N := 10) (ci := 9) C rfl in_X10 6 rfl rfl 8 (by decide) (by decide +kernel) rfl rfl dX11_people_31 rfl ?_
        refine g_iconst C dX11_people_34 rfl ?_
        refine g_iload C dX11_people_35 rfl 0 rfl ?_
        refine g_imul C dX11_people_37 rfl ?_
        refine g_iconst C dX11_people_38 rfl ?_
        refine g_iadd C dX11_people_39 rfl ?_
        refine g_iald (f := (S.1 7)) C dX11_people_40 rfl 13 rfl (by omega) (by decide) ?_
        have b40 := okS_71 hS (k9 : Int)
        refine g_goto C dX11_people_41 45 (by decide) ?_
        refine g_iadd C dX11_people_45 rfl ?_
        refine g_istore_n (lv' := [(3, .int (iI (x + ((S.1 7) (((4) * (k9 : Int)) + (1)))))), (4, .int (iI (k9 : Int))), (0, .ref (am 0)), (1, .ref (ad 0)), (2, .int (iI a))]) C dX11_people_46 rfl (by decide) rfl ?_
        refine g_iinc (lv' := [(4, .int (iI ((k9 : Int) + 1))), (3, .int (iI (x + ((S.1 7) (((4) * (k9 : Int)) + (1)))))), (0, .ref (am 0)), (1, .ref (ad 0)), (2, .int (iI a))]) C dX11_people_47 rfl 1 rfl (by decide) rfl ?_
        refine g_goto C dX11_people_50 5 (by decide) ?_
        have e5 : (ppB S a) k9 x = (x + ((S.1 7) (((4) * (k9 : Int)) + (1)))) := by
          unfold ppB tod
          first | (rw [if_pos (by omega)] <;> rfl) | (rw [if_neg (by omega)] <;> rfl)
        have i5 := ih5 (by omega)
        rw [show ppI S a (k9 + 1) = (x + ((S.1 7) (((4) * (k9 : Int)) + (1)))) from by rw [← e5, hx5]; rfl] at i5
        exact g_to [0, 1, 2, 3, 4] (i5) rfl rfl rfl
  refine g_to [0, 1, 2, 3, 4] (L5 0 (by omega)) rfl rfl rfl
abbrev r_X11_wet : Room := { frames := 1, cells := 0, slots := 0, locals := 14 }
set_option maxHeartbeats 4000000 in
set_option maxRecDepth 100000 in
theorem k_X11_wet_f (l : Launch) (E : gE) (ad : Nat → Nat) (S : gS) (hS : okS S) : gK l E yX11_wet cX11_wet 4 (some .int) r_X11_wet [.ref (ad 0), .int (iI (0))] (wS E ad S) (some (.int (iI (mwt (S.1 3))))) (wS E ad S) := by
  refine gK_by RX11 rfl mX11_wet [(0, .ref (ad 0)), (1, .int (iI (0)))] (Nat.le_of_ble_eq_true rfl) rfl ?_
  intro zp ze zs zm za zb zh zc zA zQ C Z
  refine g_iconst C dX11_wet_0 rfl ?_
  refine g_istore_n (lv' := [(2, .int (iI (0))), (0, .ref (ad 0)), (1, .int (iI (0)))]) C dX11_wet_1 rfl (by decide) rfl ?_
  refine g_bipush C dX11_wet_2 rfl rfl ?_
  refine g_istore_n (lv' := [(3, .int (iI (10))), (2, .int (iI (0))), (0, .ref (ad 0)), (1, .int (iI (0)))]) C dX11_wet_4 rfl (by decide) rfl ?_
  have L5 : ∀ k9 : Nat, k9 ≤ 70 → gG E zp l ze r_X11_wet zs zm za zb zh zc zA 4 0 0 zQ (wS E ad S) 5 [(3, .int (iI (10 + (k9 : Int)))), (2, .int (iI (itr (mwtB (S.1 3)) 0 k9))), (0, .ref (ad 0)), (1, .int (iI (0)))] [] := by
    refine g_up (70) _ ?_
    intro k9 ih5 hk5
    obtain ⟨x, hx5⟩ : ∃ z, z = itr (mwtB (S.1 3)) 0 k9 := ⟨_, rfl⟩
    rw [← hx5]
    refine g_iload_n C dX11_wet_5 rfl 0 rfl ?_
    refine g_bipush C dX11_wet_6 rfl rfl ?_
    refine g_icmp_ge C dX11_wet_8 43 (by decide) rfl (by omega) (by omega) (fun c8 => ?_) (fun c8 => ?_)
    · skip
      have hz5 : x = mwt (S.1 3) := by rw [hx5, show k9 = 70 from by omega] <;> rfl
      refine g_iload_n C dX11_wet_43 rfl 1 rfl ?_
      exact z_iret C Z rfl dX11_wet_44 (by exact congrArg (fun z => some (Value.int (iI z))) (hz5.symm)) rfl
    · skip
      refine g_iload_n C dX11_wet_11 rfl 1 rfl ?_
      refine g_iload_n C dX11_wet_12 rfl 3 rfl ?_
      refine g_if_eq C dX11_wet_13 25 (by decide) rfl (by omega) (fun _ => ?_) (fun z => absurd (by omega) z)
      refine g_iconst C dX11_wet_25 rfl ?_
      refine g_aload_n C dX11_wet_26 rfl 2 rfl ?_
      refine g_getN (v := .ref (ad 3)) (T := TX10) (N := 10) (ci := 9) C rfl in_X10 0 rfl rfl 4 (by decide) (by decide +kernel) rfl rfl dX11_wet_27 rfl ?_
      refine g_iload_n C dX11_wet_30 rfl 0 rfl ?_
      refine g_iald (f := (S.1 3)) C dX11_wet_31 rfl 3 rfl (by omega) (by decide) ?_
      have b31 := okS_3 hS (10 + (k9 : Int))
      refine g_min2 C wd1140 ⟨wd755, wd19, wd756⟩ (Nat.le_of_ble_eq_true rfl) (Nat.le_of_ble_eq_true rfl) ⟨Nat.le_of_ble_eq_true rfl, Nat.le_of_ble_eq_true rfl⟩ dX11_wet_32 rfl (by omega) (by omega) ?_
      refine g_iadd C dX11_wet_35 rfl ?_
      refine g_istore_n (lv' := [(2, .int (iI (x + (min (1) ((S.1 3) (10 + (k9 : Int))))))), (3, .int (iI (10 + (k9 : Int)))), (0, .ref (ad 0)), (1, .int (iI (0)))]) C dX11_wet_36 rfl (by decide) rfl ?_
      refine g_iinc (lv' := [(3, .int (iI ((10 + (k9 : Int)) + 1))), (2, .int (iI (x + (min (1) ((S.1 3) (10 + (k9 : Int))))))), (0, .ref (ad 0)), (1, .int (iI (0)))]) C dX11_wet_37 rfl 1 rfl (by decide) rfl ?_
      refine g_goto C dX11_wet_40 5 (by decide) ?_
      have e5 : (mwtB (S.1 3)) k9 x = (x + (min (1) ((S.1 3) (10 + (k9 : Int))))) := by
        rfl
      have i5 := ih5 (by omega)
      rw [show itr (mwtB (S.1 3)) 0 (k9 + 1) = (x + (min (1) ((S.1 3) (10 + (k9 : Int))))) from by rw [← e5, hx5]; rfl] at i5
      exact g_to [0, 1, 2, 3] (i5) rfl rfl rfl
  refine g_to [0, 1, 2, 3] (L5 0 (by omega)) rfl rfl rfl
set_option maxHeartbeats 4000000 in
set_option maxRecDepth 100000 in
theorem k_X11_wet_t (l : Launch) (E : gE) (ad : Nat → Nat) (S : gS) (hS : okS S) : gK l E yX11_wet cX11_wet 4 (some .int) r_X11_wet [.ref (ad 0), .int (iI (1))] (wS E ad S) (some (.int (iI (sm (S.1 3) 10 70)))) (wS E ad S) := by
  refine gK_by RX11 rfl mX11_wet [(0, .ref (ad 0)), (1, .int (iI (1)))] (Nat.le_of_ble_eq_true rfl) rfl ?_
  intro zp ze zs zm za zb zh zc zA zQ C Z
  refine g_iconst C dX11_wet_0 rfl ?_
  refine g_istore_n (lv' := [(2, .int (iI (0))), (0, .ref (ad 0)), (1, .int (iI (1)))]) C dX11_wet_1 rfl (by decide) rfl ?_
  refine g_bipush C dX11_wet_2 rfl rfl ?_
  refine g_istore_n (lv' := [(3, .int (iI (10))), (2, .int (iI (0))), (0, .ref (ad 0)), (1, .int (iI (1)))]) C dX11_wet_4 rfl (by decide) rfl ?_
  have L5 : ∀ k9 : Nat, k9 ≤ 70 → gG E zp l ze r_X11_wet zs zm za zb zh zc zA 4 0 0 zQ (wS E ad S) 5 [(3, .int (iI (10 + (k9 : Int)))), (2, .int (iI (itr (smB (S.1 3) 10) 0 k9))), (0, .ref (ad 0)), (1, .int (iI (1)))] [] := by
    refine g_up (70) _ ?_
    intro k9 ih5 hk5
    obtain ⟨x, hx5⟩ : ∃ z, z = itr (smB (S.1 3) 10) 0 k9 := ⟨_, rfl⟩
    rw [← hx5]
    refine g_iload_n C dX11_wet_5 rfl 0 rfl ?_
    refine g_bipush C dX11_wet_6 rfl rfl ?_
    refine g_icmp_ge C dX11_wet_8 43 (by decide) rfl (by omega) (by omega) (fun c8 => ?_) (fun c8 => ?_)
    · skip
      have hz5 : x = sm (S.1 3) 10 70 := by rw [hx5, show k9 = 70 from by omega] <;> rfl
      refine g_iload_n C dX11_wet_43 rfl 1 rfl ?_
      exact z_iret C Z rfl dX11_wet_44 (by exact congrArg (fun z => some (Value.int (iI z))) (hz5.symm)) rfl
    · skip
      refine g_iload_n C dX11_wet_11 rfl 1 rfl ?_
      refine g_iload_n C dX11_wet_12 rfl 3 rfl ?_
      refine g_if_eq C dX11_wet_13 25 (by decide) rfl (by omega) (fun z => absurd z (by omega)) (fun _ => ?_)
      refine g_aload_n C dX11_wet_16 rfl 2 rfl ?_
      refine g_getN (v := .ref (ad 3)) (T := TX10) (N := 10) (ci := 9) C rfl in_X10 0 rfl rfl 4 (by decide) (by decide +kernel) rfl rfl dX11_wet_17 rfl ?_
      refine g_iload_n C dX11_wet_20 rfl 0 rfl ?_
      refine g_iald (f := (S.1 3)) C dX11_wet_21 rfl 3 rfl (by omega) (by decide) ?_
      have b21 := okS_3 hS (10 + (k9 : Int))
      refine g_goto C dX11_wet_22 35 (by decide) ?_
      refine g_iadd C dX11_wet_35 rfl ?_
      refine g_istore_n (lv' := [(2, .int (iI (x + ((S.1 3) (10 + (k9 : Int)))))), (3, .int (iI (10 + (k9 : Int)))), (0, .ref (ad 0)), (1, .int (iI (1)))]) C dX11_wet_36 rfl (by decide) rfl ?_
      refine g_iinc (lv' := [(3, .int (iI ((10 + (k9 : Int)) + 1))), (2, .int (iI (x + ((S.1 3) (10 + (k9 : Int)))))), (0, .ref (ad 0)), (1, .int (iI (1)))]) C dX11_wet_37 rfl 1 rfl (by decide) rfl ?_
      refine g_goto C dX11_wet_40 5 (by decide) ?_
      have e5 : (smB (S.1 3) 10) k9 x = (x + ((S.1 3) (10 + (k9 : Int)))) := by
        rfl
      have i5 := ih5 (by omega)
      rw [show itr (smB (S.1 3) 10) 0 (k9 + 1) = (x + ((S.1 3) (10 + (k9 : Int)))) from by rw [← e5, hx5]; rfl] at i5
      exact g_to [0, 1, 2, 3] (i5) rfl rfl rfl
  refine g_to [0, 1, 2, 3] (L5 0 (by omega)) rfl rfl rfl
abbrev r_X11_fuel : Room := { frames := 0, cells := 0, slots := 0, locals := 0 }
set_option maxHeartbeats 4000000 in
set_option maxRecDepth 100000 in
theorem k_X11_fuel (l : Launch) (E : gE) (am : Nat → Nat) (ss sa : Nat) (M : gS) (ad : Nat → Nat) (S : gS) (hM : okM M) (hS : okS S) : gK l E yX11_fuel cX11_fuel 4 (some .int) r_X11_fuel [.ref (am 0), .ref (ad 0)] (wM E am ss sa M ++ (wS E ad S)) (some (.int (iI (fueI S (M.2 1).toNat)))) (wM E am ss sa M ++ (wS E ad S)) := by
  refine gK_by RX11 rfl mX11_fuel [(0, .ref (am 0)), (1, .ref (ad 0))] (Nat.le_of_ble_eq_true rfl) rfl ?_
  intro zp ze zs zm za zb zh zc zA zQ C Z
  refine g_iconst C dX11_fuel_0 rfl ?_
  refine g_istore_n (lv' := [(2, .int (iI (0))), (0, .ref (am 0)), (1, .ref (ad 0))]) C dX11_fuel_1 rfl (by decide) rfl ?_
  refine g_iconst C dX11_fuel_2 rfl ?_
  refine g_istore_n (lv' := [(3, .int (iI (0))), (2, .int (iI (0))), (0, .ref (am 0)), (1, .ref (ad 0))]) C dX11_fuel_3 rfl (by decide) rfl ?_
  have L4 : ∀ k9 : Nat, k9 ≤ (M.2 1).toNat → gG E zp l ze r_X11_fuel zs zm za zb zh zc zA 4 0 0 zQ (wM E am ss sa M ++ (wS E ad S)) 4 [(3, .int (iI (k9 : Int))), (2, .int (iI (fueI S k9))), (0, .ref (am 0)), (1, .ref (ad 0))] [] := by
    refine g_up ((M.2 1).toNat) _ ?_
    intro k9 ih4 hk4
    obtain ⟨x, hx4⟩ : ∃ z, z = fueI S k9 := ⟨_, rfl⟩
    rw [← hx4]
    have ff9 := okM_i1 hM
    refine g_iload_n C dX11_fuel_4 rfl 0 rfl ?_
    refine g_aload_n C dX11_fuel_5 rfl 2 rfl ?_
    refine g_get (v := .int (iI (M.2 1))) (T := TX11) (N := 13) (ci := 10) C in_X11 0 rfl rfl 2 (by decide) wd936 (Or.inl rfl) rfl dX11_fuel_6 rfl ?_
    have f6 := okM_i1 hM
    refine g_icmp_ge C dX11_fuel_9 31 (by decide) rfl (by omega) (by omega) (fun c9 => ?_) (fun c9 => ?_)
    · skip
      have hz4 : x = fueI S (M.2 1).toNat := by rw [hx4, show k9 = (M.2 1).toNat from by omega] <;> rfl
      refine g_iload_n C dX11_fuel_31 rfl 1 rfl ?_
      exact z_iret C Z rfl dX11_fuel_32 (by exact congrArg (fun z => some (Value.int (iI z))) (hz4.symm)) rfl
    · skip
      refine g_iload_n C dX11_fuel_12 rfl 1 rfl ?_
      refine g_aload_n C dX11_fuel_13 rfl 3 rfl ?_
      refine g_getN (v := .ref (ad 4)) (T := TX10) (N := 10) (ci := 9) C rfl in_X10 6 rfl rfl 5 (by decide) (by decide +kernel) rfl rfl dX11_fuel_14 rfl ?_
      refine g_iconst C dX11_fuel_17 rfl ?_
      refine g_iload_n C dX11_fuel_18 rfl 0 rfl ?_
      refine g_imul C dX11_fuel_19 rfl ?_
      refine g_iconst C dX11_fuel_20 rfl ?_
      refine g_iadd C dX11_fuel_21 rfl ?_
      refine g_iald (f := (S.1 4)) C dX11_fuel_22 rfl 10 rfl (by omega) (by decide) ?_
      have b22 := okS_42 hS (k9 : Int)
      refine g_iadd C dX11_fuel_23 rfl ?_
      refine g_istore_n (lv' := [(2, .int (iI (x + ((S.1 4) (((5) * (k9 : Int)) + (2)))))), (3, .int (iI (k9 : Int))), (0, .ref (am 0)), (1, .ref (ad 0))]) C dX11_fuel_24 rfl (by decide) rfl ?_
      refine g_iinc (lv' := [(3, .int (iI ((k9 : Int) + 1))), (2, .int (iI (x + ((S.1 4) (((5) * (k9 : Int)) + (2)))))), (0, .ref (am 0)), (1, .ref (ad 0))]) C dX11_fuel_25 rfl 1 rfl (by decide) rfl ?_
      refine g_goto C dX11_fuel_28 4 (by decide) ?_
      have e4 : (fueB S) k9 x = (x + ((S.1 4) (((5) * (k9 : Int)) + (2)))) := by
        rfl
      have i4 := ih4 (by omega)
      rw [show fueI S (k9 + 1) = (x + ((S.1 4) (((5) * (k9 : Int)) + (2)))) from by rw [← e4, hx4]; rfl] at i4
      exact g_to [0, 1, 2, 3] (i4) rfl rfl rfl
  refine g_to [0, 1, 2, 3] (L4 0 (by omega)) rfl rfl rfl
abbrev r_X11_counted : Room := { frames := 2, cells := 1, slots := 10, locals := 45 }
set_option maxHeartbeats 4000000 in
set_option maxRecDepth 100000 in
theorem k_X11_counted (l : Launch) (E : gE) (am : Nat → Nat) (sa : Nat) (M : gS) (ad : Nat → Nat) (S : gS) (what : Int) (hM : okM M) (hS : okS S) (hw : 0 ≤ what ∧ what < 10) : gK l E yX11_counted cX11_counted 3 (some .int) r_X11_counted [.ref (am 0), .int (iI what)] (wM E am (ad 0) sa M ++ (wS E ad S)) (some (.int (iI (mCnt M S what)))) (wM E am (ad 0) sa M ++ (wS E ad S)) := by
  refine gK_by RX11 rfl mX11_counted [(0, .ref (am 0)), (1, .int (iI what))] (Nat.le_of_ble_eq_true rfl) rfl ?_
  intro zp ze zs zm za zb zh zc zA zQ C Z
  refine g_bipush C dX11_counted_0 rfl rfl ?_
  refine g_newa (N := 10) C wd66 rfl (by decide) ⟨Nat.le_of_ble_eq_true rfl, Nat.le_of_ble_eq_true rfl⟩ dX11_counted_2 rfl (fun na2 => ?_)
  refine g_to [0, 1] (ws1 := wM E am (ad 0) sa M ++ (wS E ad S ++ ([(na2, ca E 10 (fun _ => 0))]))) ?_ (by simp only [List.append_assoc]) rfl rfl
  refine g_dup C dX11_counted_4 rfl rfl ?_
  refine g_iconst C dX11_counted_5 rfl ?_
  refine g_aload_n C dX11_counted_6 rfl 0 rfl ?_
  refine g_get (v := .ref (ad 0)) (T := TX11) (N := 13) (ci := 10) C in_X11 0 rfl rfl 11 (by decide) wd945 (Or.inl rfl) rfl dX11_counted_7 rfl ?_
  refine g_getN (v := .int (iI (S.2 0))) (T := TX10) (N := 10) (ci := 9) C rfl in_X10 6 rfl rfl 0 (by decide) (by decide +kernel) rfl rfl dX11_counted_10 rfl ?_
  refine g_iast (f := (fun _ => 0)) (ws' := wM E am (ad 0) sa M ++ (wS E ad S ++ ([(na2, ca E 10 (fset (fun _ => 0) (0) (S.2 0)))]))) C dX11_counted_13 rfl 15 rfl (by omega) (by decide) rfl ?_
  refine g_dup C dX11_counted_14 rfl rfl ?_
  refine g_iconst C dX11_counted_15 rfl ?_
  refine g_aload_n C dX11_counted_16 rfl 0 rfl ?_
  refine g_get (v := .int (iI (M.2 4))) (T := TX11) (N := 13) (ci := 10) C in_X11 0 rfl rfl 5 (by decide) wd939 (Or.inl rfl) rfl dX11_counted_17 rfl ?_
  have f17 := okM_i4 hM
  refine g_iast (f := (fset (fun _ => 0) (0) (S.2 0))) (ws' := wM E am (ad 0) sa M ++ (wS E ad S ++ ([(na2, ca E 10 (fset (fset (fun _ => 0) (0) (S.2 0)) (1) (M.2 4)))]))) C dX11_counted_20 rfl 15 rfl (by omega) (by decide) rfl ?_
  refine g_dup C dX11_counted_21 rfl rfl ?_
  refine g_iconst C dX11_counted_22 rfl ?_
  refine g_aload_n C dX11_counted_23 rfl 0 rfl ?_
  refine g_aload_n C dX11_counted_24 rfl 0 rfl ?_
  refine g_get (v := .ref (ad 0)) (T := TX11) (N := 13) (ci := 10) C in_X11 0 rfl rfl 11 (by decide) wd945 (Or.inl rfl) rfl dX11_counted_25 rfl ?_
  refine g_iconst C dX11_counted_28 rfl ?_
  refine g_callVf (As := [.ref (ad 0), .int (iI (0))]) (rv := some (.int (iI (ppI S (0) ((M.2 4)).toNat)))) (w1 := wM E am (ad 0) sa M ++ (wS E ad S)) (kc' := 1) (ks' := 10) C ([(na2, ca E 10 (fset (fset (fun _ => 0) (0) (S.2 0)) (1) (M.2 4)))]) (k_X11_people l E am (ad 0) sa M ad S (0) hM hS (by omega)) mX11_people iX11_people wd1133 0 10 rfl rfl rfl rfl rfl (Nat.le_of_ble_eq_true rfl) ⟨Nat.le_of_ble_eq_true rfl, Nat.le_of_ble_eq_true rfl⟩ ⟨Nat.le_of_ble_eq_true rfl, Nat.le_of_ble_eq_true rfl⟩ rfl rfl (by simp only [List.append_assoc]) dX11_counted_29 rfl ?_
  have n29 := ppI_b (M := M) (r := (0)) hS hM
  refine g_iast (f := (fset (fset (fun _ => 0) (0) (S.2 0)) (1) (M.2 4))) (ws' := wM E am (ad 0) sa M ++ (wS E ad S ++ ([(na2, ca E 10 (fset (fset (fset (fun _ => 0) (0) (S.2 0)) (1) (M.2 4)) (2) (ppI S (0) ((M.2 4)).toNat)))]))) C dX11_counted_32 rfl 15 rfl (by omega) (by decide) rfl ?_
  refine g_dup C dX11_counted_33 rfl rfl ?_
  refine g_iconst C dX11_counted_34 rfl ?_
  refine g_aload_n C dX11_counted_35 rfl 0 rfl ?_
  refine g_aload_n C dX11_counted_36 rfl 0 rfl ?_
  refine g_get (v := .ref (ad 0)) (T := TX11) (N := 13) (ci := 10) C in_X11 0 rfl rfl 11 (by decide) wd945 (Or.inl rfl) rfl dX11_counted_37 rfl ?_
  refine g_iconst C dX11_counted_40 rfl ?_
  refine g_callVf (As := [.ref (ad 0), .int (iI (1))]) (rv := some (.int (iI (ppI S (1) ((M.2 4)).toNat)))) (w1 := wM E am (ad 0) sa M ++ (wS E ad S)) (kc' := 1) (ks' := 10) C ([(na2, ca E 10 (fset (fset (fset (fun _ => 0) (0) (S.2 0)) (1) (M.2 4)) (2) (ppI S (0) ((M.2 4)).toNat)))]) (k_X11_people l E am (ad 0) sa M ad S (1) hM hS (by omega)) mX11_people iX11_people wd1133 0 10 rfl rfl rfl rfl rfl (Nat.le_of_ble_eq_true rfl) ⟨Nat.le_of_ble_eq_true rfl, Nat.le_of_ble_eq_true rfl⟩ ⟨Nat.le_of_ble_eq_true rfl, Nat.le_of_ble_eq_true rfl⟩ rfl rfl (by simp only [List.append_assoc]) dX11_counted_41 rfl ?_
  have n41 := ppI_b (M := M) (r := (1)) hS hM
  refine g_iast (f := (fset (fset (fset (fun _ => 0) (0) (S.2 0)) (1) (M.2 4)) (2) (ppI S (0) ((M.2 4)).toNat))) (ws' := wM E am (ad 0) sa M ++ (wS E ad S ++ ([(na2, ca E 10 (fset (fset (fset (fset (fun _ => 0) (0) (S.2 0)) (1) (M.2 4)) (2) (ppI S (0) ((M.2 4)).toNat)) (3) (ppI S (1) ((M.2 4)).toNat)))]))) C dX11_counted_44 rfl 15 rfl (by omega) (by decide) rfl ?_
  refine g_dup C dX11_counted_45 rfl rfl ?_
  refine g_iconst C dX11_counted_46 rfl ?_
  refine g_aload_n C dX11_counted_47 rfl 0 rfl ?_
  refine g_aload_n C dX11_counted_48 rfl 0 rfl ?_
  refine g_get (v := .ref (ad 0)) (T := TX11) (N := 13) (ci := 10) C in_X11 0 rfl rfl 11 (by decide) wd945 (Or.inl rfl) rfl dX11_counted_49 rfl ?_
  refine g_iconst C dX11_counted_52 rfl ?_
  refine g_callVf (As := [.ref (ad 0), .int (iI (2))]) (rv := some (.int (iI (ppI S (2) ((M.2 4)).toNat)))) (w1 := wM E am (ad 0) sa M ++ (wS E ad S)) (kc' := 1) (ks' := 10) C ([(na2, ca E 10 (fset (fset (fset (fset (fun _ => 0) (0) (S.2 0)) (1) (M.2 4)) (2) (ppI S (0) ((M.2 4)).toNat)) (3) (ppI S (1) ((M.2 4)).toNat)))]) (k_X11_people l E am (ad 0) sa M ad S (2) hM hS (by omega)) mX11_people iX11_people wd1133 0 10 rfl rfl rfl rfl rfl (Nat.le_of_ble_eq_true rfl) ⟨Nat.le_of_ble_eq_true rfl, Nat.le_of_ble_eq_true rfl⟩ ⟨Nat.le_of_ble_eq_true rfl, Nat.le_of_ble_eq_true rfl⟩ rfl rfl (by simp only [List.append_assoc]) dX11_counted_53 rfl ?_
  have n53 := ppI_b (M := M) (r := (2)) hS hM
  refine g_iast (f := (fset (fset (fset (fset (fun _ => 0) (0) (S.2 0)) (1) (M.2 4)) (2) (ppI S (0) ((M.2 4)).toNat)) (3) (ppI S (1) ((M.2 4)).toNat))) (ws' := wM E am (ad 0) sa M ++ (wS E ad S ++ ([(na2, ca E 10 (fset (fset (fset (fset (fset (fun _ => 0) (0) (S.2 0)) (1) (M.2 4)) (2) (ppI S (0) ((M.2 4)).toNat)) (3) (ppI S (1) ((M.2 4)).toNat)) (4) (ppI S (2) ((M.2 4)).toNat)))]))) C dX11_counted_56 rfl 15 rfl (by omega) (by decide) rfl ?_
  refine g_dup C dX11_counted_57 rfl rfl ?_
  refine g_iconst C dX11_counted_58 rfl ?_
  refine g_aload_n C dX11_counted_59 rfl 0 rfl ?_
  refine g_get (v := .ref (ad 0)) (T := TX11) (N := 13) (ci := 10) C in_X11 0 rfl rfl 11 (by decide) wd945 (Or.inl rfl) rfl dX11_counted_60 rfl ?_
  refine g_getN (v := .int (iI (S.2 1))) (T := TX10) (N := 10) (ci := 9) C rfl in_X10 6 rfl rfl 1 (by decide) (by decide +kernel) rfl rfl dX11_counted_63 rfl ?_
  refine g_iast (f := (fset (fset (fset (fset (fset (fun _ => 0) (0) (S.2 0)) (1) (M.2 4)) (2) (ppI S (0) ((M.2 4)).toNat)) (3) (ppI S (1) ((M.2 4)).toNat)) (4) (ppI S (2) ((M.2 4)).toNat))) (ws' := wM E am (ad 0) sa M ++ (wS E ad S ++ ([(na2, ca E 10 (fset (fset (fset (fset (fset (fset (fun _ => 0) (0) (S.2 0)) (1) (M.2 4)) (2) (ppI S (0) ((M.2 4)).toNat)) (3) (ppI S (1) ((M.2 4)).toNat)) (4) (ppI S (2) ((M.2 4)).toNat)) (5) (S.2 1)))]))) C dX11_counted_66 rfl 15 rfl (by omega) (by decide) rfl ?_
  refine g_dup C dX11_counted_67 rfl rfl ?_
  refine g_bipush C dX11_counted_68 rfl rfl ?_
  refine g_aload_n C dX11_counted_70 rfl 0 rfl ?_
  refine g_get (v := .ref (ad 0)) (T := TX11) (N := 13) (ci := 10) C in_X11 0 rfl rfl 11 (by decide) wd945 (Or.inl rfl) rfl dX11_counted_71 rfl ?_
  refine g_iconst C dX11_counted_74 rfl ?_
  refine g_perm (ws1 := wS E ad S ++ (wM E am (ad 0) sa M ++ ([(na2, ca E 10 (fset (fset (fset (fset (fset (fset (fun _ => 0) (0) (S.2 0)) (1) (M.2 4)) (2) (ppI S (0) ((M.2 4)).toNat)) (3) (ppI S (1) ((M.2 4)).toNat)) (4) (ppI S (2) ((M.2 4)).toNat)) (5) (S.2 1)))]))) pm_102 ?_
  refine g_callSf (As := [.ref (ad 0), .int (iI (0))]) (rv := some (.int (iI (mwt (S.1 3))))) (w1 := wS E ad S) (kc' := 1) (ks' := 10) C (wM E am (ad 0) sa M ++ ([(na2, ca E 10 (fset (fset (fset (fset (fset (fset (fun _ => 0) (0) (S.2 0)) (1) (M.2 4)) (2) (ppI S (0) ((M.2 4)).toNat)) (3) (ppI S (1) ((M.2 4)).toNat)) (4) (ppI S (2) ((M.2 4)).toNat)) (5) (S.2 1)))])) (k_X11_wet_f l E ad S hS) mX11_wet wd1138 wd1137 rfl rfl (Nat.le_of_ble_eq_true rfl) ⟨Nat.le_of_ble_eq_true rfl, Nat.le_of_ble_eq_true rfl⟩ ⟨Nat.le_of_ble_eq_true rfl, Nat.le_of_ble_eq_true rfl⟩ rfl rfl rfl dX11_counted_75 rfl ?_
  refine g_perm (ws1 := wM E am (ad 0) sa M ++ (wS E ad S ++ ([(na2, ca E 10 (fset (fset (fset (fset (fset (fset (fun _ => 0) (0) (S.2 0)) (1) (M.2 4)) (2) (ppI S (0) ((M.2 4)).toNat)) (3) (ppI S (1) ((M.2 4)).toNat)) (4) (ppI S (2) ((M.2 4)).toNat)) (5) (S.2 1)))]))) pm_102 ?_
  refine g_iast (f := (fset (fset (fset (fset (fset (fset (fun _ => 0) (0) (S.2 0)) (1) (M.2 4)) (2) (ppI S (0) ((M.2 4)).toNat)) (3) (ppI S (1) ((M.2 4)).toNat)) (4) (ppI S (2) ((M.2 4)).toNat)) (5) (S.2 1))) (ws' := wM E am (ad 0) sa M ++ (wS E ad S ++ ([(na2, ca E 10 (fset (fset (fset (fset (fset (fset (fset (fun _ => 0) (0) (S.2 0)) (1) (M.2 4)) (2) (ppI S (0) ((M.2 4)).toNat)) (3) (ppI S (1) ((M.2 4)).toNat)) (4) (ppI S (2) ((M.2 4)).toNat)) (5) (S.2 1)) (6) (mwt (S.1 3))))]))) C dX11_counted_78 rfl 15 rfl (by omega) (by decide) rfl ?_
  refine g_dup C dX11_counted_79 rfl rfl ?_
  refine g_bipush C dX11_counted_80 rfl rfl ?_
  refine g_aload_n C dX11_counted_82 rfl 0 rfl ?_
  refine g_get (v := .ref (ad 0)) (T := TX11) (N := 13) (ci := 10) C in_X11 0 rfl rfl 11 (by decide) wd945 (Or.inl rfl) rfl dX11_counted_83 rfl ?_
  refine g_iconst C dX11_counted_86 rfl ?_
  refine g_perm (ws1 := wS E ad S ++ (wM E am (ad 0) sa M ++ ([(na2, ca E 10 (fset (fset (fset (fset (fset (fset (fset (fun _ => 0) (0) (S.2 0)) (1) (M.2 4)) (2) (ppI S (0) ((M.2 4)).toNat)) (3) (ppI S (1) ((M.2 4)).toNat)) (4) (ppI S (2) ((M.2 4)).toNat)) (5) (S.2 1)) (6) (mwt (S.1 3))))]))) pm_102 ?_
  refine g_callSf (As := [.ref (ad 0), .int (iI (1))]) (rv := some (.int (iI (sm (S.1 3) 10 70)))) (w1 := wS E ad S) (kc' := 1) (ks' := 10) C (wM E am (ad 0) sa M ++ ([(na2, ca E 10 (fset (fset (fset (fset (fset (fset (fset (fun _ => 0) (0) (S.2 0)) (1) (M.2 4)) (2) (ppI S (0) ((M.2 4)).toNat)) (3) (ppI S (1) ((M.2 4)).toNat)) (4) (ppI S (2) ((M.2 4)).toNat)) (5) (S.2 1)) (6) (mwt (S.1 3))))])) (k_X11_wet_t l E ad S hS) mX11_wet wd1138 wd1137 rfl rfl (Nat.le_of_ble_eq_true rfl) ⟨Nat.le_of_ble_eq_true rfl, Nat.le_of_ble_eq_true rfl⟩ ⟨Nat.le_of_ble_eq_true rfl, Nat.le_of_ble_eq_true rfl⟩ rfl rfl rfl dX11_counted_87 rfl ?_
  refine g_perm (ws1 := wM E am (ad 0) sa M ++ (wS E ad S ++ ([(na2, ca E 10 (fset (fset (fset (fset (fset (fset (fset (fun _ => 0) (0) (S.2 0)) (1) (M.2 4)) (2) (ppI S (0) ((M.2 4)).toNat)) (3) (ppI S (1) ((M.2 4)).toNat)) (4) (ppI S (2) ((M.2 4)).toNat)) (5) (S.2 1)) (6) (mwt (S.1 3))))]))) pm_102 ?_
  have n87 := sm_b (o := 10) (okS_3 hS) 70
  refine g_iast (f := (fset (fset (fset (fset (fset (fset (fset (fun _ => 0) (0) (S.2 0)) (1) (M.2 4)) (2) (ppI S (0) ((M.2 4)).toNat)) (3) (ppI S (1) ((M.2 4)).toNat)) (4) (ppI S (2) ((M.2 4)).toNat)) (5) (S.2 1)) (6) (mwt (S.1 3)))) (ws' := wM E am (ad 0) sa M ++ (wS E ad S ++ ([(na2, ca E 10 (fset (fset (fset (fset (fset (fset (fset (fset (fun _ => 0) (0) (S.2 0)) (1) (M.2 4)) (2) (ppI S (0) ((M.2 4)).toNat)) (3) (ppI S (1) ((M.2 4)).toNat)) (4) (ppI S (2) ((M.2 4)).toNat)) (5) (S.2 1)) (6) (mwt (S.1 3))) (7) (sm (S.1 3) 10 70)))]))) C dX11_counted_90 rfl 15 rfl (by omega) (by decide) rfl ?_
  refine g_dup C dX11_counted_91 rfl rfl ?_
  refine g_bipush C dX11_counted_92 rfl rfl ?_
  refine g_aload_n C dX11_counted_94 rfl 0 rfl ?_
  refine g_get (v := .ref (ad 0)) (T := TX11) (N := 13) (ci := 10) C in_X11 0 rfl rfl 11 (by decide) wd945 (Or.inl rfl) rfl dX11_counted_95 rfl ?_
  refine g_getN (v := .ref (ad 2)) (T := TX10) (N := 10) (ci := 9) C rfl in_X10 6 rfl rfl 3 (by decide) (by decide +kernel) rfl rfl dX11_counted_98 rfl ?_
  refine g_perm (ws1 := wS E ad S ++ (wM E am (ad 0) sa M ++ ([(na2, ca E 10 (fset (fset (fset (fset (fset (fset (fset (fset (fun _ => 0) (0) (S.2 0)) (1) (M.2 4)) (2) (ppI S (0) ((M.2 4)).toNat)) (3) (ppI S (1) ((M.2 4)).toNat)) (4) (ppI S (2) ((M.2 4)).toNat)) (5) (S.2 1)) (6) (mwt (S.1 3))) (7) (sm (S.1 3) 10 70)))]))) pm_102 ?_
  refine g_callSf (As := [.ref (ad 2)]) (rv := some (.int (iI (sm (S.1 2) 0 80)))) (w1 := wS E ad S) (kc' := 1) (ks' := 10) C (wM E am (ad 0) sa M ++ ([(na2, ca E 10 (fset (fset (fset (fset (fset (fset (fset (fset (fun _ => 0) (0) (S.2 0)) (1) (M.2 4)) (2) (ppI S (0) ((M.2 4)).toNat)) (3) (ppI S (1) ((M.2 4)).toNat)) (4) (ppI S (2) ((M.2 4)).toNat)) (5) (S.2 1)) (6) (mwt (S.1 3))) (7) (sm (S.1 3) 10 70)))])) (k_X11_all l E ad S) mX11_all wd997 wd996 rfl rfl (Nat.le_of_ble_eq_true rfl) ⟨Nat.le_of_ble_eq_true rfl, Nat.le_of_ble_eq_true rfl⟩ ⟨Nat.le_of_ble_eq_true rfl, Nat.le_of_ble_eq_true rfl⟩ rfl rfl rfl dX11_counted_101 rfl ?_
  refine g_perm (ws1 := wM E am (ad 0) sa M ++ (wS E ad S ++ ([(na2, ca E 10 (fset (fset (fset (fset (fset (fset (fset (fset (fun _ => 0) (0) (S.2 0)) (1) (M.2 4)) (2) (ppI S (0) ((M.2 4)).toNat)) (3) (ppI S (1) ((M.2 4)).toNat)) (4) (ppI S (2) ((M.2 4)).toNat)) (5) (S.2 1)) (6) (mwt (S.1 3))) (7) (sm (S.1 3) 10 70)))]))) pm_102 ?_
  have n101 := sm_b (o := 0) (okS_2 hS) 80
  refine g_iast (f := (fset (fset (fset (fset (fset (fset (fset (fset (fun _ => 0) (0) (S.2 0)) (1) (M.2 4)) (2) (ppI S (0) ((M.2 4)).toNat)) (3) (ppI S (1) ((M.2 4)).toNat)) (4) (ppI S (2) ((M.2 4)).toNat)) (5) (S.2 1)) (6) (mwt (S.1 3))) (7) (sm (S.1 3) 10 70))) (ws' := wM E am (ad 0) sa M ++ (wS E ad S ++ ([(na2, ca E 10 (fset (fset (fset (fset (fset (fset (fset (fset (fset (fun _ => 0) (0) (S.2 0)) (1) (M.2 4)) (2) (ppI S (0) ((M.2 4)).toNat)) (3) (ppI S (1) ((M.2 4)).toNat)) (4) (ppI S (2) ((M.2 4)).toNat)) (5) (S.2 1)) (6) (mwt (S.1 3))) (7) (sm (S.1 3) 10 70)) (8) (sm (S.1 2) 0 80)))]))) C dX11_counted_104 rfl 15 rfl (by omega) (by decide) rfl ?_
  refine g_dup C dX11_counted_105 rfl rfl ?_
  refine g_bipush C dX11_counted_106 rfl rfl ?_
  refine g_aload_n C dX11_counted_108 rfl 0 rfl ?_
  refine g_aload_n C dX11_counted_109 rfl 0 rfl ?_
  refine g_get (v := .ref (ad 0)) (T := TX11) (N := 13) (ci := 10) C in_X11 0 rfl rfl 11 (by decide) wd945 (Or.inl rfl) rfl dX11_counted_110 rfl ?_
  refine g_callVf (As := [.ref (ad 0)]) (rv := some (.int (iI (mRing M S)))) (w1 := wM E am (ad 0) sa M ++ (wS E ad S)) (kc' := 1) (ks' := 10) C ([(na2, ca E 10 (fset (fset (fset (fset (fset (fset (fset (fset (fset (fun _ => 0) (0) (S.2 0)) (1) (M.2 4)) (2) (ppI S (0) ((M.2 4)).toNat)) (3) (ppI S (1) ((M.2 4)).toNat)) (4) (ppI S (2) ((M.2 4)).toNat)) (5) (S.2 1)) (6) (mwt (S.1 3))) (7) (sm (S.1 3) 10 70)) (8) (sm (S.1 2) 0 80)))]) (k_X11_ringing l E am (ad 0) sa M ad S hM hS) mX11_ringing iX11_ringing wd1141 0 10 rfl rfl rfl rfl rfl (Nat.le_of_ble_eq_true rfl) ⟨Nat.le_of_ble_eq_true rfl, Nat.le_of_ble_eq_true rfl⟩ ⟨Nat.le_of_ble_eq_true rfl, Nat.le_of_ble_eq_true rfl⟩ rfl rfl (by simp only [List.append_assoc]) dX11_counted_113 rfl ?_
  have n113 := mRing_b (M := M) (S := S) hM
  refine g_iast (f := (fset (fset (fset (fset (fset (fset (fset (fset (fset (fun _ => 0) (0) (S.2 0)) (1) (M.2 4)) (2) (ppI S (0) ((M.2 4)).toNat)) (3) (ppI S (1) ((M.2 4)).toNat)) (4) (ppI S (2) ((M.2 4)).toNat)) (5) (S.2 1)) (6) (mwt (S.1 3))) (7) (sm (S.1 3) 10 70)) (8) (sm (S.1 2) 0 80))) (ws' := wM E am (ad 0) sa M ++ (wS E ad S ++ ([(na2, ca E 10 (fset (fset (fset (fset (fset (fset (fset (fset (fset (fset (fun _ => 0) (0) (S.2 0)) (1) (M.2 4)) (2) (ppI S (0) ((M.2 4)).toNat)) (3) (ppI S (1) ((M.2 4)).toNat)) (4) (ppI S (2) ((M.2 4)).toNat)) (5) (S.2 1)) (6) (mwt (S.1 3))) (7) (sm (S.1 3) 10 70)) (8) (sm (S.1 2) 0 80)) (9) (mRing M S)))]))) C dX11_counted_116 rfl 15 rfl (by omega) (by decide) rfl ?_
  refine g_astore_n (lv' := [(2, .ref na2), (0, .ref (am 0)), (1, .int (iI what))]) C dX11_counted_117 rfl (by decide) rfl ?_
  refine g_aload_n C dX11_counted_118 rfl 0 rfl ?_
  refine g_iload_n C dX11_counted_119 rfl 2 rfl ?_
  refine g_iald (f := (fset (fset (fset (fset (fset (fset (fset (fset (fset (fset (fun _ => 0) (0) (S.2 0)) (1) (M.2 4)) (2) (ppI S (0) ((M.2 4)).toNat)) (3) (ppI S (1) ((M.2 4)).toNat)) (4) (ppI S (2) ((M.2 4)).toNat)) (5) (S.2 1)) (6) (mwt (S.1 3))) (7) (sm (S.1 3) 10 70)) (8) (sm (S.1 2) 0 80)) (9) (mRing M S))) C dX11_counted_120 rfl 15 rfl (by omega) (by decide) ?_
  refine g_drop (w1 := wM E am (ad 0) sa M ++ (wS E ad S)) ([(na2, ca E 10 (fset (fset (fset (fset (fset (fset (fset (fset (fset (fset (fun _ => 0) (0) (S.2 0)) (1) (M.2 4)) (2) (ppI S (0) ((M.2 4)).toNat)) (3) (ppI S (1) ((M.2 4)).toNat)) (4) (ppI S (2) ((M.2 4)).toNat)) (5) (S.2 1)) (6) (mwt (S.1 3))) (7) (sm (S.1 3) 10 70)) (8) (sm (S.1 2) 0 80)) (9) (mRing M S)))]) (by simp only [List.append_assoc]) ?_
  exact z_iret C Z rfl dX11_counted_121 (by exact congrArg (fun z => some (Value.int (iI z))) (by (have hw9 : what = 0 ∨ what = 1 ∨ what = 2 ∨ what = 3 ∨ what = 4 ∨ what = 5 ∨ what = 6 ∨ what = 7 ∨ what = 8 ∨ what = 9 := (by omega); rcases hw9 with h9 | h9 | h9 | h9 | h9 | h9 | h9 | h9 | h9 | h9 <;> subst h9 <;> (first | rfl)))) rfl
