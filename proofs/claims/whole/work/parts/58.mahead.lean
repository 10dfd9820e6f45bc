abbrev r_X11_pass : Room := { frames := 9, cells := 0, slots := 0, locals := 212 }
set_option maxHeartbeats 4000000 in
set_option maxRecDepth 100000 in
theorem k_X11_pass (l : Launch) (E : gE) (am : Nat → Nat) (sa : Nat) (M : gS) (ad : Nat → Nat) (S : gS) (n : Int) (hM : okM M) (hS : okS S) (hP : okP S (M.2 4)) (hh : 0 ≤ S.2 0 ∧ S.2 0 ≤ 2147483000) (hn : (-2147483648 ≤ n ∧ n ≤ 2147483647)) : gK l E yX11_pass cX11_pass 3 (some .int) r_X11_pass [.ref (am 0), .int (iI n)] (wM E am (ad 0) sa M ++ (wS E ad S)) (some (.int (iI (if tPS n = 0 then (mhsI (setI M 0 0) S n.toNat).2.2 1 - S.2 1 else 0)))) (wM E am (ad 0) sa (if tPS n = 0 then (mhsI (setI M 0 0) S n.toNat).1 else setI M 0 (tPS n)) ++ (wS E ad (if tPS n = 0 then (mhsI (setI M 0 0) S n.toNat).2 else S))) := by
  refine gK_by RX11 rfl mX11_pass [(0, .ref (am 0)), (1, .int (iI n))] (Nat.le_of_ble_eq_true rfl) rfl ?_
  intro zp ze zs zm za zb zh zc zA zQ C Z
  refine g_aload_n C dX11_pass_0 rfl 0 rfl ?_
  refine g_iconst C dX11_pass_1 rfl ?_
  refine g_put (T := TX11) (N := 13) (ci := 10) (ws' := wM E am (ad 0) sa (setI M 0 (0)) ++ (wS E ad S)) C in_X11 tyX11 tyX11_ok nmX11 0 rfl rfl 0 (by decide) wd934 (Or.inl rfl) rfl (ty := .int) (by decide +kernel) rfl rfl (Nat.le_of_ble_eq_true rfl) rfl dX11_pass_2 rfl ?_
  refine g_iload_n C dX11_pass_5 rfl 1 rfl ?_
  refine g_iconst C dX11_pass_6 rfl ?_
  refine g_bipush C dX11_pass_7 rfl rfl ?_
  refine g_callS1 (As := [.int (iI n), .int (iI (1)), .int (iI (36))]) (rv := some (.int (iI (bI ((1) ≤ n ∧ n ≤ (36)))))) (kc' := 0) (ks' := 0) C (k_X11_isIn l E n (1) (36) (by omega) (by omega) (by omega)) mX11_isIn wd986 wd985 rfl rfl (Nat.le_of_ble_eq_true rfl) ⟨Nat.le_of_ble_eq_true rfl, Nat.le_of_ble_eq_true rfl⟩ ⟨Nat.le_of_ble_eq_true rfl, Nat.le_of_ble_eq_true rfl⟩ rfl rfl dX11_pass_9 rfl ?_
  have n9 := bI_w ((1) ≤ n ∧ n ≤ (36))
  refine g_if_ne C dX11_pass_12 21 (by decide) rfl (by omega) (fun c12 => ?_) (fun c12 => ?_)
  · skip
    refine g_aload_n C dX11_pass_21 rfl 0 rfl ?_
    refine g_get (v := .ref (ad 0)) (T := TX11) (N := 13) (ci := 10) C in_X11 0 rfl rfl 11 (by decide) wd945 (Or.inl rfl) rfl dX11_pass_22 rfl ?_
    refine g_getN (v := .int (iI (S.2 1))) (T := TX10) (N := 10) (ci := 9) C rfl in_X10 6 rfl rfl 1 (by decide) (by decide +kernel) rfl rfl dX11_pass_25 rfl ?_
    refine g_istore_n (lv' := [(2, .int (iI (S.2 1))), (0, .ref (am 0)), (1, .int (iI n))]) C dX11_pass_28 rfl (by decide) rfl ?_
    refine g_aload_n C dX11_pass_29 rfl 1 rfl ?_
    refine g_aload_n C dX11_pass_30 rfl 1 rfl ?_
    refine g_get (v := .ref (ad 0)) (T := TX11) (N := 13) (ci := 10) C in_X11 0 rfl rfl 11 (by decide) wd945 (Or.inl rfl) rfl dX11_pass_31 rfl ?_
    refine g_iload_n C dX11_pass_34 rfl 2 rfl ?_
    have kb35 := mhsI_b (M := (setI M 0 (0))) (S := S) (okM_j0 (S := M) hM) hS hP n.toNat
    refine g_callV0 (As := [.ref (ad 0), .int (iI n)]) (rv := none) (w1 := wM E am (ad 0) sa (mhsI (setI M 0 (0)) S n.toNat).1 ++ (wS E ad (mhsI (setI M 0 (0)) S n.toNat).2)) (kc' := 0) (ks' := 0) C (k_X11_hours l E am (ad 0) sa (setI M 0 (0)) ad S n (M.2 4) (okM_j0 (S := M) hM) hS (by first | rfl | omega) hP (by first | omega | (rw [ww_0]; omega))) mX11_hours iX11_hours wd1149 0 10 rfl rfl rfl rfl rfl (Nat.le_of_ble_eq_true rfl) ⟨Nat.le_of_ble_eq_true rfl, Nat.le_of_ble_eq_true rfl⟩ ⟨Nat.le_of_ble_eq_true rfl, Nat.le_of_ble_eq_true rfl⟩ rfl rfl dX11_pass_35 rfl ?_
    have n35 : (mhsI (setI M 0 (0)) S n.toNat).1.2 4 = M.2 4 := congrFun kb35.2.2.2.1 4
    have m35 : (mhsI (setI M 0 (0)) S n.toNat).1.2 1 = M.2 1 := congrFun kb35.2.2.2.1 1
    refine g_aload_n C dX11_pass_38 rfl 1 rfl ?_
    refine g_get (v := .ref (ad 0)) (T := TX11) (N := 13) (ci := 10) C in_X11 0 rfl rfl 11 (by decide) wd945 (Or.inl rfl) rfl dX11_pass_39 rfl ?_
    refine g_getN (v := .int (iI ((mhsI (setI M 0 (0)) S n.toNat).2.2 1))) (T := TX10) (N := 10) (ci := 9) C rfl in_X10 6 rfl rfl 1 (by decide) (by decide +kernel) rfl rfl dX11_pass_42 rfl ?_
    refine g_iload_n C dX11_pass_45 rfl 0 rfl ?_
    refine g_isub C dX11_pass_46 rfl ?_
    exact z_iret C Z rfl dX11_pass_47 (by rw [show tPS n = (0 : Int) from by unfold tPS; repeat (first | (rw [if_pos (by omega)]) | (rw [if_neg (by omega)]) | (rw [if_pos trivial]))] <;> rfl) (by rw [show tPS n = (0 : Int) from by unfold tPS; repeat (first | (rw [if_pos (by omega)]) | (rw [if_neg (by omega)]) | (rw [if_pos trivial]))] <;> rfl)
  · skip
    refine g_aload_n C dX11_pass_15 rfl 0 rfl ?_
    refine g_iconst C dX11_pass_16 rfl ?_
    refine g_callVf (As := [.int (iI (1))]) (rv := some (.int (iI (0)))) (w1 := wM E am (ad 0) sa (setI M 0 (1))) (kc' := 0) (ks' := 0) C (wS E ad S) (k_X11_no l E am (ad 0) sa (setI M 0 (0)) (1)) mX11_no iX11_no wd988 0 10 rfl rfl rfl rfl rfl (Nat.le_of_ble_eq_true rfl) ⟨Nat.le_of_ble_eq_true rfl, Nat.le_of_ble_eq_true rfl⟩ ⟨Nat.le_of_ble_eq_true rfl, Nat.le_of_ble_eq_true rfl⟩ rfl rfl rfl dX11_pass_17 rfl ?_
    exact z_iret C Z rfl dX11_pass_20 (by rw [show tPS n = (1 : Int) from by unfold tPS; repeat (first | (rw [if_pos (by omega)]) | (rw [if_neg (by omega)]) | (rw [if_pos trivial]))] <;> rfl) (by rw [show tPS n = (1 : Int) from by unfold tPS; repeat (first | (rw [if_pos (by omega)]) | (rw [if_neg (by omega)]) | (rw [if_pos trivial]))] <;> rfl)
abbrev r_X11_foresee : Room := { frames := 9, cells := 0, slots := 0, locals := 212 }
set_option maxHeartbeats 4000000 in
set_option maxRecDepth 100000 in
theorem k_X11_foresee (l : Launch) (E : gE) (am : Nat → Nat) (M : gS) (ad : Nat → Nat) (S : gS) (bd : Nat → Nat) (H : gS) (n what : Int) (hM : okM M) (hS : okS S) (hH : okS H) (hP : okP S (M.2 4)) (hh : 0 ≤ S.2 0 ∧ S.2 0 ≤ 2147483000) (hn : (-2147483648 ≤ n ∧ n ≤ 2147483647)) (hw : (-2147483648 ≤ what ∧ what ≤ 2147483647)) : gK l E yX11_foresee cX11_foresee 3 (some .int) r_X11_foresee [.ref (am 0), .int (iI n), .int (iI what)] (wM E am (ad 0) (bd 0) M ++ (wS E ad S ++ (wS E bd H))) (some (.int (iI (if tFS n what = 0 then foreV M S (mhsI (setI M 0 0) (becS S H) n.toNat).2 (mhsI (setI M 0 0) (becS S H) n.toNat).1 what else 0)))) (wM E am (ad 0) (bd 0) (if tFS n what = 0 then (mhsI (setI M 0 0) (becS S H) n.toNat).1 else setI M 0 (tFS n what)) ++ (wS E ad S ++ (wS E bd (if tFS n what = 0 then (mhsI (setI M 0 0) (becS S H) n.toNat).2 else H)))) := by
  refine gK_by RX11 rfl mX11_foresee [(0, .ref (am 0)), (1, .int (iI n)), (2, .int (iI what))] (Nat.le_of_ble_eq_true rfl) rfl ?_
  intro zp ze zs zm za zb zh zc zA zQ C Z
  refine g_aload_n C dX11_foresee_0 rfl 0 rfl ?_
  refine g_iconst C dX11_foresee_1 rfl ?_
  refine g_put (T := TX11) (N := 13) (ci := 10) (ws' := wM E am (ad 0) (bd 0) (setI M 0 (0)) ++ (wS E ad S ++ (wS E bd H))) C in_X11 tyX11 tyX11_ok nmX11 0 rfl rfl 0 (by decide) wd934 (Or.inl rfl) rfl (ty := .int) (by decide +kernel) rfl rfl (Nat.le_of_ble_eq_true rfl) rfl dX11_foresee_2 rfl ?_
  refine g_iload_n C dX11_foresee_5 rfl 1 rfl ?_
  refine g_iconst C dX11_foresee_6 rfl ?_
  refine g_bipush C dX11_foresee_7 rfl rfl ?_
  refine g_callS1 (As := [.int (iI n), .int (iI (1)), .int (iI (36))]) (rv := some (.int (iI (bI ((1) ≤ n ∧ n ≤ (36)))))) (kc' := 0) (ks' := 0) C (k_X11_isIn l E n (1) (36) (by omega) (by omega) (by omega)) mX11_isIn wd986 wd985 rfl rfl (Nat.le_of_ble_eq_true rfl) ⟨Nat.le_of_ble_eq_true rfl, Nat.le_of_ble_eq_true rfl⟩ ⟨Nat.le_of_ble_eq_true rfl, Nat.le_of_ble_eq_true rfl⟩ rfl rfl dX11_foresee_9 rfl ?_
  have n9 := bI_w ((1) ≤ n ∧ n ≤ (36))
  refine g_if_ne C dX11_foresee_12 21 (by decide) rfl (by omega) (fun c12 => ?_) (fun c12 => ?_)
  · skip
    refine g_iload_n C dX11_foresee_21 rfl 2 rfl ?_
    refine g_iconst C dX11_foresee_22 rfl ?_
    refine g_iconst C dX11_foresee_23 rfl ?_
    refine g_callS1 (As := [.int (iI what), .int (iI (0)), .int (iI (3))]) (rv := some (.int (iI (bI ((0) ≤ what ∧ what ≤ (3)))))) (kc' := 0) (ks' := 0) C (k_X11_isIn l E what (0) (3) (by omega) (by omega) (by omega)) mX11_isIn wd986 wd985 rfl rfl (Nat.le_of_ble_eq_true rfl) ⟨Nat.le_of_ble_eq_true rfl, Nat.le_of_ble_eq_true rfl⟩ ⟨Nat.le_of_ble_eq_true rfl, Nat.le_of_ble_eq_true rfl⟩ rfl rfl dX11_foresee_24 rfl ?_
    have n24 := bI_w ((0) ≤ what ∧ what ≤ (3))
    refine g_if_ne C dX11_foresee_27 36 (by decide) rfl (by omega) (fun c27 => ?_) (fun c27 => ?_)
    · skip
      refine g_aload_n C dX11_foresee_36 rfl 0 rfl ?_
      refine g_get (v := .ref (bd 0)) (T := TX11) (N := 13) (ci := 10) C in_X11 0 rfl rfl 12 (by decide) wd946 (Or.inl rfl) rfl dX11_foresee_37 rfl ?_
      refine g_aload_n C dX11_foresee_40 rfl 0 rfl ?_
      refine g_get (v := .ref (ad 0)) (T := TX11) (N := 13) (ci := 10) C in_X11 0 rfl rfl 11 (by decide) wd945 (Or.inl rfl) rfl dX11_foresee_41 rfl ?_
      refine g_perm (ws1 := wS E bd H ++ (wS E ad S ++ (wM E am (ad 0) (bd 0) (setI M 0 (0))))) pm_210 ?_
      refine g_callVf (As := [.ref (ad 0)]) (rv := none) (w1 := wS E bd (becS S H) ++ (wS E ad S)) (kc' := 0) (ks' := 0) C (wM E am (ad 0) (bd 0) (setI M 0 (0))) (k_X10_become l E bd H ad S) mX10_become iX10_become wd1190 0 9 rfl rfl rfl rfl rfl (Nat.le_of_ble_eq_true rfl) ⟨Nat.le_of_ble_eq_true rfl, Nat.le_of_ble_eq_true rfl⟩ ⟨Nat.le_of_ble_eq_true rfl, Nat.le_of_ble_eq_true rfl⟩ rfl rfl (by simp only [List.append_assoc]) dX11_foresee_44 rfl ?_
      refine g_perm (ws1 := wM E am (ad 0) (bd 0) (setI M 0 (0)) ++ (wS E ad S ++ (wS E bd (becS S H)))) pm_210 ?_
      have qh47 : (becS S H).2 0 = S.2 0 := rfl
      refine g_aload_n C dX11_foresee_47 rfl 0 rfl ?_
      refine g_aload_n C dX11_foresee_48 rfl 0 rfl ?_
      refine g_get (v := .ref (bd 0)) (T := TX11) (N := 13) (ci := 10) C in_X11 0 rfl rfl 12 (by decide) wd946 (Or.inl rfl) rfl dX11_foresee_49 rfl ?_
      refine g_iload_n C dX11_foresee_52 rfl 1 rfl ?_
      have kb53 := mhsI_b (M := (setI M 0 (0))) (S := (becS S H)) (okM_j0 (S := M) hM) (okS_bec hS hH) (okP_bec (H := H) (okM_i4 hM).2 hP) n.toNat
      refine g_perm (ws1 := wM E am (ad 0) (bd 0) (setI M 0 (0)) ++ (wS E bd (becS S H) ++ (wS E ad S))) pm_021 ?_
      refine g_callVf (As := [.ref (bd 0), .int (iI n)]) (rv := none) (w1 := wM E am (ad 0) (bd 0) (mhsI (setI M 0 (0)) (becS S H) n.toNat).1 ++ (wS E bd (mhsI (setI M 0 (0)) (becS S H) n.toNat).2)) (kc' := 0) (ks' := 0) C (wS E ad S) (k_X11_hours l E am (ad 0) (bd 0) (setI M 0 (0)) bd (becS S H) n (M.2 4) (okM_j0 (S := M) hM) (okS_bec hS hH) (by first | rfl | omega) (okP_bec (H := H) (okM_i4 hM).2 hP) (by first | omega | (rw [ww_0]; omega))) mX11_hours iX11_hours wd1149 0 10 rfl rfl rfl rfl rfl (Nat.le_of_ble_eq_true rfl) ⟨Nat.le_of_ble_eq_true rfl, Nat.le_of_ble_eq_true rfl⟩ ⟨Nat.le_of_ble_eq_true rfl, Nat.le_of_ble_eq_true rfl⟩ rfl rfl (by simp only [List.append_assoc]) dX11_foresee_53 rfl ?_
      refine g_perm (ws1 := wM E am (ad 0) (bd 0) (mhsI (setI M 0 (0)) (becS S H) n.toNat).1 ++ (wS E ad S ++ (wS E bd (mhsI (setI M 0 (0)) (becS S H) n.toNat).2))) pm_021 ?_
      have n53 : (mhsI (setI M 0 (0)) (becS S H) n.toNat).1.2 4 = M.2 4 := congrFun kb53.2.2.2.1 4
      have m53 : (mhsI (setI M 0 (0)) (becS S H) n.toNat).1.2 1 = M.2 1 := congrFun kb53.2.2.2.1 1
      refine g_iload_n C dX11_foresee_56 rfl 2 rfl ?_
      refine g_if_ne C dX11_foresee_57 72 (by decide) rfl (by omega) (fun c57 => ?_) (fun c57 => ?_)
      · skip
        refine g_iload_n C dX11_foresee_72 rfl 2 rfl ?_
        refine g_iconst C dX11_foresee_73 rfl ?_
        refine g_icmp_ne C dX11_foresee_74 95 (by decide) rfl (by omega) (by omega) (fun c74 => ?_) (fun c74 => ?_)
        · skip
          refine g_iload_n C dX11_foresee_95 rfl 2 rfl ?_
          refine g_iconst C dX11_foresee_96 rfl ?_
          refine g_icmp_ne C dX11_foresee_97 111 (by decide) rfl (by omega) (by omega) (fun c97 => ?_) (fun c97 => ?_)
          · skip
            refine g_aload_n C dX11_foresee_111 rfl 0 rfl ?_
            refine g_aload_n C dX11_foresee_112 rfl 0 rfl ?_
            refine g_get (v := .ref (bd 0)) (T := TX11) (N := 13) (ci := 10) C in_X11 0 rfl rfl 12 (by decide) wd946 (Or.inl rfl) rfl dX11_foresee_113 rfl ?_
            refine g_perm (ws1 := wM E am (ad 0) (bd 0) (mhsI (setI M 0 (0)) (becS S H) n.toNat).1 ++ (wS E bd (mhsI (setI M 0 (0)) (becS S H) n.toNat).2 ++ (wS E ad S))) pm_021 ?_
            refine g_callVf (As := [.ref (bd 0)]) (rv := some (.int (iI (fueI ((mhsI (setI M 0 (0)) (becS S H) n.toNat).2) (((mhsI (setI M 0 (0)) (becS S H) n.toNat).1.2 1)).toNat)))) (w1 := wM E am (ad 0) (bd 0) (mhsI (setI M 0 (0)) (becS S H) n.toNat).1 ++ (wS E bd (mhsI (setI M 0 (0)) (becS S H) n.toNat).2)) (kc' := 0) (ks' := 0) C (wS E ad S) (k_X11_fuel l E am (ad 0) (bd 0) ((mhsI (setI M 0 (0)) (becS S H) n.toNat).1) bd ((mhsI (setI M 0 (0)) (becS S H) n.toNat).2) kb53.1 kb53.2.1) mX11_fuel iX11_fuel wd1198 0 10 rfl rfl rfl rfl rfl (Nat.le_of_ble_eq_true rfl) ⟨Nat.le_of_ble_eq_true rfl, Nat.le_of_ble_eq_true rfl⟩ ⟨Nat.le_of_ble_eq_true rfl, Nat.le_of_ble_eq_true rfl⟩ rfl rfl (by simp only [List.append_assoc]) dX11_foresee_116 rfl ?_
            refine g_perm (ws1 := wM E am (ad 0) (bd 0) (mhsI (setI M 0 (0)) (becS S H) n.toNat).1 ++ (wS E ad S ++ (wS E bd (mhsI (setI M 0 (0)) (becS S H) n.toNat).2))) pm_021 ?_
            exact z_iret C Z rfl dX11_foresee_119 (by rw [show tFS n what = (0 : Int) from by unfold tFS; repeat (first | (rw [if_pos (by omega)]) | (rw [if_neg (by omega)]) | (rw [if_pos trivial]))] <;> first | rfl | (rw [if_pos rfl]; unfold foreV; repeat (first | (rw [if_pos (by omega)]) | (rw [if_neg (by omega)]) | (rw [if_pos trivial])))) (by rw [show tFS n what = (0 : Int) from by unfold tFS; repeat (first | (rw [if_pos (by omega)]) | (rw [if_neg (by omega)]) | (rw [if_pos trivial]))] <;> rfl)
          · skip
            refine g_aload_n C dX11_foresee_100 rfl 0 rfl ?_
            refine g_get (v := .ref (bd 0)) (T := TX11) (N := 13) (ci := 10) C in_X11 0 rfl rfl 12 (by decide) wd946 (Or.inl rfl) rfl dX11_foresee_101 rfl ?_
            refine g_iconst C dX11_foresee_104 rfl ?_
            refine g_perm (ws1 := wS E bd (mhsI (setI M 0 (0)) (becS S H) n.toNat).2 ++ (wM E am (ad 0) (bd 0) (mhsI (setI M 0 (0)) (becS S H) n.toNat).1 ++ (wS E ad S))) pm_201 ?_
            refine g_callSf (As := [.ref (bd 0), .int (iI (0))]) (rv := some (.int (iI (mwt ((mhsI (setI M 0 (0)) (becS S H) n.toNat).2.1 3))))) (w1 := wS E bd (mhsI (setI M 0 (0)) (becS S H) n.toNat).2) (kc' := 0) (ks' := 0) C (wM E am (ad 0) (bd 0) (mhsI (setI M 0 (0)) (becS S H) n.toNat).1 ++ (wS E ad S)) (k_X11_wet_f l E bd ((mhsI (setI M 0 (0)) (becS S H) n.toNat).2) kb53.2.1) mX11_wet wd1138 wd1137 rfl rfl (Nat.le_of_ble_eq_true rfl) ⟨Nat.le_of_ble_eq_true rfl, Nat.le_of_ble_eq_true rfl⟩ ⟨Nat.le_of_ble_eq_true rfl, Nat.le_of_ble_eq_true rfl⟩ rfl rfl rfl dX11_foresee_105 rfl ?_
            refine g_perm (ws1 := wM E am (ad 0) (bd 0) (mhsI (setI M 0 (0)) (becS S H) n.toNat).1 ++ (wS E ad S ++ (wS E bd (mhsI (setI M 0 (0)) (becS S H) n.toNat).2))) pm_120 ?_
            refine g_goto C dX11_foresee_108 119 (by decide) ?_
            exact z_iret C Z rfl dX11_foresee_119 (by rw [show tFS n what = (0 : Int) from by unfold tFS; repeat (first | (rw [if_pos (by omega)]) | (rw [if_neg (by omega)]) | (rw [if_pos trivial]))] <;> first | rfl | (rw [if_pos rfl]; unfold foreV; repeat (first | (rw [if_pos (by omega)]) | (rw [if_neg (by omega)]) | (rw [if_pos trivial])))) (by rw [show tFS n what = (0 : Int) from by unfold tFS; repeat (first | (rw [if_pos (by omega)]) | (rw [if_neg (by omega)]) | (rw [if_pos trivial]))] <;> rfl)
        · skip
          refine g_aload_n C dX11_foresee_77 rfl 0 rfl ?_
          refine g_get (v := .ref (bd 0)) (T := TX11) (N := 13) (ci := 10) C in_X11 0 rfl rfl 12 (by decide) wd946 (Or.inl rfl) rfl dX11_foresee_78 rfl ?_
          refine g_getN (v := .int (iI ((mhsI (setI M 0 (0)) (becS S H) n.toNat).2.2 1))) (T := TX10) (N := 10) (ci := 9) C rfl in_X10 15 rfl rfl 1 (by decide) (by decide +kernel) rfl rfl dX11_foresee_81 rfl ?_
          refine g_aload_n C dX11_foresee_84 rfl 0 rfl ?_
          refine g_get (v := .ref (ad 0)) (T := TX11) (N := 13) (ci := 10) C in_X11 0 rfl rfl 11 (by decide) wd945 (Or.inl rfl) rfl dX11_foresee_85 rfl ?_
          refine g_getN (v := .int (iI (S.2 1))) (T := TX10) (N := 10) (ci := 9) C rfl in_X10 6 rfl rfl 1 (by decide) (by decide +kernel) rfl rfl dX11_foresee_88 rfl ?_
          refine g_isub C dX11_foresee_91 rfl ?_
          refine g_goto C dX11_foresee_92 119 (by decide) ?_
          exact z_iret C Z rfl dX11_foresee_119 (by rw [show tFS n what = (0 : Int) from by unfold tFS; repeat (first | (rw [if_pos (by omega)]) | (rw [if_neg (by omega)]) | (rw [if_pos trivial]))] <;> first | rfl | (rw [if_pos rfl]; unfold foreV; repeat (first | (rw [if_pos (by omega)]) | (rw [if_neg (by omega)]) | (rw [if_pos trivial])))) (by rw [show tFS n what = (0 : Int) from by unfold tFS; repeat (first | (rw [if_pos (by omega)]) | (rw [if_neg (by omega)]) | (rw [if_pos trivial]))] <;> rfl)
      · skip
        refine g_aload_n C dX11_foresee_60 rfl 0 rfl ?_
        refine g_aload_n C dX11_foresee_61 rfl 0 rfl ?_
        refine g_get (v := .ref (bd 0)) (T := TX11) (N := 13) (ci := 10) C in_X11 0 rfl rfl 12 (by decide) wd946 (Or.inl rfl) rfl dX11_foresee_62 rfl ?_
        refine g_iconst C dX11_foresee_65 rfl ?_
        refine g_perm (ws1 := wM E am (ad 0) (bd 0) (mhsI (setI M 0 (0)) (becS S H) n.toNat).1 ++ (wS E bd (mhsI (setI M 0 (0)) (becS S H) n.toNat).2 ++ (wS E ad S))) pm_021 ?_
        refine g_callVf (As := [.ref (bd 0), .int (iI (2))]) (rv := some (.int (iI (ppI ((mhsI (setI M 0 (0)) (becS S H) n.toNat).2) (2) (((mhsI (setI M 0 (0)) (becS S H) n.toNat).1.2 4)).toNat)))) (w1 := wM E am (ad 0) (bd 0) (mhsI (setI M 0 (0)) (becS S H) n.toNat).1 ++ (wS E bd (mhsI (setI M 0 (0)) (becS S H) n.toNat).2)) (kc' := 0) (ks' := 0) C (wS E ad S) (k_X11_people l E am (ad 0) (bd 0) ((mhsI (setI M 0 (0)) (becS S H) n.toNat).1) bd ((mhsI (setI M 0 (0)) (becS S H) n.toNat).2) (2) kb53.1 kb53.2.1 (by omega)) mX11_people iX11_people wd1133 0 10 rfl rfl rfl rfl rfl (Nat.le_of_ble_eq_true rfl) ⟨Nat.le_of_ble_eq_true rfl, Nat.le_of_ble_eq_true rfl⟩ ⟨Nat.le_of_ble_eq_true rfl, Nat.le_of_ble_eq_true rfl⟩ rfl rfl (by simp only [List.append_assoc]) dX11_foresee_66 rfl ?_
        refine g_perm (ws1 := wM E am (ad 0) (bd 0) (mhsI (setI M 0 (0)) (becS S H) n.toNat).1 ++ (wS E ad S ++ (wS E bd (mhsI (setI M 0 (0)) (becS S H) n.toNat).2))) pm_021 ?_
        have n66 := ppI_b (M := (mhsI (setI M 0 (0)) (becS S H) n.toNat).1) (r := (2)) kb53.2.1 kb53.1
        refine g_goto C dX11_foresee_69 119 (by decide) ?_
        exact z_iret C Z rfl dX11_foresee_119 (by rw [show tFS n what = (0 : Int) from by unfold tFS; repeat (first | (rw [if_pos (by omega)]) | (rw [if_neg (by omega)]) | (rw [if_pos trivial]))] <;> first | rfl | (rw [if_pos rfl]; unfold foreV; repeat (first | (rw [if_pos (by omega)]) | (rw [if_neg (by omega)]) | (rw [if_pos trivial])))) (by rw [show tFS n what = (0 : Int) from by unfold tFS; repeat (first | (rw [if_pos (by omega)]) | (rw [if_neg (by omega)]) | (rw [if_pos trivial]))] <;> rfl)
    · skip
      refine g_aload_n C dX11_foresee_30 rfl 0 rfl ?_
      refine g_iconst C dX11_foresee_31 rfl ?_
      refine g_callVf (As := [.int (iI (2))]) (rv := some (.int (iI (0)))) (w1 := wM E am (ad 0) (bd 0) (setI M 0 (2))) (kc' := 0) (ks' := 0) C (wS E ad S ++ (wS E bd H)) (k_X11_no l E am (ad 0) (bd 0) (setI M 0 (0)) (2)) mX11_no iX11_no wd988 0 10 rfl rfl rfl rfl rfl (Nat.le_of_ble_eq_true rfl) ⟨Nat.le_of_ble_eq_true rfl, Nat.le_of_ble_eq_true rfl⟩ ⟨Nat.le_of_ble_eq_true rfl, Nat.le_of_ble_eq_true rfl⟩ rfl rfl rfl dX11_foresee_32 rfl ?_
      exact z_iret C Z rfl dX11_foresee_35 (by rw [show tFS n what = (2 : Int) from by unfold tFS; repeat (first | (rw [if_pos (by omega)]) | (rw [if_neg (by omega)]) | (rw [if_pos trivial]))] <;> first | rfl | (rw [if_pos rfl]; unfold foreV; repeat (first | (rw [if_pos (by omega)]) | (rw [if_neg (by omega)]) | (rw [if_pos trivial])))) (by rw [show tFS n what = (2 : Int) from by unfold tFS; repeat (first | (rw [if_pos (by omega)]) | (rw [if_neg (by omega)]) | (rw [if_pos trivial]))] <;> rfl)
  · skip
    refine g_aload_n C dX11_foresee_15 rfl 0 rfl ?_
    refine g_iconst C dX11_foresee_16 rfl ?_
    refine g_callVf (As := [.int (iI (1))]) (rv := some (.int (iI (0)))) (w1 := wM E am (ad 0) (bd 0) (setI M 0 (1))) (kc' := 0) (ks' := 0) C (wS E ad S ++ (wS E bd H)) (k_X11_no l E am (ad 0) (bd 0) (setI M 0 (0)) (1)) mX11_no iX11_no wd988 0 10 rfl rfl rfl rfl rfl (Nat.le_of_ble_eq_true rfl) ⟨Nat.le_of_ble_eq_true rfl, Nat.le_of_ble_eq_true rfl⟩ ⟨Nat.le_of_ble_eq_true rfl, Nat.le_of_ble_eq_true rfl⟩ rfl rfl rfl dX11_foresee_17 rfl ?_
    exact z_iret C Z rfl dX11_foresee_20 (by rw [show tFS n what = (1 : Int) from by unfold tFS; repeat (first | (rw [if_pos (by omega)]) | (rw [if_neg (by omega)]) | (rw [if_pos trivial]))] <;> first | rfl | (rw [if_pos rfl]; unfold foreV; repeat (first | (rw [if_pos (by omega)]) | (rw [if_neg (by omega)]) | (rw [if_pos trivial])))) (by rw [show tFS n what = (1 : Int) from by unfold tFS; repeat (first | (rw [if_pos (by omega)]) | (rw [if_neg (by omega)]) | (rw [if_pos trivial]))] <;> rfl)
abbrev r_X11_rings_ : Room := { frames := 8, cells := 0, slots := 0, locals := 189 }
set_option maxHeartbeats 4000000 in
set_option maxRecDepth 100000 in
theorem k_X11_rings_ (l : Launch) (E : gE) (am : Nat → Nat) (M : gS) (ad : Nat → Nat) (S : gS) (bd : Nat → Nat) (H : gS) (g : Int) (hM : okM M) (hS : okS S) (hH : okS H) (hP : okP S (M.2 4)) (hh : 0 ≤ S.2 0 ∧ S.2 0 ≤ 2147483000) (hg : (-2147483648 ≤ g ∧ g ≤ 2147483647)) : gK l E yX11_rings_ cX11_rings_ 3 (some .int) r_X11_rings_ [.ref (am 0), .int (iI g)] (wM E am (ad 0) (bd 0) M ++ (wS E ad S ++ (wS E bd H))) (some (.int (iI (if tIn (0 ≤ g ∧ g ≤ M.2 2 - 1) True = 0 then rgR (setI M 0 0) (becS S H) g else 0)))) (wM E am (ad 0) (bd 0) (if tIn (0 ≤ g ∧ g ≤ M.2 2 - 1) True = 0 then (mhsI (setI M 0 0) (becS S H) (rgN (setI M 0 0) (becS S H) g)).1 else setI M 0 (tIn (0 ≤ g ∧ g ≤ M.2 2 - 1) True)) ++ (wS E ad S ++ (wS E bd (if tIn (0 ≤ g ∧ g ≤ M.2 2 - 1) True = 0 then (mhsI (setI M 0 0) (becS S H) (rgN (setI M 0 0) (becS S H) g)).2 else H)))) := by
  refine gK_by RX11 rfl mX11_rings_ [(0, .ref (am 0)), (1, .int (iI g))] (Nat.le_of_ble_eq_true rfl) rfl ?_
  intro zp ze zs zm za zb zh zc zA zQ C Z
  refine g_aload_n C dX11_rings__0 rfl 0 rfl ?_
  refine g_iconst C dX11_rings__1 rfl ?_
  refine g_put (T := TX11) (N := 13) (ci := 10) (ws' := wM E am (ad 0) (bd 0) (setI M 0 (0)) ++ (wS E ad S ++ (wS E bd H))) C in_X11 tyX11 tyX11_ok nmX11 0 rfl rfl 0 (by decide) wd934 (Or.inl rfl) rfl (ty := .int) (by decide +kernel) rfl rfl (Nat.le_of_ble_eq_true rfl) rfl dX11_rings__2 rfl ?_
  refine g_iload_n C dX11_rings__5 rfl 1 rfl ?_
  refine g_iconst C dX11_rings__6 rfl ?_
  refine g_aload_n C dX11_rings__7 rfl 0 rfl ?_
  refine g_get (v := .int (iI (M.2 2))) (T := TX11) (N := 13) (ci := 10) C in_X11 0 rfl rfl 3 (by decide) wd937 (Or.inl rfl) rfl dX11_rings__8 rfl ?_
  have f8 := okM_i2 hM
  refine g_iconst C dX11_rings__11 rfl ?_
  refine g_isub C dX11_rings__12 rfl ?_
  refine g_callS1 (As := [.int (iI g), .int (iI (0)), .int (iI ((M.2 2) - (1)))]) (rv := some (.int (iI (bI ((0) ≤ g ∧ g ≤ ((M.2 2) - (1))))))) (kc' := 0) (ks' := 0) C (k_X11_isIn l E g (0) ((M.2 2) - (1)) (by omega) (by omega) (by omega)) mX11_isIn wd986 wd985 rfl rfl (Nat.le_of_ble_eq_true rfl) ⟨Nat.le_of_ble_eq_true rfl, Nat.le_of_ble_eq_true rfl⟩ ⟨Nat.le_of_ble_eq_true rfl, Nat.le_of_ble_eq_true rfl⟩ rfl rfl dX11_rings__13 rfl ?_
  have n13 := bI_w ((0) ≤ g ∧ g ≤ ((M.2 2) - (1)))
  refine g_if_ne C dX11_rings__16 25 (by decide) rfl (by omega) (fun c16 => ?_) (fun c16 => ?_)
  · skip
    refine g_aload_n C dX11_rings__25 rfl 0 rfl ?_
    refine g_get (v := .ref (bd 0)) (T := TX11) (N := 13) (ci := 10) C in_X11 0 rfl rfl 12 (by decide) wd946 (Or.inl rfl) rfl dX11_rings__26 rfl ?_
    refine g_aload_n C dX11_rings__29 rfl 0 rfl ?_
    refine g_get (v := .ref (ad 0)) (T := TX11) (N := 13) (ci := 10) C in_X11 0 rfl rfl 11 (by decide) wd945 (Or.inl rfl) rfl dX11_rings__30 rfl ?_
    refine g_perm (ws1 := wS E bd H ++ (wS E ad S ++ (wM E am (ad 0) (bd 0) (setI M 0 (0))))) pm_210 ?_
    refine g_callVf (As := [.ref (ad 0)]) (rv := none) (w1 := wS E bd (becS S H) ++ (wS E ad S)) (kc' := 0) (ks' := 0) C (wM E am (ad 0) (bd 0) (setI M 0 (0))) (k_X10_become l E bd H ad S) mX10_become iX10_become wd1190 0 9 rfl rfl rfl rfl rfl (Nat.le_of_ble_eq_true rfl) ⟨Nat.le_of_ble_eq_true rfl, Nat.le_of_ble_eq_true rfl⟩ ⟨Nat.le_of_ble_eq_true rfl, Nat.le_of_ble_eq_true rfl⟩ rfl rfl (by simp only [List.append_assoc]) dX11_rings__33 rfl ?_
    refine g_perm (ws1 := wM E am (ad 0) (bd 0) (setI M 0 (0)) ++ (wS E ad S ++ (wS E bd (becS S H)))) pm_210 ?_
    refine g_iconst C dX11_rings__36 rfl ?_
    refine g_istore_n (lv' := [(2, .int (iI (0))), (0, .ref (am 0)), (1, .int (iI g))]) C dX11_rings__37 rfl (by decide) rfl ?_
    have L38 : ∀ k9 : Nat, k9 ≤ 49 → (fstI (rgF (setI M 0 0) (becS S H) g) 1 k9 = -1) → gG E zp l ze r_X11_rings_ zs zm za zb zh zc zA 3 0 0 zQ (wM E am (ad 0) (bd 0) (mhsI (setI M 0 0) (becS S H) k9).1 ++ (wS E ad S ++ (wS E bd (mhsI (setI M 0 0) (becS S H) k9).2))) 38 [(2, .int (iI (k9 : Int))), (0, .ref (am 0)), (1, .int (iI g))] [] := by
      refine g_up (49) _ ?_
      intro k9 ih38 hk38 hy38
      have kb38 := mhsI_b (M := (setI M 0 0)) (S := (becS S H)) (okM_j0 (S := M) hM) (okS_bec hS hH) (okP_bec (H := H) (okM_i4 hM).2 hP) k9
      have em38 : (mhsI (setI M 0 0) (becS S H) k9).1.2 4 = M.2 4 := congrFun kb38.2.2.2.1 4
      have eh38 : (mhsI (setI M 0 0) (becS S H) k9).2.2 0 = S.2 0 + (k9 : Int) := kb38.2.2.2.2
      have ff38 := okM_i2 hM
      refine g_iload_n C dX11_rings__38 rfl 0 rfl ?_
      refine g_bipush C dX11_rings__39 rfl rfl ?_
      refine g_icmp_gt C dX11_rings__41 72 (by decide) rfl (by omega) (by omega) (fun c41 => ?_) (fun c41 => ?_)
      · skip
        obtain rfl : k9 = 49 := by omega
        have hr56 : rgR (setI M 0 0) (becS S H) g = -1 := hy38
        have hn56 : rgN (setI M 0 0) (becS S H) g = 49 := by unfold rgN; rw [hr56, if_pos rfl]
        refine g_iconst C dX11_rings__72 rfl ?_
        exact z_iret C Z rfl dX11_rings__73 (by rw [show tIn (0 ≤ g ∧ g ≤ M.2 2 - 1) True = (0 : Int) from by unfold tIn; repeat (first | (rw [if_pos (by omega)]) | (rw [if_neg (by omega)]) | (rw [if_pos trivial]))]; rw [if_pos rfl, hr56]) (by rw [show tIn (0 ≤ g ∧ g ≤ M.2 2 - 1) True = (0 : Int) from by unfold tIn; repeat (first | (rw [if_pos (by omega)]) | (rw [if_neg (by omega)]) | (rw [if_pos trivial]))]; rw [if_pos rfl, if_pos rfl, hn56])
      · skip
        refine g_aload_n C dX11_rings__44 rfl 1 rfl ?_
        refine g_aload_n C dX11_rings__45 rfl 1 rfl ?_
        refine g_get (v := .ref (bd 0)) (T := TX11) (N := 13) (ci := 10) C in_X11 0 rfl rfl 12 (by decide) wd946 (Or.inl rfl) rfl dX11_rings__46 rfl ?_
        refine g_iload_n C dX11_rings__49 rfl 2 rfl ?_
        refine g_perm (ws1 := wM E am (ad 0) (bd 0) (mhsI (setI M 0 0) (becS S H) k9).1 ++ (wS E bd (mhsI (setI M 0 0) (becS S H) k9).2 ++ (wS E ad S))) pm_021 ?_
        refine g_callVf (As := [.ref (bd 0), .int (iI g)]) (rv := some (.int (iI (bI (((mhsI (setI M 0 0) (becS S H) k9).2.1 5) (2 * g + 1) ≤ ((mhsI (setI M 0 0) (becS S H) k9).2.1 3) (((mhsI (setI M 0 0) (becS S H) k9).2.1 5) (2 * g))))))) (w1 := wM E am (ad 0) (bd 0) (mhsI (setI M 0 0) (becS S H) k9).1 ++ (wS E bd (mhsI (setI M 0 0) (becS S H) k9).2)) (kc' := 0) (ks' := 0) C (wS E ad S) (k_X11_rings l E am (ad 0) (bd 0) (mhsI (setI M 0 0) (becS S H) k9).1 bd (mhsI (setI M 0 0) (becS S H) k9).2 g kb38.1 kb38.2.1 (by omega)) mX11_rings iX11_rings wd1066 0 10 rfl rfl rfl rfl rfl (Nat.le_of_ble_eq_true rfl) ⟨Nat.le_of_ble_eq_true rfl, Nat.le_of_ble_eq_true rfl⟩ ⟨Nat.le_of_ble_eq_true rfl, Nat.le_of_ble_eq_true rfl⟩ rfl rfl (by simp only [List.append_assoc]) dX11_rings__50 rfl ?_
        refine g_perm (ws1 := wM E am (ad 0) (bd 0) (mhsI (setI M 0 0) (becS S H) k9).1 ++ (wS E ad S ++ (wS E bd (mhsI (setI M 0 0) (becS S H) k9).2))) pm_021 ?_
        have n50 := bI_w (((mhsI (setI M 0 0) (becS S H) k9).2.1 5) (2 * g + 1) ≤ ((mhsI (setI M 0 0) (becS S H) k9).2.1 3) (((mhsI (setI M 0 0) (becS S H) k9).2.1 5) (2 * g)))
        refine g_if_eq C dX11_rings__53 58 (by decide) rfl (by omega) (fun c53 => ?_) (fun c53 => ?_)
        · skip
          refine g_aload_n C dX11_rings__58 rfl 1 rfl ?_
          refine g_aload_n C dX11_rings__59 rfl 1 rfl ?_
          refine g_get (v := .ref (bd 0)) (T := TX11) (N := 13) (ci := 10) C in_X11 0 rfl rfl 12 (by decide) wd946 (Or.inl rfl) rfl dX11_rings__60 rfl ?_
          refine g_perm (ws1 := wM E am (ad 0) (bd 0) (mhsI (setI M 0 0) (becS S H) k9).1 ++ (wS E bd (mhsI (setI M 0 0) (becS S H) k9).2 ++ (wS E ad S))) pm_021 ?_
          refine g_callVf (As := [.ref (bd 0)]) (rv := none) (w1 := wM E am (ad 0) (bd 0) (mHourM (mhsI (setI M 0 0) (becS S H) k9).1 (mhsI (setI M 0 0) (becS S H) k9).2) ++ (wS E bd (mHourS (mhsI (setI M 0 0) (becS S H) k9).1 (mhsI (setI M 0 0) (becS S H) k9).2))) (kc' := 0) (ks' := 0) C (wS E ad S) (k_X11_hour l E am (ad 0) (bd 0) (mhsI (setI M 0 0) (becS S H) k9).1 bd (mhsI (setI M 0 0) (becS S H) k9).2 (M.2 4) kb38.1 kb38.2.1 (by omega) kb38.2.2.1 (by omega)) mX11_hour iX11_hour wd1153 0 10 rfl rfl rfl rfl rfl (Nat.le_of_ble_eq_true rfl) ⟨Nat.le_of_ble_eq_true rfl, Nat.le_of_ble_eq_true rfl⟩ ⟨Nat.le_of_ble_eq_true rfl, Nat.le_of_ble_eq_true rfl⟩ rfl rfl (by simp only [List.append_assoc]) dX11_rings__63 rfl ?_
          refine g_perm (ws1 := wM E am (ad 0) (bd 0) (mHourM (mhsI (setI M 0 0) (becS S H) k9).1 (mhsI (setI M 0 0) (becS S H) k9).2) ++ (wS E ad S ++ (wS E bd (mHourS (mhsI (setI M 0 0) (becS S H) k9).1 (mhsI (setI M 0 0) (becS S H) k9).2)))) pm_021 ?_
          refine g_iinc (lv' := [(2, .int (iI ((k9 : Int) + 1))), (0, .ref (am 0)), (1, .int (iI g))]) C dX11_rings__66 rfl 0 rfl (by decide) rfl ?_
          refine g_goto C dX11_rings__69 38 (by decide) ?_
          exact g_to [0, 1, 2] (ih38 (by omega) (fst_no hy38 (by show ¬ bI ((mhsI (setI M 0 0) (becS S H) k9).2.1 5 (2 * g + 1) ≤ (mhsI (setI M 0 0) (becS S H) k9).2.1 3 ((mhsI (setI M 0 0) (becS S H) k9).2.1 5 (2 * g))) = 1; omega))) rfl rfl rfl
        · skip
          have hr56 : rgR (setI M 0 0) (becS S H) g = (k9 : Int) := fst_yes hy38 (by show bI ((mhsI (setI M 0 0) (becS S H) k9).2.1 5 (2 * g + 1) ≤ (mhsI (setI M 0 0) (becS S H) k9).2.1 3 ((mhsI (setI M 0 0) (becS S H) k9).2.1 5 (2 * g))) = 1; omega) (by omega)
          have hn56 : rgN (setI M 0 0) (becS S H) g = k9 := by unfold rgN; rw [hr56, if_neg (by omega)]; rfl
          refine g_iload_n C dX11_rings__56 rfl 0 rfl ?_
          exact z_iret C Z rfl dX11_rings__57 (by rw [show tIn (0 ≤ g ∧ g ≤ M.2 2 - 1) True = (0 : Int) from by unfold tIn; repeat (first | (rw [if_pos (by omega)]) | (rw [if_neg (by omega)]) | (rw [if_pos trivial]))]; rw [if_pos rfl, hr56]) (by rw [show tIn (0 ≤ g ∧ g ≤ M.2 2 - 1) True = (0 : Int) from by unfold tIn; repeat (first | (rw [if_pos (by omega)]) | (rw [if_neg (by omega)]) | (rw [if_pos trivial]))]; rw [if_pos rfl, if_pos rfl, hn56])
    refine g_to [0, 1, 2] (L38 0 (by omega) (rfl)) rfl rfl rfl
  · skip
    refine g_aload_n C dX11_rings__19 rfl 0 rfl ?_
    refine g_iconst C dX11_rings__20 rfl ?_
    refine g_callVf (As := [.int (iI (1))]) (rv := some (.int (iI (0)))) (w1 := wM E am (ad 0) (bd 0) (setI M 0 (1))) (kc' := 0) (ks' := 0) C (wS E ad S ++ (wS E bd H)) (k_X11_no l E am (ad 0) (bd 0) (setI M 0 (0)) (1)) mX11_no iX11_no wd988 0 10 rfl rfl rfl rfl rfl (Nat.le_of_ble_eq_true rfl) ⟨Nat.le_of_ble_eq_true rfl, Nat.le_of_ble_eq_true rfl⟩ ⟨Nat.le_of_ble_eq_true rfl, Nat.le_of_ble_eq_true rfl⟩ rfl rfl rfl dX11_rings__21 rfl ?_
    exact z_iret C Z rfl dX11_rings__24 (by rw [show tIn (0 ≤ g ∧ g ≤ M.2 2 - 1) True = (1 : Int) from by unfold tIn; repeat (first | (rw [if_pos (by omega)]) | (rw [if_neg (by omega)]) | (rw [if_pos trivial]))] <;> rfl) (by rw [show tIn (0 ≤ g ∧ g ≤ M.2 2 - 1) True = (1 : Int) from by unfold tIn; repeat (first | (rw [if_pos (by omega)]) | (rw [if_neg (by omega)]) | (rw [if_pos trivial]))] <;> rfl)
abbrev r_X11_waterWith : Room := { frames := 9, cells := 0, slots := 0, locals := 212 }
set_option maxHeartbeats 4000000 in
set_option maxRecDepth 100000 in
theorem k_X11_waterWith (l : Launch) (E : gE) (am : Nat → Nat) (M : gS) (ad : Nat → Nat) (S : gS) (bd : Nat → Nat) (H : gS) (q n : Int) (hM : okM M) (hS : okS S) (hH : okS H) (hP : okP S (M.2 4)) (hh : 0 ≤ S.2 0 ∧ S.2 0 ≤ 2147483000) (hb : bnd (S.1 2) 0 5) (hq : -1 ≤ q ∧ q < 80) (hn : 0 ≤ n ∧ n ≤ 36) : gK l E yX11_waterWith cX11_waterWith 3 (some .int) r_X11_waterWith [.ref (am 0), .int (iI q), .int (iI n)] (wM E am (ad 0) (bd 0) M ++ (wS E ad S ++ (wS E bd H))) (some (.int (iI (wwV (wwX M S H q n.toNat))))) (wM E am (ad 0) (bd 0) (wwX M S H q n.toNat).1 ++ (wS E ad S ++ (wS E bd (wwX M S H q n.toNat).2))) := by
  refine gK_by RX11 rfl mX11_waterWith [(0, .ref (am 0)), (1, .int (iI q)), (2, .int (iI n))] (Nat.le_of_ble_eq_true rfl) rfl ?_
  intro zp ze zs zm za zb zh zc zA zQ C Z
  refine g_aload_n C dX11_waterWith_0 rfl 0 rfl ?_
  refine g_get (v := .ref (bd 0)) (T := TX11) (N := 13) (ci := 10) C in_X11 0 rfl rfl 12 (by decide) wd946 (Or.inl rfl) rfl dX11_waterWith_1 rfl ?_
  refine g_aload_n C dX11_waterWith_4 rfl 0 rfl ?_
  refine g_get (v := .ref (ad 0)) (T := TX11) (N := 13) (ci := 10) C in_X11 0 rfl rfl 11 (by decide) wd945 (Or.inl rfl) rfl dX11_waterWith_5 rfl ?_
  refine g_perm (ws1 := wS E bd H ++ (wS E ad S ++ (wM E am (ad 0) (bd 0) M))) pm_210 ?_
  refine g_callVf (As := [.ref (ad 0)]) (rv := none) (w1 := wS E bd (becS S H) ++ (wS E ad S)) (kc' := 0) (ks' := 0) C (wM E am (ad 0) (bd 0) M) (k_X10_become l E bd H ad S) mX10_become iX10_become wd1190 0 9 rfl rfl rfl rfl rfl (Nat.le_of_ble_eq_true rfl) ⟨Nat.le_of_ble_eq_true rfl, Nat.le_of_ble_eq_true rfl⟩ ⟨Nat.le_of_ble_eq_true rfl, Nat.le_of_ble_eq_true rfl⟩ rfl rfl (by simp only [List.append_assoc]) dX11_waterWith_8 rfl ?_
  refine g_perm (ws1 := wM E am (ad 0) (bd 0) M ++ (wS E ad S ++ (wS E bd (becS S H)))) pm_210 ?_
  refine g_iload_n C dX11_waterWith_11 rfl 1 rfl ?_
  refine g_iconst C dX11_waterWith_12 rfl ?_
  have J13 : gG E zp l ze r_X11_waterWith zs zm za zb zh zc zA 3 0 0 zQ (wM E am (ad 0) (bd 0) M ++ (wS E ad S ++ (wS E bd (wwB S H q)))) 29 [(0, .ref (am 0)), (1, .int (iI q)), (2, .int (iI n))] [] := by
    have qh29 : (wwB S H q).2 0 = S.2 0 := ww_0
    refine g_aload_n C dX11_waterWith_29 rfl 0 rfl ?_
    refine g_aload_n C dX11_waterWith_30 rfl 0 rfl ?_
    refine g_get (v := .ref (bd 0)) (T := TX11) (N := 13) (ci := 10) C in_X11 0 rfl rfl 12 (by decide) wd946 (Or.inl rfl) rfl dX11_waterWith_31 rfl ?_
    refine g_iload_n C dX11_waterWith_34 rfl 2 rfl ?_
    have kb35 := mhsI_b (M := M) (S := (wwB S H q)) hM (okS_ww hS hH hb hq) (okP_ww (H := H) (q := q) (okM_i4 hM).2 hP) n.toNat
    refine g_perm (ws1 := wM E am (ad 0) (bd 0) M ++ (wS E bd (wwB S H q) ++ (wS E ad S))) pm_021 ?_
    refine g_callVf (As := [.ref (bd 0), .int (iI n)]) (rv := none) (w1 := wM E am (ad 0) (bd 0) (mhsI M (wwB S H q) n.toNat).1 ++ (wS E bd (mhsI M (wwB S H q) n.toNat).2)) (kc' := 0) (ks' := 0) C (wS E ad S) (k_X11_hours l E am (ad 0) (bd 0) M bd (wwB S H q) n (M.2 4) hM (okS_ww hS hH hb hq) (by first | rfl | omega) (okP_ww (H := H) (q := q) (okM_i4 hM).2 hP) (by first | omega | (rw [ww_0]; omega))) mX11_hours iX11_hours wd1149 0 10 rfl rfl rfl rfl rfl (Nat.le_of_ble_eq_true rfl) ⟨Nat.le_of_ble_eq_true rfl, Nat.le_of_ble_eq_true rfl⟩ ⟨Nat.le_of_ble_eq_true rfl, Nat.le_of_ble_eq_true rfl⟩ rfl rfl (by simp only [List.append_assoc]) dX11_waterWith_35 rfl ?_
    refine g_perm (ws1 := wM E am (ad 0) (bd 0) (mhsI M (wwB S H q) n.toNat).1 ++ (wS E ad S ++ (wS E bd (mhsI M (wwB S H q) n.toNat).2))) pm_021 ?_
    have n35 : (mhsI M (wwB S H q) n.toNat).1.2 4 = M.2 4 := congrFun kb35.2.2.2.1 4
    have m35 : (mhsI M (wwB S H q) n.toNat).1.2 1 = M.2 1 := congrFun kb35.2.2.2.1 1
    refine g_aload_n C dX11_waterWith_38 rfl 0 rfl ?_
    refine g_get (v := .ref (bd 0)) (T := TX11) (N := 13) (ci := 10) C in_X11 0 rfl rfl 12 (by decide) wd946 (Or.inl rfl) rfl dX11_waterWith_39 rfl ?_
    refine g_iconst C dX11_waterWith_42 rfl ?_
    refine g_perm (ws1 := wS E bd (mhsI M (wwB S H q) n.toNat).2 ++ (wM E am (ad 0) (bd 0) (mhsI M (wwB S H q) n.toNat).1 ++ (wS E ad S))) pm_201 ?_
    refine g_callSf (As := [.ref (bd 0), .int (iI (1))]) (rv := some (.int (iI (sm ((mhsI M (wwB S H q) n.toNat).2.1 3) 10 70)))) (w1 := wS E bd (mhsI M (wwB S H q) n.toNat).2) (kc' := 0) (ks' := 0) C (wM E am (ad 0) (bd 0) (mhsI M (wwB S H q) n.toNat).1 ++ (wS E ad S)) (k_X11_wet_t l E bd ((mhsI M (wwB S H q) n.toNat).2) kb35.2.1) mX11_wet wd1138 wd1137 rfl rfl (Nat.le_of_ble_eq_true rfl) ⟨Nat.le_of_ble_eq_true rfl, Nat.le_of_ble_eq_true rfl⟩ ⟨Nat.le_of_ble_eq_true rfl, Nat.le_of_ble_eq_true rfl⟩ rfl rfl rfl dX11_waterWith_43 rfl ?_
    refine g_perm (ws1 := wM E am (ad 0) (bd 0) (mhsI M (wwB S H q) n.toNat).1 ++ (wS E ad S ++ (wS E bd (mhsI M (wwB S H q) n.toNat).2))) pm_120 ?_
    have n43 := sm_b (o := 10) (okS_3 kb35.2.1) 70
    exact z_iret C Z rfl dX11_waterWith_46 rfl rfl
  refine g_icmp_eq C dX11_waterWith_13 29 (by decide) rfl (by omega) (by omega) (fun c13 => ?_) (fun c13 => ?_)
  · skip
    exact g_to [0, 1, 2] (J13) (by unfold wwB; first | (rw [if_pos (by omega)]) | (rw [if_neg (by omega)])) rfl rfl
  · skip
    refine g_aload_n C dX11_waterWith_16 rfl 0 rfl ?_
    refine g_get (v := .ref (bd 0)) (T := TX11) (N := 13) (ci := 10) C in_X11 0 rfl rfl 12 (by decide) wd946 (Or.inl rfl) rfl dX11_waterWith_17 rfl ?_
    refine g_getN (v := .ref (bd 2)) (T := TX10) (N := 10) (ci := 9) C rfl in_X10 15 rfl rfl 3 (by decide) (by decide +kernel) rfl rfl dX11_waterWith_20 rfl ?_
    refine g_iload_n C dX11_waterWith_23 rfl 1 rfl ?_
    refine g_dup2 C dX11_waterWith_24 rfl rfl rfl ?_
    refine g_iald (f := ((becS S H).1 2)) C dX11_waterWith_25 rfl 17 rfl (by omega) (by decide) ?_
    have b25 := okS_2 (okS_bec hS hH) q
    refine g_iconst C dX11_waterWith_26 rfl ?_
    refine g_iadd C dX11_waterWith_27 rfl ?_
    refine g_iast (f := ((becS S H).1 2)) (ws' := wM E am (ad 0) (bd 0) M ++ (wS E ad S ++ (wS E bd (setA (becS S H) 2 (fset ((becS S H).1 2) q ((((becS S H).1 2) q) + (1))))))) C dX11_waterWith_28 rfl 17 rfl (by omega) (by decide) rfl ?_
    exact g_to [0, 1, 2] (J13) (by unfold wwB; first | (rw [if_pos (by omega)]) | (rw [if_neg (by omega)])) rfl rfl
abbrev r_X11_advise : Room := { frames := 10, cells := 0, slots := 0, locals := 234 }
set_option maxHeartbeats 4000000 in
set_option maxRecDepth 100000 in
theorem k_X11_advise (l : Launch) (E : gE) (am : Nat → Nat) (M : gS) (ad : Nat → Nat) (S : gS) (bd : Nat → Nat) (H : gS) (n : Int) (hM : okM M) (hS : okS S) (hH : okS H) (hP : okP S (M.2 4)) (hh : 0 ≤ S.2 0 ∧ S.2 0 ≤ 2147483000) (hb : bnd (S.1 2) 0 5) (hn : (-2147483648 ≤ n ∧ n ≤ 2147483647)) : gK l E yX11_advise cX11_advise 6 (some .int) r_X11_advise [.ref (am 0), .int (iI n)] (wM E am (ad 0) (bd 0) M ++ (wS E ad S ++ (wS E bd H))) (some (.int (iI (if tAD n = 0 then (adI (setI M 0 0) S H n.toNat 10).2.2.1 else 0)))) (wM E am (ad 0) (bd 0) (if tAD n = 0 then (adI (setI M 0 0) S H n.toNat 10).1 else setI M 0 (tAD n)) ++ (wS E ad S ++ (wS E bd (if tAD n = 0 then (adI (setI M 0 0) S H n.toNat 10).2.1 else H)))) := by
  refine gK_by RX11 rfl mX11_advise [(0, .ref (am 0)), (1, .int (iI n))] (Nat.le_of_ble_eq_true rfl) rfl ?_
  intro zp ze zs zm za zb zh zc zA zQ C Z
  refine g_aload_n C dX11_advise_0 rfl 0 rfl ?_
  refine g_iconst C dX11_advise_1 rfl ?_
  refine g_put (T := TX11) (N := 13) (ci := 10) (ws' := wM E am (ad 0) (bd 0) (setI M 0 (0)) ++ (wS E ad S ++ (wS E bd H))) C in_X11 tyX11 tyX11_ok nmX11 0 rfl rfl 0 (by decide) wd934 (Or.inl rfl) rfl (ty := .int) (by decide +kernel) rfl rfl (Nat.le_of_ble_eq_true rfl) rfl dX11_advise_2 rfl ?_
  refine g_iload_n C dX11_advise_5 rfl 1 rfl ?_
  refine g_iconst C dX11_advise_6 rfl ?_
  refine g_bipush C dX11_advise_7 rfl rfl ?_
  refine g_callS1 (As := [.int (iI n), .int (iI (1)), .int (iI (6))]) (rv := some (.int (iI (bI ((1) ≤ n ∧ n ≤ (6)))))) (kc' := 0) (ks' := 0) C (k_X11_isIn l E n (1) (6) (by omega) (by omega) (by omega)) mX11_isIn wd986 wd985 rfl rfl (Nat.le_of_ble_eq_true rfl) ⟨Nat.le_of_ble_eq_true rfl, Nat.le_of_ble_eq_true rfl⟩ ⟨Nat.le_of_ble_eq_true rfl, Nat.le_of_ble_eq_true rfl⟩ rfl rfl dX11_advise_9 rfl ?_
  have n9 := bI_w ((1) ≤ n ∧ n ≤ (6))
  refine g_if_ne C dX11_advise_12 21 (by decide) rfl (by omega) (fun c12 => ?_) (fun c12 => ?_)
  · skip
    refine g_aload_n C dX11_advise_21 rfl 0 rfl ?_
    refine g_iconst C dX11_advise_22 rfl ?_
    refine g_iload_n C dX11_advise_23 rfl 1 rfl ?_
    have kb24 := wwX_b (M := (setI M 0 (0))) (S := S) (H := H) (q := (-1)) (n := n.toNat) (okM_j0 (S := M) hM) hS hH hP hb (by omega)
    refine g_callV0 (As := [.int (iI (-1)), .int (iI n)]) (rv := some (.int (iI (wwV (wwX (setI M 0 (0)) S H (-1) n.toNat))))) (w1 := wM E am (ad 0) (bd 0) (wwX (setI M 0 (0)) S H (-1) n.toNat).1 ++ (wS E ad S ++ (wS E bd (wwX (setI M 0 (0)) S H (-1) n.toNat).2))) (kc' := 0) (ks' := 0) C (k_X11_waterWith l E am (setI M 0 (0)) ad S bd H (-1) n (okM_j0 (S := M) hM) hS hH hP (by omega) hb (by omega) (by omega)) mX11_waterWith iX11_waterWith wd1210 0 10 rfl rfl rfl rfl rfl (Nat.le_of_ble_eq_true rfl) ⟨Nat.le_of_ble_eq_true rfl, Nat.le_of_ble_eq_true rfl⟩ ⟨Nat.le_of_ble_eq_true rfl, Nat.le_of_ble_eq_true rfl⟩ rfl rfl dX11_advise_24 rfl ?_
    have n24 := kb24.2.2.2
    refine g_istore_n (lv' := [(2, .int (iI (wwV (wwX (setI M 0 (0)) S H (-1) n.toNat)))), (0, .ref (am 0)), (1, .int (iI n))]) C dX11_advise_27 rfl (by decide) rfl ?_
    refine g_iconst C dX11_advise_28 rfl ?_
    refine g_istore_n (lv' := [(3, .int (iI (-1))), (2, .int (iI (wwV (wwX (setI M 0 (0)) S H (-1) n.toNat)))), (0, .ref (am 0)), (1, .int (iI n))]) C dX11_advise_29 rfl (by decide) rfl ?_
    refine g_iconst C dX11_advise_30 rfl ?_
    refine g_istore (lv' := [(4, .int (iI (0))), (3, .int (iI (-1))), (2, .int (iI (wwV (wwX (setI M 0 (0)) S H (-1) n.toNat)))), (0, .ref (am 0)), (1, .int (iI n))]) C dX11_advise_31 rfl (by decide) rfl ?_
    have L33 : ∀ k9 : Nat, k9 ≤ 10 → gG E zp l ze r_X11_advise zs zm za zb zh zc zA 6 0 0 zQ (wM E am (ad 0) (bd 0) (adI (setI M 0 0) S H n.toNat k9).1 ++ (wS E ad S ++ (wS E bd (adI (setI M 0 0) S H n.toNat k9).2.1))) 33 [(4, .int (iI (k9 : Int))), (3, .int (iI (adI (setI M 0 0) S H n.toNat k9).2.2.1)), (2, .int (iI (adI (setI M 0 0) S H n.toNat k9).2.2.2)), (0, .ref (am 0)), (1, .int (iI n))] [] := by
      refine g_up (10) _ ?_
      intro k9 ih33 hk33
      have iv33_0 := adI_b (M := (setI M 0 0)) (S := S) (H := H) (n := n.toNat) (okM_j0 (S := M) hM) hS hH hP hb k9 hk33
      obtain ⟨x, hx33⟩ : ∃ z, z = adI (setI M 0 0) S H n.toNat k9 := ⟨_, rfl⟩
      rw [← hx33]
      rw [← hx33] at iv33_0
      have bl33 := iv33_0.2.2.2
      have bb33 := hb (10 + (k9 : Int))
      refine g_iload C dX11_advise_33 rfl 0 rfl ?_
      refine g_bipush C dX11_advise_35 rfl rfl ?_
      refine g_icmp_ge C dX11_advise_37 93 (by decide) rfl (by omega) (by omega) (fun c37 => ?_) (fun c37 => ?_)
      · skip
        have hz33 : x = adI (setI M 0 0) S H n.toNat 10 := by rw [hx33, show k9 = 10 from by omega] <;> rfl
        refine g_iload_n C dX11_advise_93 rfl 1 rfl ?_
        exact z_iret C Z rfl dX11_advise_94 (by rw [show tAD n = (0 : Int) from by unfold tAD; repeat (first | (rw [if_pos (by omega)]) | (rw [if_neg (by omega)]) | (rw [if_pos trivial]))]; rw [if_pos rfl, hz33]) (by rw [show tAD n = (0 : Int) from by unfold tAD; repeat (first | (rw [if_pos (by omega)]) | (rw [if_neg (by omega)]) | (rw [if_pos trivial]))]; rw [if_pos rfl, if_pos rfl, hz33])
      · skip
        refine g_aload_n C dX11_advise_40 rfl 3 rfl ?_
        refine g_get (v := .ref (ad 0)) (T := TX11) (N := 13) (ci := 10) C in_X11 0 rfl rfl 11 (by decide) wd945 (Or.inl rfl) rfl dX11_advise_41 rfl ?_
        refine g_getN (v := .ref (ad 2)) (T := TX10) (N := 10) (ci := 9) C rfl in_X10 6 rfl rfl 3 (by decide) (by decide +kernel) rfl rfl dX11_advise_44 rfl ?_
        refine g_bipush C dX11_advise_47 rfl rfl ?_
        refine g_iload C dX11_advise_49 rfl 0 rfl ?_
        refine g_iadd C dX11_advise_51 rfl ?_
        refine g_iald (f := (S.1 2)) C dX11_advise_52 rfl 8 rfl (by omega) (by decide) ?_
        have b52 := okS_2 hS ((10) + (k9 : Int))
        refine g_iconst C dX11_advise_53 rfl ?_
        refine g_icmp_ne C dX11_advise_54 60 (by decide) rfl (by omega) (by omega) (fun c54 => ?_) (fun c54 => ?_)
        · skip
          refine g_aload_n C dX11_advise_60 rfl 3 rfl ?_
          refine g_bipush C dX11_advise_61 rfl rfl ?_
          refine g_iload C dX11_advise_63 rfl 0 rfl ?_
          refine g_iadd C dX11_advise_65 rfl ?_
          refine g_iload_n C dX11_advise_66 rfl 4 rfl ?_
          have kb67 := wwX_b (M := x.1) (S := S) (H := x.2.1) (q := ((10) + (k9 : Int))) (n := n.toNat) iv33_0.1 hS iv33_0.2.1 (by rw [iv33_0.2.2.1]; exact hP) hb (by omega)
          refine g_callV0 (As := [.int (iI ((10) + (k9 : Int))), .int (iI n)]) (rv := some (.int (iI (wwV (wwX x.1 S x.2.1 ((10) + (k9 : Int)) n.toNat))))) (w1 := wM E am (ad 0) (bd 0) (wwX x.1 S x.2.1 ((10) + (k9 : Int)) n.toNat).1 ++ (wS E ad S ++ (wS E bd (wwX x.1 S x.2.1 ((10) + (k9 : Int)) n.toNat).2))) (kc' := 0) (ks' := 0) C (k_X11_waterWith l E am x.1 ad S bd x.2.1 ((10) + (k9 : Int)) n iv33_0.1 hS iv33_0.2.1 (by rw [iv33_0.2.2.1]; exact hP) (by omega) hb (by omega) (by omega)) mX11_waterWith iX11_waterWith wd1210 0 10 rfl rfl rfl rfl rfl (Nat.le_of_ble_eq_true rfl) ⟨Nat.le_of_ble_eq_true rfl, Nat.le_of_ble_eq_true rfl⟩ ⟨Nat.le_of_ble_eq_true rfl, Nat.le_of_ble_eq_true rfl⟩ rfl rfl dX11_advise_67 rfl ?_
          have n67 := kb67.2.2.2
          refine g_istore (lv' := [(5, .int (iI (wwV (wwX x.1 S x.2.1 ((10) + (k9 : Int)) n.toNat)))), (4, .int (iI (k9 : Int))), (3, .int (iI x.2.2.1)), (2, .int (iI x.2.2.2)), (0, .ref (am 0)), (1, .int (iI n))]) C dX11_advise_70 rfl (by decide) rfl ?_
          refine g_iload C dX11_advise_72 rfl 0 rfl ?_
          refine g_iload_n C dX11_advise_74 rfl 3 rfl ?_
          refine g_icmp_lt C dX11_advise_75 81 (by decide) rfl (by omega) (by omega) (fun c75 => ?_) (fun c75 => ?_)
          · skip
            refine g_iload C dX11_advise_81 rfl 1 rfl ?_
            refine g_istore_n (lv' := [(3, .int (iI (k9 : Int))), (5, .int (iI (wwV (wwX x.1 S x.2.1 ((10) + (k9 : Int)) n.toNat)))), (4, .int (iI (k9 : Int))), (2, .int (iI x.2.2.2)), (0, .ref (am 0)), (1, .int (iI n))]) C dX11_advise_83 rfl (by decide) rfl ?_
            refine g_iload C dX11_advise_84 rfl 1 rfl ?_
            refine g_istore_n (lv' := [(2, .int (iI (wwV (wwX x.1 S x.2.1 ((10) + (k9 : Int)) n.toNat)))), (3, .int (iI (k9 : Int))), (5, .int (iI (wwV (wwX x.1 S x.2.1 ((10) + (k9 : Int)) n.toNat)))), (4, .int (iI (k9 : Int))), (0, .ref (am 0)), (1, .int (iI n))]) C dX11_advise_86 rfl (by decide) rfl ?_
            refine g_iinc (lv' := [(4, .int (iI ((k9 : Int) + 1))), (2, .int (iI (wwV (wwX x.1 S x.2.1 ((10) + (k9 : Int)) n.toNat)))), (3, .int (iI (k9 : Int))), (5, .int (iI (wwV (wwX x.1 S x.2.1 ((10) + (k9 : Int)) n.toNat)))), (0, .ref (am 0)), (1, .int (iI n))]) C dX11_advise_87 rfl 3 rfl (by decide) rfl ?_
            refine g_goto C dX11_advise_90 33 (by decide) ?_
            have e33 : (adB S n.toNat) k9 x = ((wwX x.1 S x.2.1 ((10) + (k9 : Int)) n.toNat).1, (wwX x.1 S x.2.1 ((10) + (k9 : Int)) n.toNat).2, (k9 : Int), (wwV (wwX x.1 S x.2.1 ((10) + (k9 : Int)) n.toNat))) := by
              unfold adB
              first | (rw [if_pos (by omega)] <;> rfl) | (rw [if_neg (by omega), if_pos (by omega)] <;> rfl) | (rw [if_neg (by omega), if_neg (by omega)] <;> rfl)
            have i33 := ih33 (by omega)
            rw [show adI (setI M 0 0) S H n.toNat (k9 + 1) = ((wwX x.1 S x.2.1 ((10) + (k9 : Int)) n.toNat).1, (wwX x.1 S x.2.1 ((10) + (k9 : Int)) n.toNat).2, (k9 : Int), (wwV (wwX x.1 S x.2.1 ((10) + (k9 : Int)) n.toNat))) from by rw [← e33, hx33]; rfl] at i33
            exact g_to [0, 2, 1, 4, 5] (i33) rfl rfl rfl
          · skip
            refine g_goto C dX11_advise_78 87 (by decide) ?_
            refine g_iinc (lv' := [(4, .int (iI ((k9 : Int) + 1))), (5, .int (iI (wwV (wwX x.1 S x.2.1 ((10) + (k9 : Int)) n.toNat)))), (3, .int (iI x.2.2.1)), (2, .int (iI x.2.2.2)), (0, .ref (am 0)), (1, .int (iI n))]) C dX11_advise_87 rfl 1 rfl (by decide) rfl ?_
            refine g_goto C dX11_advise_90 33 (by decide) ?_
            have e33 : (adB S n.toNat) k9 x = ((wwX x.1 S x.2.1 ((10) + (k9 : Int)) n.toNat).1, (wwX x.1 S x.2.1 ((10) + (k9 : Int)) n.toNat).2, x.2.2.1, x.2.2.2) := by
              unfold adB
              first | (rw [if_pos (by omega)] <;> rfl) | (rw [if_neg (by omega), if_pos (by omega)] <;> rfl) | (rw [if_neg (by omega), if_neg (by omega)] <;> rfl)
            have i33 := ih33 (by omega)
            rw [show adI (setI M 0 0) S H n.toNat (k9 + 1) = ((wwX x.1 S x.2.1 ((10) + (k9 : Int)) n.toNat).1, (wwX x.1 S x.2.1 ((10) + (k9 : Int)) n.toNat).2, x.2.2.1, x.2.2.2) from by rw [← e33, hx33]; rfl] at i33
            exact g_to [0, 2, 3, 4, 5] (i33) rfl rfl rfl
        · skip
          refine g_goto C dX11_advise_57 87 (by decide) ?_
          refine g_iinc (lv' := [(4, .int (iI ((k9 : Int) + 1))), (3, .int (iI x.2.2.1)), (2, .int (iI x.2.2.2)), (0, .ref (am 0)), (1, .int (iI n))]) C dX11_advise_87 rfl 0 rfl (by decide) rfl ?_
          refine g_goto C dX11_advise_90 33 (by decide) ?_
          have e33 : (adB S n.toNat) k9 x = (x.1, x.2.1, x.2.2.1, x.2.2.2) := by
            unfold adB
            first | (rw [if_pos (by omega)] <;> rfl) | (rw [if_neg (by omega), if_pos (by omega)] <;> rfl) | (rw [if_neg (by omega), if_neg (by omega)] <;> rfl)
          have i33 := ih33 (by omega)
          rw [show adI (setI M 0 0) S H n.toNat (k9 + 1) = (x.1, x.2.1, x.2.2.1, x.2.2.2) from by rw [← e33, hx33]; rfl] at i33
          exact g_to [0, 1, 2, 3, 4] (i33) rfl rfl rfl
    refine g_to [0, 1, 2, 3, 4] (L33 0 (by omega)) rfl rfl rfl
  · skip
    refine g_aload_n C dX11_advise_15 rfl 0 rfl ?_
    refine g_iconst C dX11_advise_16 rfl ?_
    refine g_callVf (As := [.int (iI (1))]) (rv := some (.int (iI (0)))) (w1 := wM E am (ad 0) (bd 0) (setI M 0 (1))) (kc' := 0) (ks' := 0) C (wS E ad S ++ (wS E bd H)) (k_X11_no l E am (ad 0) (bd 0) (setI M 0 (0)) (1)) mX11_no iX11_no wd988 0 10 rfl rfl rfl rfl rfl (Nat.le_of_ble_eq_true rfl) ⟨Nat.le_of_ble_eq_true rfl, Nat.le_of_ble_eq_true rfl⟩ ⟨Nat.le_of_ble_eq_true rfl, Nat.le_of_ble_eq_true rfl⟩ rfl rfl rfl dX11_advise_17 rfl ?_
    exact z_iret C Z rfl dX11_advise_20 (by rw [show tAD n = (1 : Int) from by unfold tAD; repeat (first | (rw [if_pos (by omega)]) | (rw [if_neg (by omega)]) | (rw [if_pos trivial]))] <;> rfl) (by rw [show tAD n = (1 : Int) from by unfold tAD; repeat (first | (rw [if_pos (by omega)]) | (rw [if_neg (by omega)]) | (rw [if_pos trivial]))] <;> rfl)
abbrev r_X11_share : Room := { frames := 1, cells := 0, slots := 0, locals := 24 }
set_option maxHeartbeats 4000000 in
set_option maxRecDepth 100000 in
theorem k_X11_share (l : Launch) (E : gE) (am : Nat → Nat) (sa : Nat) (M : gS) (ad : Nat → Nat) (S : gS) (hM : okM M) (hS : okS S) : gK l E yX11_share cX11_share 2 (some .double) r_X11_share [.ref (am 0)] (wM E am (ad 0) sa M ++ (wS E ad S)) (some (.double (shr (ppI S 2 (M.2 4).toNat) (ppI S 0 (M.2 4).toNat + ppI S 1 (M.2 4).toNat + ppI S 2 (M.2 4).toNat)))) (wM E am (ad 0) sa (setI M 0 0) ++ (wS E ad S)) := by
  refine gK_by RX11 rfl mX11_share [(0, .ref (am 0))] (Nat.le_of_ble_eq_true rfl) rfl ?_
  intro zp ze zs zm za zb zh zc zA zQ C Z
  refine g_aload_n C dX11_share_0 rfl 0 rfl ?_
  refine g_iconst C dX11_share_1 rfl ?_
  refine g_put (T := TX11) (N := 13) (ci := 10) (ws' := wM E am (ad 0) sa (setI M 0 (0)) ++ (wS E ad S)) C in_X11 tyX11 tyX11_ok nmX11 0 rfl rfl 0 (by decide) wd934 (Or.inl rfl) rfl (ty := .int) (by decide +kernel) rfl rfl (Nat.le_of_ble_eq_true rfl) rfl dX11_share_2 rfl ?_
  refine g_aload_n C dX11_share_5 rfl 0 rfl ?_
  refine g_aload_n C dX11_share_6 rfl 0 rfl ?_
  refine g_get (v := .ref (ad 0)) (T := TX11) (N := 13) (ci := 10) C in_X11 0 rfl rfl 11 (by decide) wd945 (Or.inl rfl) rfl dX11_share_7 rfl ?_
  refine g_iconst C dX11_share_10 rfl ?_
  have em0 : (setI M 0 0).2 4 = M.2 4 := rfl
  refine g_callV0 (As := [.ref (ad 0), .int (iI (0))]) (rv := some (.int (iI (ppI S (0) ((M.2 4)).toNat)))) (w1 := wM E am (ad 0) sa (setI M 0 (0)) ++ (wS E ad S)) (kc' := 0) (ks' := 0) C (k_X11_people l E am (ad 0) sa (setI M 0 (0)) ad S (0) (okM_j0 (S := M) hM) hS (by omega)) mX11_people iX11_people wd1133 0 10 rfl rfl rfl rfl rfl (Nat.le_of_ble_eq_true rfl) ⟨Nat.le_of_ble_eq_true rfl, Nat.le_of_ble_eq_true rfl⟩ ⟨Nat.le_of_ble_eq_true rfl, Nat.le_of_ble_eq_true rfl⟩ rfl rfl dX11_share_11 rfl ?_
  have n11 := ppI_b (M := (setI M 0 (0))) (r := (0)) hS (okM_j0 (S := M) hM)
  refine g_aload_n C dX11_share_14 rfl 0 rfl ?_
  refine g_aload_n C dX11_share_15 rfl 0 rfl ?_
  refine g_get (v := .ref (ad 0)) (T := TX11) (N := 13) (ci := 10) C in_X11 0 rfl rfl 11 (by decide) wd945 (Or.inl rfl) rfl dX11_share_16 rfl ?_
  refine g_iconst C dX11_share_19 rfl ?_
  refine g_callV0 (As := [.ref (ad 0), .int (iI (1))]) (rv := some (.int (iI (ppI S (1) ((M.2 4)).toNat)))) (w1 := wM E am (ad 0) sa (setI M 0 (0)) ++ (wS E ad S)) (kc' := 0) (ks' := 0) C (k_X11_people l E am (ad 0) sa (setI M 0 (0)) ad S (1) (okM_j0 (S := M) hM) hS (by omega)) mX11_people iX11_people wd1133 0 10 rfl rfl rfl rfl rfl (Nat.le_of_ble_eq_true rfl) ⟨Nat.le_of_ble_eq_true rfl, Nat.le_of_ble_eq_true rfl⟩ ⟨Nat.le_of_ble_eq_true rfl, Nat.le_of_ble_eq_true rfl⟩ rfl rfl dX11_share_20 rfl ?_
  have n20 := ppI_b (M := (setI M 0 (0))) (r := (1)) hS (okM_j0 (S := M) hM)
  refine g_iadd C dX11_share_23 rfl ?_
  refine g_aload_n C dX11_share_24 rfl 0 rfl ?_
  refine g_aload_n C dX11_share_25 rfl 0 rfl ?_
  refine g_get (v := .ref (ad 0)) (T := TX11) (N := 13) (ci := 10) C in_X11 0 rfl rfl 11 (by decide) wd945 (Or.inl rfl) rfl dX11_share_26 rfl ?_
  refine g_iconst C dX11_share_29 rfl ?_
  refine g_callV0 (As := [.ref (ad 0), .int (iI (2))]) (rv := some (.int (iI (ppI S (2) ((M.2 4)).toNat)))) (w1 := wM E am (ad 0) sa (setI M 0 (0)) ++ (wS E ad S)) (kc' := 0) (ks' := 0) C (k_X11_people l E am (ad 0) sa (setI M 0 (0)) ad S (2) (okM_j0 (S := M) hM) hS (by omega)) mX11_people iX11_people wd1133 0 10 rfl rfl rfl rfl rfl (Nat.le_of_ble_eq_true rfl) ⟨Nat.le_of_ble_eq_true rfl, Nat.le_of_ble_eq_true rfl⟩ ⟨Nat.le_of_ble_eq_true rfl, Nat.le_of_ble_eq_true rfl⟩ rfl rfl dX11_share_30 rfl ?_
  have n30 := ppI_b (M := (setI M 0 (0))) (r := (2)) hS (okM_j0 (S := M) hM)
  refine g_iadd C dX11_share_33 rfl ?_
  refine g_istore_n (lv' := [(1, .int (iI (((ppI S (0) ((M.2 4)).toNat) + (ppI S (1) ((M.2 4)).toNat)) + (ppI S (2) ((M.2 4)).toNat)))), (0, .ref (am 0))]) C dX11_share_34 rfl (by decide) rfl ?_
  have p0 := ppI_b (r := 0) hS hM
  have p1 := ppI_b (r := 1) hS hM
  have p2 := ppI_b (r := 2) hS hM
  refine g_iload_n C dX11_share_35 rfl 0 rfl ?_
  refine g_if_ne C dX11_share_36 43 (by decide) rfl (by omega) (fun c36 => ?_) (fun c36 => ?_)
  · skip
    refine g_aload_n C dX11_share_43 rfl 1 rfl ?_
    refine g_aload_n C dX11_share_44 rfl 1 rfl ?_
    refine g_get (v := .ref (ad 0)) (T := TX11) (N := 13) (ci := 10) C in_X11 0 rfl rfl 11 (by decide) wd945 (Or.inl rfl) rfl dX11_share_45 rfl ?_
    refine g_iconst C dX11_share_48 rfl ?_
    refine g_callV0 (As := [.ref (ad 0), .int (iI (2))]) (rv := some (.int (iI (ppI S (2) ((M.2 4)).toNat)))) (w1 := wM E am (ad 0) sa (setI M 0 (0)) ++ (wS E ad S)) (kc' := 0) (ks' := 0) C (k_X11_people l E am (ad 0) sa (setI M 0 (0)) ad S (2) (okM_j0 (S := M) hM) hS (by omega)) mX11_people iX11_people wd1133 0 10 rfl rfl rfl rfl rfl (Nat.le_of_ble_eq_true rfl) ⟨Nat.le_of_ble_eq_true rfl, Nat.le_of_ble_eq_true rfl⟩ ⟨Nat.le_of_ble_eq_true rfl, Nat.le_of_ble_eq_true rfl⟩ rfl rfl dX11_share_49 rfl ?_
    have n49 := ppI_b (M := (setI M 0 (0))) (r := (2)) hS (okM_j0 (S := M) hM)
    refine g_i2d C dX11_share_52 rfl ?_
    refine g_iload_n C dX11_share_53 rfl 0 rfl ?_
    refine g_i2d C dX11_share_54 rfl ?_
    refine g_ddiv C dX11_share_55 rfl (shr_n (by omega) (by omega)) ?_
    exact z_dret C Z dX11_share_56 (by unfold shr; first | (rw [if_pos (by omega)] <;> rfl) | (rw [if_neg (by omega)] <;> rfl)) rfl
  · skip
    refine g_dconst0 C dX11_share_39 rfl ?_
    refine g_goto C dX11_share_40 56 (by decide) ?_
    exact z_dret C Z dX11_share_56 (by unfold shr; first | (rw [if_pos (by omega)] <;> rfl) | (rw [if_neg (by omega)] <;> rfl)) rfl
