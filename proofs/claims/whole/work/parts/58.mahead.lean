abbrev r_X11_pass : Room := { frames := 9, cells := 0, slots := 0, locals := 212 }
set_option maxHeartbeats 4000000 in
set_option maxRecDepth 100000 in
theorem k_X11_pass (l : Launch) (E : gE) (am : Nat → Nat) (sa : Nat) (M : gS) (ad : Nat → Nat) (S : gS) (n : Int) (hM : okM M) (hS : okS S) (hP : okP S (M.2 4)) (hh : 0 ≤ S.2 0 ∧ S.2 0 ≤ 2147483000) (hn : (-2147483648 ≤ n ∧ n ≤ 2147483647)) : gK l E yX11_pass cX11_pass 3 (some .int) r_X11_pass [.ref (am 0), .int (iI n)] (wM E am (ad 0) sa M ++ (wS E ad S)) (some (.int (iI (if tPS n = 0 then (mhsI (setI M 0 0) S n.toNat).2.2 1 - S.2 1 else 0)))) (wM E am (ad 0) sa (if tPS n = 0 then (mhsI (setI M 0 0) S n.toNat).1 else setI M 0 (tPS n)) ++ (wS E ad (if tPS n = 0 then (mhsI (setI M 0 0) S n.toNat).2 else S))) := by
  refine gK_by RX11 rfl mX11_pass [(0, .ref (am 0)), (1, .int (iI n))] (Nat.le_of_ble_eq_true rfl) rfl ?_
  intro zp ze zs zm za zb zh zc zA zQ C Z
  refine g_aload_n C dX11_pass_0 rfl 0 rfl ?_
  refine g_iconst C dX11_pass_1 rfl ?_
  refine g_put (T := TX11) (N := 13) (ci := 10) (ws' := wM E am (ad 0) sa (setI M 0 (0)) ++ (wS E ad S)) C in_X11 tyX11 tyX11_ok nmX11 0 rfl rfl 0 (by decide) wd934 (Or.inl rfl) rfl (ty := .int) (by decide +kernel) rfl rfl (Nat.le_of_ble_eq_true rfl) rfl dX11_pass_2 rfl ?_
  refine g_iload_n C dX11_pass_5 rfl 1 rfl ?_
  refine g_iconst C dX11_pass_6 rfl ?_
  refine g_bipush C dX11_pass_7 rfl rfl ?_
  refine g_callS1 (As := [.int (iI n), .int (iI (1)), .int (iI (36))]) (rv := some (.int (iI (bI ((1) ≤ n ∧ n ≤ (36)))))) (kc' := 0) (ks' := 0) C (k_X11_isIn l E n (1) (36) (by omega) (by omega) (by omega)) mX11_isIn wd986 wd985 rfl rfl (Nat.le_of_ble_eq_true rfl) ⟨Nat.le_of_ble_eq_true rfl, Nat.le_of_ble_eq_true rfl⟩ ⟨Nat.le_of_ble_eq_true rfl, Nat.le_of_ble_eq_true rfl⟩ rfl rfl dX11_pass_9 rfl ?_
  have n9 := bI_w ((1) ≤ n ∧ n ≤ (36))
  refine g_if_ne C dX11_pass_12 21 (by decide) rfl (by omega) (fun c12 => ?_) (fun c12 => ?_)
  · skip
    refine g_aload_n C dX11_pass_21 rfl 0 rfl ?_
    refine g_get (v := .ref (ad 0)) (T := TX11) (N := 13) (ci := 10) C in_X11 0 rfl rfl 11 (by decide) wd945 (Or.inl rfl) rfl dX11_pass_22 rfl ?_
    refine g_getN (v := .int (iI (S.2 1))) (T := TX10) (N := 10) (ci := 9) C rfl in_X10 6 rfl rfl 1 (by decide) (by decide +kernel) rfl rfl dX11_pass_25 rfl ?_
    refine g_istore_n (lv' := [(2, .int (iI (S.2 1))), (0, .ref (am 0)), (1, .int (iI n))]) C dX11_pass_28 rfl (by decide) rfl ?_
    refine g_aload_n C dX11_pass_29 rfl 1 rfl ?_
    refine g_aload_n C dX11_pass_30 rfl 1 rfl ?_
    refine g_get (v := .ref (ad 0)) (T := TX11) (N := 13) (ci := 10) C in_X11 0 rfl rfl 11 (by decide) wd945 (Or.inl rfl) rfl dX11_pass_31 rfl ?_
    refine g_iload_n C dX11_pass_34 rfl 2 rfl ?_
    have kb35 := mhsI_b (M := (setI M 0 (0))) (S := S) (okM_j0 (S := M) hM) hS hP n.toNat
    refine g_callV0 (As := [.ref (ad 0), .int (iI n)]) (rv := none) (w1 := wM E am (ad 0) sa (mhsI (setI M 0 (0)) S n.toNat).1 ++ (wS E ad (mhsI (setI M 0 (0)) S n.toNat).2)) (kc' := 0) (ks' := 0) C (k_X11_hours l E am (ad 0) sa (setI M 0 (0)) ad S n (M.2 4) (okM_j0 (S := M) hM) hS (by first | rfl | omega) hP (by first | omega | (rw [ww_0]; omega))) mX11_hours iX11_hours wd1149 0 10 rfl rfl rfl rfl rfl (Nat.le_of_ble_eq_true rfl) ⟨Nat.le_of_ble_eq_true rfl, Nat.le_of_ble_eq_true rfl⟩ ⟨Nat.le_of_ble_eq_true rfl, Nat.le_of_ble_eq_true rfl⟩ rfl rfl dX11_pass_35 rfl ?_
    have n35 : (mhsI (setI M 0 (0)) S n.toNat).1.2 4 = M.2 4 := congrFun kb35.2.2.2.1 4
    have m35 : (mhsI (setI M 0 (0)) S n.toNat).1.2 1 = M.2 1 := congrFun kb35.2.2.2.1 1
    refine g_aload_n C dX11_pass_38 rfl 1 rfl ?_
    refine g_get (v := .ref (ad 0)) (T := TX11) (N := 13) (ci := 10) C in_X11 0 rfl rfl 11 (by decide) wd945 (Or.inl rfl) rfl dX11_pass_39 rfl ?_
    refine g_getN (v := .int (iI ((mhsI (setI M 0 (0)) S n.toNat).2.2 1))) (T := TX10) (N := 10) (ci := 9) C rfl in_X10 6 rfl rfl 1 (by decide) (by decide +kernel) rfl rfl dX11_pass_42 rfl ?_
    refine g_iload_n C dX11_pass_45 rfl 0 rfl ?_
    refine g_isub C dX11_pass_46 rfl ?_
    exact z_iret C Z rfl dX11_pass_47 (by rw [show tPS n = (0 : Int) from by unfold tPS; repeat (first | (rw [if_pos (by omega)]) | (rw [if_neg (by omega)]) | (rw [if_pos trivial]))] <;> rfl) (by rw [show tPS n = (0 : Int) from by unfold tPS; repeat (first | (rw [if_pos (by omega)]) | (rw [if_neg (by omega)]) | (rw [if_pos trivial]))] <;> rfl)
  · skip
    refine g_aload_n C dX11_pass_15 rfl 0 rfl ?_
    refine g_iconst C dX11_pass_16 rfl ?_
    refine g_callVf (As := [.int (iI (1))]) (rv := some (.int (iI (0)))) (w1 := wM E am (ad 0) sa (setI M 0 (1))) (kc' := 0) (ks' := 0) C (wS E ad S) (k_X11_no l E am (ad 0) sa (setI M 0 (0)) (1)) mX11_no iX11_no wd988 0 10 rfl rfl rfl rfl rfl (Nat.le_of_ble_eq_true rfl) ⟨Nat.le_of_ble_eq_true rfl, Nat.le_of_ble_eq_true rfl⟩ ⟨Nat.le_of_ble_eq_true rfl, Nat.le_of_ble_eq_true rfl⟩ rfl rfl rfl dX11_pass_17 rfl ?_
    exact z_iret C Z rfl dX11_pass_20 (by rw [show tPS n = (1 : Int) from by unfold tPS; repeat (first | (rw [if_pos (by omega)]) | (rw [if_neg (by omega)]) | (rw [if_pos trivial]))] <;> rfl) (by rw [show tPS n = (1 : Int) from by unfold tPS; repeat (first | (rw [if_pos (by omega)]) | (rw [if_neg (by omega)]) | (rw [if_pos trivial]))] <;> rfl)
abbrev r_X11_foresee : Room := { frames := 9, cells := 0, slots := 0, locals := 212 }
set_option maxHeartbeats 4000000 in
set_option maxRecDepth 100000 in
theorem k_X11_foresee (l : Launch) (E : gE) (am : Nat → Nat) (M : gS) (ad : Nat → Nat) (S : gS) (bd : Nat → Nat) (H : gS) (n what : Int) (hM : okM M) (hS : okS S) (hH : okS H) (hP : okP S (M.2 4)) (hh : 0 ≤ S.2 0 ∧ S.2 0 ≤ 2147483000) (hn : (-2147483648 ≤ n ∧ n ≤ 2147483647)) (hw : (-2147483648 ≤ what ∧ what ≤ 2147483647)) : gK l E yX11_foresee cX11_foresee 3 (some .int) r_X11_foresee [.ref (am 0), .int (iI n), .int (iI what)] (wM E am (ad 0) (bd 0) M ++ (wS E ad S ++ (wS E bd H))) (some (.int (iI (if tFS n what = 0 then foreV M S (mhsI (setI M 0 0) (becS S H) n.toNat).2 (mhsI (setI M 0 0) (becS S H) n.toNat).1 what else 0)))) (wM E am (ad 0) (bd 0) (if tFS n what = 0 then (mhsI (setI M 0 0) (becS S H) n.toNat).1 else setI M 0 (tFS n what)) ++ (wS E ad S ++ (wS E bd (if tFS n what = 0 then (mhsI (setI M 0 0) (becS S H) n.toNat).2 else H)))) := by
  refine gK_by RX11 rfl mX11_foresee [(0, .ref (am 0)), (1, .int (iI n)), (2, .int (iI what))] (Nat.le_of_ble_eq_true rfl) rfl ?_
  intro zp ze zs zm za zb zh zc zA zQ C Z
  refine g_aload_n C dX11_foresee_0 rfl 0 rfl ?_
  refine g_iconst C dX11_foresee_1 rfl ?_
  refine g_put (T := TX11) (N := 13) (ci := 10) (ws' := wM E am (ad 0) (bd 0) (setI M 0 (0)) ++ (wS E ad S ++ (wS E bd H))) C in_X11 tyX11 tyX11_ok nmX11 0 rfl rfl 0 (by decide) wd934 (Or.inl rfl) rfl (ty := .int) (by decide +kernel) rfl rfl (Nat.le_of_ble_eq_true rfl) rfl dX11_foresee_2 rfl ?_
  refine g_iload_n C dX11_foresee_5 rfl 1 rfl ?_
  refine g_iconst C dX11_foresee_6 rfl ?_
  refine g_bipush C dX11_foresee_7 rfl rfl ?_
  refine g_callS1 (As := [.int (iI n), .int (iI (1)), .int (iI (36))]) (rv := some (.int (iI (bI ((1) ≤ n ∧ n ≤ (36)))))) (kc' := 0) (ks' := 0) C (k_X11_isIn l E n (1) (36) (by omega) (by omega) (by omega)) mX11_isIn wd986 wd985 rfl rfl (Nat.le_of_ble_eq_true rfl) ⟨Nat.le_of_ble_eq_true rfl, Nat.le_of_ble_eq_true rfl⟩ ⟨Nat.le_of_ble_eq_true rfl, Nat.le_of_ble_eq_true rfl⟩ rfl rfl dX11_foresee_9 rfl ?_
  have n9 := bI_w ((1) ≤ n ∧ n ≤ (36))
  refine g_if_ne C dX11_foresee_12 21 (by decide) rfl (by omega) (fun c12 => ?_) (fun c12 => ?_)
  · skip
    refine g_iload_n C dX11_foresee_21 rfl 2 rfl ?_
    refine g_iconst C dX11_foresee_22 rfl ?_
    refine g_iconst C dX11_foresee_23 rfl ?_
    refine g_callS1 (As := [.int (iI what), .int (iI (0)), .int (iI (3))]) (rv := some (.int (iI (bI ((0) ≤ what ∧ what ≤ (3)))))) (kc' := 0) (ks' := 0) C (k_X11_isIn l E what (0) (3) (by omega) (by omega) (by omega)) mX11_isIn wd986 wd985 rfl rfl (Nat.le_of_ble_eq_true rfl) ⟨Nat.le_of_ble_eq_true rfl, Nat.le_of_ble_eq_true rfl⟩ ⟨Nat.le_of_ble_eq_true rfl, Nat.le_of_ble_eq_true rfl⟩ rfl rfl dX11_foresee_24 rfl ?_
    have n24 := bI_w ((0) ≤ what ∧ what ≤ (3))
    refine g_if_ne C dX11_foresee_27 36 (by decide) rfl (by omega) (fun c27 => ?_) (fun c27 => ?_)
    · skip
      refine g_aload_n C dX11_foresee_36 rfl 0 rfl ?_
      refine g_get (v := .ref (bd 0)) (T := TX11) (N := 13) (ci := 10) C in_X11 0 rfl rfl 12 (by decide) wd946 (Or.inl rfl) rfl dX11_foresee_37 rfl ?_
      refine g_aload_n C dX11_foresee_40 rfl 0 rfl ?_
      refine g_get (v := .ref (ad 0)) (T := TX11) (N := 13) (ci := 10) C in_X11 0 rfl rfl 11 (by decide) wd945 (Or.inl rfl) rfl dX11_foresee_41 rfl ?_
      refine g_perm (ws1 := wS E bd H ++ (wS E ad S ++ (wM E am (ad 0) (bd 0) (setI M 0 (0))))) pm_210 ?_
      refine g_callVf (As := [.ref (ad 0)]) (rv := none) (w1 := wS E bd (becS S H) ++ (wS E ad S)) (kc' := 0) (ks' := 0) C (wM E am (ad 0) (bd 0) (setI M 0 (0))) (k_X10_become l E bd H ad S) mX10_become iX10_become wd1190 0 9 rfl rfl rfl rfl rfl (Nat.le_of_ble_eq_true rfl) ⟨Nat.le_of_ble_eq_true rfl, Nat.le_of_ble_eq_true rfl⟩ ⟨Nat.le_of_ble_eq_true rfl, Nat.le_of_ble_eq_true rfl⟩ rfl rfl (by simp only [List.append_assoc]) dX11_foresee_44 rfl ?_
      refine g_perm (ws1 := wM E am (ad 0) (bd 0) (setI M 0 (0)) ++ (wS E ad S ++ (wS E bd (becS S H)))) pm_210 ?_
      have qh47 : (becS S H).2 0 = S.2 0 := rfl
      refine g_aload_n C dX11_foresee_47 rfl 0 rfl ?_
      refine g_aload_n C dX11_foresee_48 rfl 0 rfl ?_
      refine g_get (v := .ref (bd 0)) (T := TX11) (N := 13) (ci := 10) C in_X11 0 rfl rfl 12 (by decide) wd946 (Or.inl rfl) rfl dX11_foresee_49 rfl ?_
      refine g_iload_n C dX11_foresee_52 rfl 1 rfl ?_
      have kb53 := mhsI_b (M := (setI M 0 (0))) (S := (becS S H)) (okM_j0 (S := M) hM) (okS_bec hS hH) (okP_bec (H := H) (okM_i4 hM).2 hP) n.toNat
      refine g_perm (ws1 := wM E am (ad 0) (bd 0) (setI M 0 (0)) ++ (wS E bd (becS S H) ++ (wS E ad S))) pm_021 ?_
      refine g_callVf (As := [.ref (bd 0), .int (iI n)]) (rv := none) (w1 := wM E am (ad 0) (bd 0) (mhsI (setI M 0 (0)) (becS S H) n.toNat).1 ++ (wS E bd (mhsI (setI M 0 (0)) (becS S H) n.toNat).2)) (kc' := 0) (ks' := 0) C (wS E ad S) (k_X11_hours l E am (ad 0) (bd 0) (setI M 0 (0)) bd (becS S H) n (M.2 4) (okM_j0 (S := M) hM) (okS_bec hS hH) (by first | rfl | omega) (okP_bec (H := H) (okM_i4 hM).2 hP) (by first | omega | (rw [ww_0]; omega))) mX11_hours iX11_hours wd1149 0 10 rfl rfl rfl rfl rfl (Nat.le_of_ble_eq_true rfl) ⟨Nat.le_of_ble_eq_true rfl, Nat.le_of_ble_eq_true rfl⟩ ⟨Nat.le_of_ble_eq_true rfl, Nat.le_of_ble_eq_true rfl⟩ rfl rfl (by simp only [List.append_assoc]) dX11_foresee_53 rfl ?_
      refine g_perm (ws1 := wM E am (ad 0) (bd 0) (mhsI (setI M 0 (0)) (becS S H) n.toNat).1 ++ (wS E ad S ++ (wS E bd (mhsI (setI M 0 (0)) (becS S H) n.toNat).2))) pm_021 ?_
      have n53 : (mhsI (setI M 0 (0)) (becS S H) n.toNat).1.2 4 = M.2 4 := congrFun kb53.2.2.2.1 4
      have m53 : (mhsI (setI M 0 (0)) (becS S H) n.toNat).1.2 1 = M.2 1 := congrFun kb53.2.2.2.1 1
      refine g_iload_n C dX11_foresee_56 rfl 2 rfl ?_
      refine g_if_ne C dX11_foresee_57 72 (by decide) rfl (by omega) (fun c57 => ?_) (fun c57 => ?_)
      · skip
        refine g_iload_n C dX11_foresee_72 rfl 2 rfl ?_
        refine g_iconst C dX11_foresee_73 rfl ?_
        refine g_icmp_ne C dX11_foresee_74 95 (by decide) rfl (by omega) (by omega) (fun c74 => ?_) (fun c74 => ?_)
        · skip
          refine g_iload_n C dX11_foresee_95 rfl 2 rfl ?_
          refine g_iconst C dX11_foresee_96 rfl ?_
          refine g_icmp_ne C dX11_foresee_97 111 (by decide) rfl (by omega) (by omega) (fun c97 => ?_) (fun c97 => ?_)
          · skip
            refine g_aload_n C dX11_foresee_111 rfl 0 rfl ?_
            refine g_aload_n C dX11_foresee_112 rfl 0 rfl ?_
            refine g_get (v := .ref (bd 0)) (T := TX11) (N := 13) (ci := 10) C in_X11 0 rfl rfl 12 (by decide) wd946 (Or.inl rfl) rfl dX11_foresee_113 rfl ?_
            refine g_perm (ws1 := wM E am (ad 0) (bd 0) (mhsI (setI M 0 (0)) (becS S H) n.toNat).1 ++ (wS E bd (mhsI (setI M 0 (0)) (becS S H) n.toNat).2 ++ (wS E ad S))) pm_021 ?_
            refine g_callVf (As := [.ref (bd 0)]) (rv := some (.int (iI (fueI ((mhsI (setI M 0 (0)) (becS S H) n.toNat).2) (((mhsI (setI M 0 (0)) (becS S H) n.toNat).1.2 1)).toNat)))) (w1 := wM E am (ad 0) (bd 0) (mhsI (setI M 0 (0)) (becS S H) n.toNat).1 ++ (wS E bd (mhsI (setI M 0 (0)) (becS S H) n.toNat).2)) (kc' := 0) (ks' := 0) C (wS E ad S) (k_X11_fuel l E am (ad 0) (bd 0) ((mhsI (setI M 0 (0)) (becS S H) n.toNat).1) bd ((mhsI (setI M 0 (0)) (becS S H) n.toNat).2) kb53.1 kb53.2.1) mX11_fuel iX11_fuel wd1198 0 10 rfl rfl rfl rfl rfl (Nat.le_of_ble_eq_true rfl) ⟨Nat.le_of_ble_eq_true rfl, Nat.le_of_ble_eq_true rfl⟩ ⟨Nat.le_of_ble_eq_true rfl, Nat.le_of_ble_eq_true rfl⟩ rfl rfl (by simp only [List.append_assoc]) dX11_foresee_116 rfl ?_
            refine g_perm (ws1 := wM E am (ad 0) (bd 0) (mhsI (setI M 0 (0)) (becS S H) n.toNat).1 ++ (wS E ad S ++ (wS E bd (mhsI (setI M 0 (0)) (becS S H) n.toNat).2))) pm_021 ?_
            exact z_iret C Z rfl dX11_foresee_119 (by rw [show tFS n what = (0 : Int) from by unfold tFS; repeat (first | (rw [if_pos (by omega)]) | (rw [if_neg (by omega)]) | (rw [if_pos trivial]))] <;> first | rfl | (rw [if_pos rfl]; unfold foreV; repeat (first | (rw [if_pos (by omega)]) | (rw [if_neg (by omega)]) | (rw [if_pos trivial])))) (by rw [show tFS n what = (0 : Int) from by unfold tFS; repeat (first | (rw [if_pos (by omega)]) | (rw [if_neg (by omega)]) | (rw [if_pos trivial]))] <;> rfl)
          · skip
            refine g_aload_n C dX11_foresee_100 rfl 0 rfl ?_
            refine g_get (v := .ref (bd 0)) (T := TX11) (N := 13) (ci := 10) C in_X11 0 rfl rfl 12 (by decide) wd946 (Or.inl rfl) rfl dX11_foresee_101 rfl ?_
            refine g_iconst C dX11_foresee_104 rfl ?_
            refine g_perm (ws1 := wS E bd (mhsI (setI M 0 (0)) (becS S H) n.toNat).2 ++ (wM E am (ad 0) (bd 0) (mhsI (setI M 0 (0)) (becS S H) n.toNat).1 ++ (wS E ad S))) pm_201 ?_
            refine g_callSf (As := [.ref (bd 0), .int (iI (0))]) (rv := some (.int (iI (mwt ((mhsI (setI M 0 (0)) (becS S H) n.toNat).2.1 3))))) (w1 := wS E bd (mhsI (setI M 0 (0)) (becS S H) n.toNat).2) (kc' := 0) (ks' := 0) C (wM E am (ad 0) (bd 0) (mhsI (setI M 0 (0)) (becS S H) n.toNat).1 ++ (wS E ad S)) (k_X11_wet_f l E bd ((mhsI (setI M 0 (0)) (becS S H) n.toNat).2) kb53.2.1) mX11_wet wd1138 wd1137 rfl rfl (Nat.le_of_ble_eq_true rfl) ⟨Nat.le_of_ble_eq_true rfl, Nat.le_of_ble_eq_true rfl⟩ ⟨Nat.le_of_ble_eq_true rfl, Nat.le_of_ble_eq_true rfl⟩ rfl rfl rfl dX11_foresee_105 rfl ?_
            refine g_perm (ws1 := wM E am (ad 0) (bd 0) (mhsI (setI M 0 (0)) (becS S H) n.toNat).1 ++ (wS E ad S ++ (wS E bd (mhsI (setI M 0 (0)) (becS S H) n.toNat).2))) pm_120 ?_
            refine g_goto C dX11_foresee_108 119 (by decide) ?_
            exact z_iret C Z rfl dX11_foresee_119 (by rw [show tFS n what = (0 : Int) from by unfold tFS; repeat (first | (rw [if_pos (by omega)]) | (rw [if_neg (by omega)]) | (rw [if_pos trivial]))] <;> first | rfl | (rw [if_pos rfl]; unfold foreV; repeat (first | (rw [if_pos (by omega)]) | (rw [if_neg (by omega)]) | (rw [if_pos trivial])))) (by rw [show tFS n what = (0 : Int) from by unfold tFS; repeat (first | (rw [if_pos (by omega)]) | (rw [if_neg (by omega)]) | (rw [if_pos trivial]))] <;> rfl)
        · skip
          refine g_aload_n C dX11_foresee_77 rfl 0 rfl ?_
          refine g_get (v := .ref (bd 0)) (T := TX11) (N := 13) (ci := 10) C in_X11 0 rfl rfl 12 (by decide) wd946 (Or.inl rfl) rfl dX11_foresee_78 rfl ?_
          refine g_getN (v := .int (iI ((mhsI (setI M 0 (0)) (becS S H) n.toNat).2.2 1))) (T := TX10) (N := 10) (ci := 9) C rfl in_X10 15 rfl rfl 1 (by decide) (by decide +kernel) rfl rfl dX11_foresee_81 rfl ?_
          refine g_aload_n C dX11_foresee_84 rfl 0 rfl ?_
          refine g_get (v := .ref (ad 0)) (T := TX11) (N := 13) (ci := 10) C in_X11 0 rfl rfl 11 (by decide) wd945 (Or.inl rfl) rfl dX11_foresee_85 rfl ?_
          refine g_getN (v := .int (iI (S.2 1))) (T := TX10) (N := 10) (ci := 9) C rfl in_X10 6 rfl rfl 1 (by decide) (by decide +kernel) rfl rfl dX11_foresee_88 rfl ?_
          refine g_isub C dX11_foresee_91 rfl ?_
          refine g_goto C dX11_foresee_92 119 (by decide) ?_
          exact z_iret C Z rfl dX11_foresee_119 (by rw [show tFS n what = (0 : Int) from by unfold tFS; repeat (first | (rw [if_pos (by omega)]) | (rw [if_neg (by omega)]) | (rw [if_pos trivial]))] <;> first | rfl | (rw [if_pos rfl]; unfold foreV; repeat (first | (rw [if_pos (by omega)]) | (rw [if_neg (by omega)]) | (rw [if_pos trivial])))) (by rw [show tFS n what = (0 : Int) from by unfold tFS; repeat (first | (rw [if_pos (by omega)]) | (rw [if_neg (by omega)]) | (rw [if_pos trivial]))] <;> rfl)
      · skip
        refine g_aload_n C dX11_foresee_60 rfl 0 rfl ?_
        refine g_aload_n C dX11_foresee_61 rfl 0 rfl ?_
        refine g_get (v := .ref (bd 0)) (T := TX11) (N := 13) (ci := 10) C in_X11 0 rfl rfl 12 (by decide) wd946 (Or.inl rfl) rfl dX11_foresee_62 rfl ?_
        refine g_iconst C dX11_foresee_65 rfl ?_
        refine g_perm (ws1 := wM E am (ad 0) (bd 0) (mhsI (setI M 0 (0)) (becS S H) n.toNat).1 ++ (wS E bd (mhsI (setI M 0 (0)) (becS S H) n.toNat).2 ++ (wS E ad S))) pm_021 ?_
        refine g_callVf (As := [.ref (bd 0), .int (iI (2))]) (rv := some (.int (iI (ppI ((mhsI (setI M 0 (0)) (becS S H) n.toNat).2) (2) (((mhsI (setI M 0 (0)) (becS S H) n.toNat).1.2 4)).toNat)))) (w1 := wM E am (ad 0) (bd 0) (mhsI (setI M 0 (0)) (becS S H) n.toNat).1 ++ (wS E bd (mhsI (setI M 0 (0)) (becS S H) n.toNat).2)) (kc' := 0) (ks' := 0) C (wS E ad S) (k_X11_people l E am (ad 0) (bd 0) ((mhsI (setI M 0 (0)) (becS S H) n.toNat).1) bd ((mhsI (setI M 0 (0)) (becS S H) n.toNat).2) (2) kb53.1 kb53.2.1 (by omega)) mX11_people iX11_people wd1133 0 10 rfl rfl rfl rfl rfl (Nat.le_of_ble_eq_true rfl) ⟨Nat.le_of_ble_eq_true rfl, Nat.le_of_ble_eq_true rfl⟩ ⟨Nat.le_of_ble_eq_true rfl, Nat.le_of_ble_eq_true rfl⟩ rfl rfl (by simp only [List.append_assoc]) dX11_foresee_66 rfl ?_
        refine g_perm (ws1 := wM E am (ad 0) (bd 0) (mhsI (setI M 0 (0)) (becS S H) n.toNat).1 ++ (wS E ad S ++ (wS E bd (mhsI (setI M 0 (0)) (becS S H) n.toNat).2))) pm_021 ?_
        have n66 := ppI_b (M := (mhsI (setI M 0 (0)) (becS S H) n.toNat).1) (r := (2)) kb53.2.1 kb53.1
        refine g_goto C dX11_foresee_69 119 (by decide) ?_
        exact z_iret C Z rfl dX11_foresee_119 (by rw [show tFS n what = (0 : Int) from by unfold tFS; repeat (first | (rw [if_pos (by omega)]) | (rw [if_neg (by omega)]) | (rw [if_pos trivial]))] <;> first | rfl | (rw [if_pos rfl]; unfold foreV; repeat (first | (rw [if_pos (by omega)]) | (rw [if_neg (by omega)]) | (rw [if_pos trivial])))) (by rw [show tFS n what = (0 : Int) from by unfold tFS; repeat (first | (rw [if_pos (by omega)]) | (rw [if_neg (by omega)]) | (rw [if_pos trivial]))] <;> rfl)
    · skip
      refine g_aload_n C dX11_foresee_30 rfl 0 rfl ?_
      refine g_iconst C dX11_foresee_31 rfl ?_
      refine g_callVf (As := [.int (iI (2))]) (rv := some (.int (iI (0)))) (w1 := wM E am (ad 0) (bd 0) (setI M 0 (2))) (kc' := 0) (ks' := 0) C (wS E ad S ++ (wS E bd H)) (k_X11_no l E am (ad 0) (bd 0) (setI M 0 (0)) (2)) mX11_no iX11_no wd988 0 10 rfl rfl rfl rfl rfl (Nat.le_of_ble_eq_true rfl) ⟨Nat.le_of_ble_eq_true rfl, Nat.le_of_ble_eq_true rfl⟩ ⟨Nat.le_of_ble_eq_true rfl, Nat.le_of_ble_eq_true rfl⟩ rfl rfl rfl dX11_foresee_32 rfl ?_
      exact z_iret C Z rfl dX11_foresee_35 (by rw [show tFS n what = (2 : Int) from by unfold tFS; repeat (first | (rw [if_pos (by omega)]) | (rw [if_neg (by omega)]) | (rw [if_pos trivial]))] <;> first | rfl | (rw [if_pos rfl]; unfold foreV; repeat (first | (rw [if_pos (by omega)]) | (rw [if_neg (by omega)]) | (rw [if_pos trivial])))) (by rw [show tFS n what = (2 : Int) from by unfold tFS; repeat (first | (rw [if_pos (by omega)]) | (rw [if_neg (by omega)]) | (rw [if_pos trivial]))] <;> rfl)
  · skip
    refine g_aload_n C dX11_foresee_15 rfl 0 rfl ?_
    refine g_iconst C dX11_foresee_16 rfl ?_
    refine g_callVf (As := [.int (iI (1))]) (rv := some (.int (iI (0)))) (w1 := wM E am (ad 0) (bd 0) (setI M 0 (1))) (kc' := 0) (ks' := 0) C (wS E ad S ++ (wS E bd H)) (k_X11_no l E am (ad 0) (bd 0) (setI M 0 (0)) (1)) mX11_no iX11_no wd988 0 10 rfl rfl rfl rfl rfl (Nat.le_of_ble_eq_true rfl) ⟨Nat.le_of_ble_eq_true rfl, Nat.le_of_ble_eq_true rfl⟩ ⟨Nat.le_of_ble_eq_true rfl, Nat.le_of_ble_eq_true rfl⟩ rfl rfl rfl dX11_foresee_17 rfl ?_
    exact z_iret C Z rfl dX11_foresee_20 (by rw [show tFS n what = (1 : Int) from by unfold tFS; repeat (first | (rw [if_pos (by omega)]) | (rw [if_neg (by omega)]) | (rw [if_pos trivial]))] <;> first | rfl | (rw [if_pos rfl]; unfold foreV; repeat (first | (rw [if_pos (by omega)]) | (rw [if_neg (by omega)]) | (rw [if_pos trivial])))) (by rw [show tFS n what = (1 : Int) from by unfold tFS; repeat (first | (rw [if_pos (by omega)]) | (rw [if_neg (by omega)]) | (rw [if_pos trivial]))] <;> rfl)
