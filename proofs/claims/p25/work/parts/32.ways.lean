abbrev r_X8_isNearer : Room := { frames := 0, cells := 0, slots := 0, locals := 0 }
set_option maxHeartbeats 4000000 in
set_option maxRecDepth 100000 in
theorem k_X8_isNearer (l : Launch) (E : gE) (ad : Nat → Nat) (S : gS) (p o : Int) (hS : okT S) (hp : 0 ≤ p ∧ p < 80) (ho : -1 ≤ o ∧ o < 80) : gK l E yX8_isNearer cX8_isNearer 3 (some .boolean) r_X8_isNearer [.ref (ad 28), .int (iI p), .int (iI o)] (wT E ad S) (some (.int (iI (bI (S.1 29 p ≠ -1 ∧ (o = -1 ∨ S.1 29 p < S.1 29 o)))))) (wT E ad S) := by
  refine gK_by RX8 rfl mX8_isNearer [(0, .ref (ad 28)), (1, .int (iI p)), (2, .int (iI o))] (Nat.le_of_ble_eq_true rfl) rfl ?_
  intro zp ze zs zm za zb zh zc zA zQ C Z
  refine g_aload_n C dX8_isNearer_0 rfl 0 rfl ?_
  refine g_get (v := .ref (ad 29)) (T := TX8) (N := 4) (ci := 7) C in_X8 28 rfl rfl 0 (by decide) wd197 (Or.inl rfl) rfl dX8_isNearer_1 rfl ?_
  refine g_iload_n C dX8_isNearer_4 rfl 1 rfl ?_
  refine g_iald (f := (S.1 29)) C dX8_isNearer_5 rfl 29 rfl (by omega) (by decide) ?_
  have b5 := okT_29 hS p
  refine g_iconst C dX8_isNearer_6 rfl ?_
  refine g_icmp_eq C dX8_isNearer_7 34 (by decide) rfl (by omega) (by omega) (fun c7 => ?_) (fun c7 => ?_)
  · skip
    refine g_iconst C dX8_isNearer_34 rfl ?_
    exact z_iret C Z (z_nar (by omega)) dX8_isNearer_35 (by exact congrArg (fun z => some (Value.int (iI z))) (by first | (rw [bI_t (by omega)]) | (rw [bI_f (by omega)]))) rfl
  · skip
    refine g_iload_n C dX8_isNearer_10 rfl 2 rfl ?_
    refine g_iconst C dX8_isNearer_11 rfl ?_
    refine g_icmp_eq C dX8_isNearer_12 30 (by decide) rfl (by omega) (by omega) (fun c12 => ?_) (fun c12 => ?_)
    · skip
      refine g_iconst C dX8_isNearer_30 rfl ?_
      refine g_goto C dX8_isNearer_31 35 (by decide) ?_
      exact z_iret C Z (z_nar (by omega)) dX8_isNearer_35 (by exact congrArg (fun z => some (Value.int (iI z))) (by first | (rw [bI_t (by omega)]) | (rw [bI_f (by omega)]))) rfl
    · skip
      refine g_aload_n C dX8_isNearer_15 rfl 0 rfl ?_
      refine g_get (v := .ref (ad 29)) (T := TX8) (N := 4) (ci := 7) C in_X8 28 rfl rfl 0 (by decide) wd197 (Or.inl rfl) rfl dX8_isNearer_16 rfl ?_
      refine g_iload_n C dX8_isNearer_19 rfl 1 rfl ?_
      refine g_iald (f := (S.1 29)) C dX8_isNearer_20 rfl 29 rfl (by omega) (by decide) ?_
      have b20 := okT_29 hS p
      refine g_aload_n C dX8_isNearer_21 rfl 0 rfl ?_
      refine g_get (v := .ref (ad 29)) (T := TX8) (N := 4) (ci := 7) C in_X8 28 rfl rfl 0 (by decide) wd197 (Or.inl rfl) rfl dX8_isNearer_22 rfl ?_
      refine g_iload_n C dX8_isNearer_25 rfl 2 rfl ?_
      refine g_iald (f := (S.1 29)) C dX8_isNearer_26 rfl 29 rfl (by omega) (by decide) ?_
      have b26 := okT_29 hS o
      refine g_icmp_ge C dX8_isNearer_27 34 (by decide) rfl (by omega) (by omega) (fun c27 => ?_) (fun c27 => ?_)
      · skip
        refine g_iconst C dX8_isNearer_34 rfl ?_
        exact z_iret C Z (z_nar (by omega)) dX8_isNearer_35 (by exact congrArg (fun z => some (Value.int (iI z))) (by first | (rw [bI_t (by omega)]) | (rw [bI_f (by omega)]))) rfl
      · skip
        refine g_iconst C dX8_isNearer_30 rfl ?_
        refine g_goto C dX8_isNearer_31 35 (by decide) ?_
        exact z_iret C Z (z_nar (by omega)) dX8_isNearer_35 (by exact congrArg (fun z => some (Value.int (iI z))) (by first | (rw [bI_t (by omega)]) | (rw [bI_f (by omega)]))) rfl
abbrev r_X8_goOnFrom : Room := { frames := 1, cells := 0, slots := 0, locals := 21 }
set_option maxHeartbeats 4000000 in
set_option maxRecDepth 100000 in
theorem k_X8_goOnFrom (l : Launch) (E : gE) (ad : Nat → Nat) (S : gS) (p : Int) (hi : Int) (hL : okL S) (hp : 0 ≤ p ∧ p < 80) (hW : okW hi (S.1 29, S.1 30, S.1 31, S.2 7)) (hh : hi + 4 ≤ 1000) : gK l E yX8_goOnFrom cX8_goOnFrom 5 none r_X8_goOnFrom [.ref (ad 28), .int (iI p), .ref (ad 1)] (wT E ad S) (none) (wT E ad (goS S p)) := by
  refine gK_by RX8 rfl mX8_goOnFrom [(0, .ref (ad 28)), (1, .int (iI p)), (2, .ref (ad 1))] (Nat.le_of_ble_eq_true rfl) rfl ?_
  intro zp ze zs zm za zb zh zc zA zQ C Z
  refine g_iconst C dX8_goOnFrom_0 rfl ?_
  refine g_istore_n (lv' := [(3, .int (iI (0))), (0, .ref (ad 28)), (1, .int (iI p)), (2, .ref (ad 1))]) C dX8_goOnFrom_1 rfl (by decide) rfl ?_
  have L2 : ∀ k9 : Nat, k9 ≤ 4 → gG E zp l ze r_X8_goOnFrom zs zm za zb zh zc zA 5 0 0 zQ (wT E ad (setI (setA (setA (setA S 29 ((goI (S.1 4) p (S.1 29, S.1 30, S.1 31, S.2 7) k9).1)) 30 ((goI (S.1 4) p (S.1 29, S.1 30, S.1 31, S.2 7) k9).2.1)) 31 ((goI (S.1 4) p (S.1 29, S.1 30, S.1 31, S.2 7) k9).2.2.1)) 7 ((goI (S.1 4) p (S.1 29, S.1 30, S.1 31, S.2 7) k9).2.2.2))) 2 [(3, .int (iI (k9 : Int))), (0, .ref (ad 28)), (1, .int (iI p)), (2, .ref (ad 1))] [] := by
    refine g_up (4) _ ?_
    intro k9 ih2 hk2
    have iv2_0 := goI_b (w := S.1 4) hp hW k9 (by omega)
    obtain ⟨x, hx2⟩ : ∃ z, z = goI (S.1 4) p (S.1 29, S.1 30, S.1 31, S.2 7) k9 := ⟨_, rfl⟩
    rw [← hx2]
    rw [← hx2] at iv2_0
    refine g_iload_n C dX8_goOnFrom_2 rfl 0 rfl ?_
    refine g_iconst C dX8_goOnFrom_3 rfl ?_
    refine g_icmp_ge C dX8_goOnFrom_4 118 (by decide) rfl (by omega) (by omega) (fun c4 => ?_) (fun c4 => ?_)
    · skip
      have hz2 : x = goI (S.1 4) p (S.1 29, S.1 30, S.1 31, S.2 7) 4 := by rw [hx2, show k9 = 4 from by omega] <;> rfl
      exact z_vret C Z dX8_goOnFrom_118 rfl (by rw [hz2]; rfl)
    · skip
      refine g_iload_n C dX8_goOnFrom_7 rfl 2 rfl ?_
      refine g_iload_n C dX8_goOnFrom_8 rfl 0 rfl ?_
      refine g_callS1 (As := [.int (iI p), .int (iI (k9 : Int))]) (rv := some (.int (iI (nbr p (k9 : Int))))) (kc' := 0) (ks' := 0) C (k_X3_neighbourOf l E p (k9 : Int) (by omega) (by omega)) mX3_neighbourOf wd377 wd376 rfl rfl (Nat.le_of_ble_eq_true rfl) ⟨Nat.le_of_ble_eq_true rfl, Nat.le_of_ble_eq_true rfl⟩ ⟨Nat.le_of_ble_eq_true rfl, Nat.le_of_ble_eq_true rfl⟩ rfl rfl dX8_goOnFrom_9 rfl ?_
      have n9 := nbr_b (k := p) (d := (k9 : Int)) (by omega)
      refine g_istore (lv' := [(4, .int (iI (nbr p (k9 : Int)))), (3, .int (iI (k9 : Int))), (0, .ref (ad 28)), (1, .int (iI p)), (2, .ref (ad 1))]) C dX8_goOnFrom_12 rfl (by decide) rfl ?_
      refine g_iload C dX8_goOnFrom_14 rfl 0 rfl ?_
      refine g_iconst C dX8_goOnFrom_16 rfl ?_
      refine g_icmp_eq C dX8_goOnFrom_17 112 (by decide) rfl (by omega) (by omega) (fun c17 => ?_) (fun c17 => ?_)
      · skip
        refine g_iinc (lv' := [(3, .int (iI ((k9 : Int) + 1))), (4, .int (iI (nbr p (k9 : Int)))), (0, .ref (ad 28)), (1, .int (iI p)), (2, .ref (ad 1))]) C dX8_goOnFrom_112 rfl 1 rfl (by decide) rfl ?_
        refine g_goto C dX8_goOnFrom_115 2 (by decide) ?_
        have e2 : (goB p (S.1 4)) k9 x = (x.1, x.2.1, x.2.2.1, x.2.2.2) := by
          unfold goB
          first | (rw [if_pos (by omega)]; unfold tod; first | (rw [if_pos (by omega)]) | (rw [if_neg (by omega)])) | (rw [if_neg (by omega)])
        have i2 := ih2 (by omega)
        rw [show goI (S.1 4) p (S.1 29, S.1 30, S.1 31, S.2 7) (k9 + 1) = (x.1, x.2.1, x.2.2.1, x.2.2.2) from by rw [← e2, hx2]; rfl] at i2
        exact g_to [0, 2, 3, 4] (i2) rfl rfl rfl
      · skip
        refine g_aload_n C dX8_goOnFrom_20 rfl 2 rfl ?_
        refine g_get (v := .ref (ad 29)) (T := TX8) (N := 4) (ci := 7) C in_X8 28 rfl rfl 0 (by decide) wd197 (Or.inl rfl) rfl dX8_goOnFrom_21 rfl ?_
        refine g_iload C dX8_goOnFrom_24 rfl 0 rfl ?_
        refine g_iald (f := x.1) C dX8_goOnFrom_26 rfl 29 rfl (by omega) (by decide) ?_
        have b26 := iv2_0.1 (nbr p (k9 : Int))
        refine g_iconst C dX8_goOnFrom_27 rfl ?_
        refine g_icmp_ne C dX8_goOnFrom_28 112 (by decide) rfl (by omega) (by omega) (fun c28 => ?_) (fun c28 => ?_)
        · skip
          refine g_iinc (lv' := [(3, .int (iI ((k9 : Int) + 1))), (4, .int (iI (nbr p (k9 : Int)))), (0, .ref (ad 28)), (1, .int (iI p)), (2, .ref (ad 1))]) C dX8_goOnFrom_112 rfl 1 rfl (by decide) rfl ?_
          refine g_goto C dX8_goOnFrom_115 2 (by decide) ?_
          have e2 : (goB p (S.1 4)) k9 x = (x.1, x.2.1, x.2.2.1, x.2.2.2) := by
            unfold goB
            first | (rw [if_pos (by omega)]; unfold tod; first | (rw [if_pos (by omega)]) | (rw [if_neg (by omega)])) | (rw [if_neg (by omega)])
          have i2 := ih2 (by omega)
          rw [show goI (S.1 4) p (S.1 29, S.1 30, S.1 31, S.2 7) (k9 + 1) = (x.1, x.2.1, x.2.2.1, x.2.2.2) from by rw [← e2, hx2]; rfl] at i2
          exact g_to [0, 2, 3, 4] (i2) rfl rfl rfl
        · skip
          refine g_aload_n C dX8_goOnFrom_31 rfl 4 rfl ?_
          refine g_iload C dX8_goOnFrom_32 rfl 0 rfl ?_
          refine g_callV0 (As := [.int (iI (nbr p (k9 : Int)))]) (rv := some (.int (iI (bI ((S.1 4) (nbr p (k9 : Int)) < 3))))) (w1 := wT E ad (setI (setA (setA (setA S 29 x.1) 30 x.2.1) 31 x.2.2.1) 7 x.2.2.2)) (kc' := 0) (ks' := 0) C (k_X3_isWalkable l E ad (setI (setA (setA (setA S 29 x.1) 30 x.2.1) 31 x.2.2.1) 7 x.2.2.2) (nbr p (k9 : Int)) hL (by omega)) mX3_isWalkable iX3_isWalkable wd379 1 3 rfl rfl rfl rfl rfl (Nat.le_of_ble_eq_true rfl) ⟨Nat.le_of_ble_eq_true rfl, Nat.le_of_ble_eq_true rfl⟩ ⟨Nat.le_of_ble_eq_true rfl, Nat.le_of_ble_eq_true rfl⟩ rfl rfl dX8_goOnFrom_34 rfl ?_
          have n34 := bI_w ((S.1 4) (nbr p (k9 : Int)) < 3)
          refine g_if_eq C dX8_goOnFrom_37 112 (by decide) rfl (by omega) (fun c37 => ?_) (fun c37 => ?_)
          · skip
            refine g_iinc (lv' := [(3, .int (iI ((k9 : Int) + 1))), (4, .int (iI (nbr p (k9 : Int)))), (0, .ref (ad 28)), (1, .int (iI p)), (2, .ref (ad 1))]) C dX8_goOnFrom_112 rfl 1 rfl (by decide) rfl ?_
            refine g_goto C dX8_goOnFrom_115 2 (by decide) ?_
            have e2 : (goB p (S.1 4)) k9 x = (x.1, x.2.1, x.2.2.1, x.2.2.2) := by
              unfold goB
              first | (rw [if_pos (by omega)]; unfold tod; first | (rw [if_pos (by omega)]) | (rw [if_neg (by omega)])) | (rw [if_neg (by omega)])
            have i2 := ih2 (by omega)
            rw [show goI (S.1 4) p (S.1 29, S.1 30, S.1 31, S.2 7) (k9 + 1) = (x.1, x.2.1, x.2.2.1, x.2.2.2) from by rw [← e2, hx2]; rfl] at i2
            exact g_to [0, 2, 3, 4] (i2) rfl rfl rfl
          · skip
            refine g_aload_n C dX8_goOnFrom_40 rfl 2 rfl ?_
            refine g_get (v := .int (iI x.2.2.2)) (T := TX8) (N := 4) (ci := 7) C in_X8 28 rfl rfl 3 (by decide) wd203 (Or.inl rfl) rfl dX8_goOnFrom_41 rfl ?_
            have f41 := iv2_0.2.2.2
            refine g_bipush C dX8_goOnFrom_44 rfl rfl ?_
            refine g_icmp_ge C dX8_goOnFrom_46 112 (by decide) rfl (by omega) (by omega) (fun c46 => ?_) (fun c46 => ?_)
            · skip
              refine g_iinc (lv' := [(3, .int (iI ((k9 : Int) + 1))), (4, .int (iI (nbr p (k9 : Int)))), (0, .ref (ad 28)), (1, .int (iI p)), (2, .ref (ad 1))]) C dX8_goOnFrom_112 rfl 1 rfl (by decide) rfl ?_
              refine g_goto C dX8_goOnFrom_115 2 (by decide) ?_
              have e2 : (goB p (S.1 4)) k9 x = (x.1, x.2.1, x.2.2.1, x.2.2.2) := by
                unfold goB
                first | (rw [if_pos (by omega)]; unfold tod; first | (rw [if_pos (by omega)]) | (rw [if_neg (by omega)])) | (rw [if_neg (by omega)])
              have i2 := ih2 (by omega)
              rw [show goI (S.1 4) p (S.1 29, S.1 30, S.1 31, S.2 7) (k9 + 1) = (x.1, x.2.1, x.2.2.1, x.2.2.2) from by rw [← e2, hx2]; rfl] at i2
              exact g_to [0, 2, 3, 4] (i2) rfl rfl rfl
            · skip
              refine g_aload_n C dX8_goOnFrom_49 rfl 2 rfl ?_
              refine g_get (v := .ref (ad 29)) (T := TX8) (N := 4) (ci := 7) C in_X8 28 rfl rfl 0 (by decide) wd197 (Or.inl rfl) rfl dX8_goOnFrom_50 rfl ?_
              refine g_iload C dX8_goOnFrom_53 rfl 0 rfl ?_
              refine g_aload_n C dX8_goOnFrom_55 rfl 2 rfl ?_
              refine g_get (v := .ref (ad 29)) (T := TX8) (N := 4) (ci := 7) C in_X8 28 rfl rfl 0 (by decide) wd197 (Or.inl rfl) rfl dX8_goOnFrom_56 rfl ?_
              refine g_iload_n C dX8_goOnFrom_59 rfl 3 rfl ?_
              refine g_iald (f := x.1) C dX8_goOnFrom_60 rfl 29 rfl (by omega) (by decide) ?_
              have b60 := iv2_0.1 p
              refine g_iconst C dX8_goOnFrom_61 rfl ?_
              refine g_iadd C dX8_goOnFrom_62 rfl ?_
              refine g_iast (f := x.1) (ws' := wT E ad (setI (setA (setA (setA S 29 (fset x.1 (nbr p (k9 : Int)) ((x.1 p) + (1)))) 30 x.2.1) 31 x.2.2.1) 7 x.2.2.2)) C dX8_goOnFrom_63 rfl 29 rfl (by omega) (by decide) rfl ?_
              refine g_aload_n C dX8_goOnFrom_64 rfl 2 rfl ?_
              refine g_get (v := .ref (ad 30)) (T := TX8) (N := 4) (ci := 7) C in_X8 28 rfl rfl 1 (by decide) wd199 (Or.inl rfl) rfl dX8_goOnFrom_65 rfl ?_
              refine g_iload C dX8_goOnFrom_68 rfl 0 rfl ?_
              refine g_aload_n C dX8_goOnFrom_70 rfl 2 rfl ?_
              refine g_get (v := .ref (ad 29)) (T := TX8) (N := 4) (ci := 7) C in_X8 28 rfl rfl 0 (by decide) wd197 (Or.inl rfl) rfl dX8_goOnFrom_71 rfl ?_
              refine g_iload_n C dX8_goOnFrom_74 rfl 3 rfl ?_
              refine g_iald (f := (fset x.1 (nbr p (k9 : Int)) ((x.1 p) + (1)))) C dX8_goOnFrom_75 rfl 29 rfl (by omega) (by decide) ?_
              try have b75 := bnd_fset (f := x.1) (a := (nbr p (k9 : Int))) (x := ((x.1 p) + (1))) (iv2_0.1) (by omega) p
              have q76 := fset_ne (f := x.1) (a := nbr p (k9 : Int)) (x := x.1 p + 1) (j := p) (Ne.symm (nbr_ne hp))
              refine g_if_ne C dX8_goOnFrom_76 84 (by decide) rfl (by omega) (fun c76 => ?_) (fun c76 => ?_)
              · skip
                refine g_aload_n C dX8_goOnFrom_84 rfl 2 rfl ?_
                refine g_get (v := .ref (ad 30)) (T := TX8) (N := 4) (ci := 7) C in_X8 28 rfl rfl 1 (by decide) wd199 (Or.inl rfl) rfl dX8_goOnFrom_85 rfl ?_
                refine g_iload_n C dX8_goOnFrom_88 rfl 3 rfl ?_
                refine g_iald (f := x.2.1) C dX8_goOnFrom_89 rfl 30 rfl (by omega) (by decide) ?_
                have b89 := iv2_0.2.1 p
                refine g_iast (f := x.2.1) (ws' := wT E ad (setI (setA (setA (setA S 29 (fset x.1 (nbr p (k9 : Int)) ((x.1 p) + (1)))) 30 (fset x.2.1 (nbr p (k9 : Int)) (x.2.1 p))) 31 x.2.2.1) 7 x.2.2.2)) C dX8_goOnFrom_90 rfl 30 rfl (by omega) (by decide) rfl ?_
                refine g_aload_n C dX8_goOnFrom_91 rfl 2 rfl ?_
                refine g_get (v := .ref (ad 31)) (T := TX8) (N := 4) (ci := 7) C in_X8 28 rfl rfl 2 (by decide) wd202 (Or.inl rfl) rfl dX8_goOnFrom_92 rfl ?_
                refine g_aload_n C dX8_goOnFrom_95 rfl 2 rfl ?_
                refine g_get (v := .int (iI x.2.2.2)) (T := TX8) (N := 4) (ci := 7) C in_X8 28 rfl rfl 3 (by decide) wd203 (Or.inl rfl) rfl dX8_goOnFrom_96 rfl ?_
                have f96 := iv2_0.2.2.2
                refine g_iload C dX8_goOnFrom_99 rfl 0 rfl ?_
                refine g_iast (f := x.2.2.1) (ws' := wT E ad (setI (setA (setA (setA S 29 (fset x.1 (nbr p (k9 : Int)) ((x.1 p) + (1)))) 30 (fset x.2.1 (nbr p (k9 : Int)) (x.2.1 p))) 31 (fset x.2.2.1 x.2.2.2 (nbr p (k9 : Int)))) 7 x.2.2.2)) C dX8_goOnFrom_101 rfl 31 rfl (by omega) (by decide) rfl ?_
                refine g_aload_n C dX8_goOnFrom_102 rfl 2 rfl ?_
                refine g_dup C dX8_goOnFrom_103 rfl rfl ?_
                refine g_get (v := .int (iI x.2.2.2)) (T := TX8) (N := 4) (ci := 7) C in_X8 28 rfl rfl 3 (by decide) wd203 (Or.inl rfl) rfl dX8_goOnFrom_104 rfl ?_
                have f104 := iv2_0.2.2.2
                refine g_iconst C dX8_goOnFrom_107 rfl ?_
                refine g_iadd C dX8_goOnFrom_108 rfl ?_
                refine g_put (T := TX8) (N := 4) (ci := 7) (ws' := wT E ad (setI (setA (setA (setA S 29 (fset x.1 (nbr p (k9 : Int)) ((x.1 p) + (1)))) 30 (fset x.2.1 (nbr p (k9 : Int)) (x.2.1 p))) 31 (fset x.2.2.1 x.2.2.2 (nbr p (k9 : Int)))) 7 (x.2.2.2 + (1)))) C in_X8 tyX8 tyX8_ok nmX8 28 rfl rfl 3 (by decide) wd203 (Or.inl rfl) rfl (ty := .int) (by decide +kernel) rfl rfl (Nat.le_of_ble_eq_true rfl) rfl dX8_goOnFrom_109 rfl ?_
                refine g_iinc (lv' := [(3, .int (iI ((k9 : Int) + 1))), (4, .int (iI (nbr p (k9 : Int)))), (0, .ref (ad 28)), (1, .int (iI p)), (2, .ref (ad 1))]) C dX8_goOnFrom_112 rfl 1 rfl (by decide) rfl ?_
                refine g_goto C dX8_goOnFrom_115 2 (by decide) ?_
                have e2 : (goB p (S.1 4)) k9 x = ((fset x.1 (nbr p (k9 : Int)) ((x.1 p) + (1))), (fset x.2.1 (nbr p (k9 : Int)) (x.2.1 p)), (fset x.2.2.1 x.2.2.2 (nbr p (k9 : Int))), (x.2.2.2 + (1))) := by
                  unfold goB
                  first | (rw [if_pos (by omega)]; unfold tod; first | (rw [if_pos (by omega)]) | (rw [if_neg (by omega)])) | (rw [if_neg (by omega)])
                have i2 := ih2 (by omega)
                rw [show goI (S.1 4) p (S.1 29, S.1 30, S.1 31, S.2 7) (k9 + 1) = ((fset x.1 (nbr p (k9 : Int)) ((x.1 p) + (1))), (fset x.2.1 (nbr p (k9 : Int)) (x.2.1 p)), (fset x.2.2.1 x.2.2.2 (nbr p (k9 : Int))), (x.2.2.2 + (1))) from by rw [← e2, hx2]; rfl] at i2
                exact g_to [0, 2, 3, 4] (i2) rfl rfl rfl
              · skip
                refine g_iload C dX8_goOnFrom_79 rfl 0 rfl ?_
                refine g_goto C dX8_goOnFrom_81 90 (by decide) ?_
                refine g_iast (f := x.2.1) (ws' := wT E ad (setI (setA (setA (setA S 29 (fset x.1 (nbr p (k9 : Int)) ((x.1 p) + (1)))) 30 (fset x.2.1 (nbr p (k9 : Int)) (nbr p (k9 : Int)))) 31 x.2.2.1) 7 x.2.2.2)) C dX8_goOnFrom_90 rfl 30 rfl (by omega) (by decide) rfl ?_
                refine g_aload_n C dX8_goOnFrom_91 rfl 2 rfl ?_
                refine g_get (v := .ref (ad 31)) (T := TX8) (N := 4) (ci := 7) C in_X8 28 rfl rfl 2 (by decide) wd202 (Or.inl rfl) rfl dX8_goOnFrom_92 rfl ?_
                refine g_aload_n C dX8_goOnFrom_95 rfl 2 rfl ?_
                refine g_get (v := .int (iI x.2.2.2)) (T := TX8) (N := 4) (ci := 7) C in_X8 28 rfl rfl 3 (by decide) wd203 (Or.inl rfl) rfl dX8_goOnFrom_96 rfl ?_
                have f96 := iv2_0.2.2.2
                refine g_iload C dX8_goOnFrom_99 rfl 0 rfl ?_
                refine g_iast (f := x.2.2.1) (ws' := wT E ad (setI (setA (setA (setA S 29 (fset x.1 (nbr p (k9 : Int)) ((x.1 p) + (1)))) 30 (fset x.2.1 (nbr p (k9 : Int)) (nbr p (k9 : Int)))) 31 (fset x.2.2.1 x.2.2.2 (nbr p (k9 : Int)))) 7 x.2.2.2)) C dX8_goOnFrom_101 rfl 31 rfl (by omega) (by decide) rfl ?_
                refine g_aload_n C dX8_goOnFrom_102 rfl 2 rfl ?_
                refine g_dup C dX8_goOnFrom_103 rfl rfl ?_
                refine g_get (v := .int (iI x.2.2.2)) (T := TX8) (N := 4) (ci := 7) C in_X8 28 rfl rfl 3 (by decide) wd203 (Or.inl rfl) rfl dX8_goOnFrom_104 rfl ?_
                have f104 := iv2_0.2.2.2
                refine g_iconst C dX8_goOnFrom_107 rfl ?_
                refine g_iadd C dX8_goOnFrom_108 rfl ?_
                refine g_put (T := TX8) (N := 4) (ci := 7) (ws' := wT E ad (setI (setA (setA (setA S 29 (fset x.1 (nbr p (k9 : Int)) ((x.1 p) + (1)))) 30 (fset x.2.1 (nbr p (k9 : Int)) (nbr p (k9 : Int)))) 31 (fset x.2.2.1 x.2.2.2 (nbr p (k9 : Int)))) 7 (x.2.2.2 + (1)))) C in_X8 tyX8 tyX8_ok nmX8 28 rfl rfl 3 (by decide) wd203 (Or.inl rfl) rfl (ty := .int) (by decide +kernel) rfl rfl (Nat.le_of_ble_eq_true rfl) rfl dX8_goOnFrom_109 rfl ?_
                refine g_iinc (lv' := [(3, .int (iI ((k9 : Int) + 1))), (4, .int (iI (nbr p (k9 : Int)))), (0, .ref (ad 28)), (1, .int (iI p)), (2, .ref (ad 1))]) C dX8_goOnFrom_112 rfl 1 rfl (by decide) rfl ?_
                refine g_goto C dX8_goOnFrom_115 2 (by decide) ?_
                have e2 : (goB p (S.1 4)) k9 x = ((fset x.1 (nbr p (k9 : Int)) ((x.1 p) + (1))), (fset x.2.1 (nbr p (k9 : Int)) (nbr p (k9 : Int))), (fset x.2.2.1 x.2.2.2 (nbr p (k9 : Int))), (x.2.2.2 + (1))) := by
                  unfold goB
                  first | (rw [if_pos (by omega)]; unfold tod; first | (rw [if_pos (by omega)]) | (rw [if_neg (by omega)])) | (rw [if_neg (by omega)])
                have i2 := ih2 (by omega)
                rw [show goI (S.1 4) p (S.1 29, S.1 30, S.1 31, S.2 7) (k9 + 1) = ((fset x.1 (nbr p (k9 : Int)) ((x.1 p) + (1))), (fset x.2.1 (nbr p (k9 : Int)) (nbr p (k9 : Int))), (fset x.2.2.1 x.2.2.2 (nbr p (k9 : Int))), (x.2.2.2 + (1))) from by rw [← e2, hx2]; rfl] at i2
                exact g_to [0, 2, 3, 4] (i2) rfl rfl rfl
  refine g_to [0, 1, 2, 3] (L2 0 (by omega)) rfl rfl rfl
abbrev r_X8_search : Room := { frames := 2, cells := 0, slots := 0, locals := 45 }
set_option maxHeartbeats 4000000 in
set_option maxRecDepth 100000 in
theorem k_X8_search (l : Launch) (E : gE) (ad : Nat → Nat) (S : gS) (c : Int) (hS : okT S) (hc : 0 ≤ c ∧ c < 80) : gK l E yX8_search cX8_search 4 none r_X8_search [.ref (ad 28), .int (iI c), .ref (ad 1)] (wT E ad S) (none) (wT E ad (searchS S c)) := by
  refine gK_by RX8 rfl mX8_search [(0, .ref (ad 28)), (1, .int (iI c)), (2, .ref (ad 1))] (Nat.le_of_ble_eq_true rfl) rfl ?_
  intro zp ze zs zm za zb zh zc zA zQ C Z
  refine g_iconst C dX8_search_0 rfl ?_
  refine g_istore_n (lv' := [(3, .int (iI (0))), (0, .ref (ad 28)), (1, .int (iI c)), (2, .ref (ad 1))]) C dX8_search_1 rfl (by decide) rfl ?_
  have L2 : ∀ k9 : Nat, k9 ≤ 80 → gG E zp l ze r_X8_search zs zm za zb zh zc zA 4 0 0 zQ (wT E ad (setA S 29 (itr noneB (S.1 29) k9))) 2 [(3, .int (iI (k9 : Int))), (0, .ref (ad 28)), (1, .int (iI c)), (2, .ref (ad 1))] [] := by
    refine g_up (80) _ ?_
    intro k9 ih2 hk2
    obtain ⟨y, hx2⟩ : ∃ z, z = itr noneB (S.1 29) k9 := ⟨_, rfl⟩
    rw [← hx2]
    refine g_iload_n C dX8_search_2 rfl 0 rfl ?_
    refine g_bipush C dX8_search_3 rfl rfl ?_
    refine g_icmp_ge C dX8_search_5 21 (by decide) rfl (by omega) (by omega) (fun c5 => ?_) (fun c5 => ?_)
    · skip
      have hz2 : y = itr noneB (S.1 29) 80 := by rw [hx2, show k9 = 80 from by omega] <;> rfl
      refine g_aload_n C dX8_search_21 rfl 1 rfl ?_
      refine g_get (v := .ref (ad 29)) (T := TX8) (N := 4) (ci := 7) C in_X8 28 rfl rfl 0 (by decide) wd197 (Or.inl rfl) rfl dX8_search_22 rfl ?_
      refine g_iload_n C dX8_search_25 rfl 2 rfl ?_
      refine g_iconst C dX8_search_26 rfl ?_
      refine g_iast (f := y) (ws' := wT E ad (setA S 29 (fset y c (0)))) C dX8_search_27 rfl 29 rfl (by omega) (by decide) rfl ?_
      refine g_aload_n C dX8_search_28 rfl 1 rfl ?_
      refine g_get (v := .ref (ad 30)) (T := TX8) (N := 4) (ci := 7) C in_X8 28 rfl rfl 1 (by decide) wd199 (Or.inl rfl) rfl dX8_search_29 rfl ?_
      refine g_iload_n C dX8_search_32 rfl 2 rfl ?_
      refine g_iload_n C dX8_search_33 rfl 2 rfl ?_
      refine g_iast (f := (S.1 30)) (ws' := wT E ad (setA (setA S 29 (fset y c (0))) 30 (fset (S.1 30) c c))) C dX8_search_34 rfl 30 rfl (by omega) (by decide) rfl ?_
      refine g_aload_n C dX8_search_35 rfl 1 rfl ?_
      refine g_get (v := .ref (ad 31)) (T := TX8) (N := 4) (ci := 7) C in_X8 28 rfl rfl 2 (by decide) wd202 (Or.inl rfl) rfl dX8_search_36 rfl ?_
      refine g_iconst C dX8_search_39 rfl ?_
      refine g_iload_n C dX8_search_40 rfl 2 rfl ?_
      refine g_iast (f := (S.1 31)) (ws' := wT E ad (setA (setA (setA S 29 (fset y c (0))) 30 (fset (S.1 30) c c)) 31 (fset (S.1 31) (0) c))) C dX8_search_41 rfl 31 rfl (by omega) (by decide) rfl ?_
      refine g_aload_n C dX8_search_42 rfl 1 rfl ?_
      refine g_iconst C dX8_search_43 rfl ?_
      refine g_put (T := TX8) (N := 4) (ci := 7) (ws' := wT E ad (setI (setA (setA (setA S 29 (fset y c (0))) 30 (fset (S.1 30) c c)) 31 (fset (S.1 31) (0) c)) 7 (1))) C in_X8 tyX8 tyX8_ok nmX8 28 rfl rfl 3 (by decide) wd203 (Or.inl rfl) rfl (ty := .int) (by decide +kernel) rfl rfl (Nat.le_of_ble_eq_true rfl) rfl dX8_search_44 rfl ?_
      refine g_iconst C dX8_search_47 rfl ?_
      refine g_istore_n (lv' := [(3, .int (iI (0))), (0, .ref (ad 28)), (1, .int (iI c)), (2, .ref (ad 1))]) C dX8_search_48 rfl (by decide) rfl ?_
      have L49 : ∀ k8 : Nat, k8 ≤ 80 → gG E zp l ze r_X8_search zs zm za zb zh zc zA 4 0 0 zQ (wT E ad (setI (setA (setA (setA S 29 ((srchI (S.1 4) (srch0 (S.1 29) (S.1 30) (S.1 31) c) k8).1)) 30 ((srchI (S.1 4) (srch0 (S.1 29) (S.1 30) (S.1 31) c) k8).2.1)) 31 ((srchI (S.1 4) (srch0 (S.1 29) (S.1 30) (S.1 31) c) k8).2.2.1)) 7 ((srchI (S.1 4) (srch0 (S.1 29) (S.1 30) (S.1 31) c) k8).2.2.2))) 49 [(3, .int (iI (k8 : Int))), (0, .ref (ad 28)), (1, .int (iI c)), (2, .ref (ad 1))] [] := by
        refine g_up (80) _ ?_
        intro k8 ih49 hk49
        have iv49_0 := srchI_b (w := S.1 4) (srch0_b (c := c) hc (okT_29 hS) (okT_30 hS) (okT_31 hS)) k8 hk49
        obtain ⟨x, hx49⟩ : ∃ z, z = srchI (S.1 4) (srch0 (S.1 29) (S.1 30) (S.1 31) c) k8 := ⟨_, rfl⟩
        rw [← hx49]
        rw [← hx49] at iv49_0
        refine g_iload_n C dX8_search_49 rfl 0 rfl ?_
        refine g_aload_n C dX8_search_50 rfl 1 rfl ?_
        refine g_get (v := .int (iI x.2.2.2)) (T := TX8) (N := 4) (ci := 7) C in_X8 28 rfl rfl 3 (by decide) wd203 (Or.inl rfl) rfl dX8_search_51 rfl ?_
        have f51 := iv49_0.2.2.2
        refine g_icmp_ge C dX8_search_54 80 (by decide) rfl (by omega) (by omega) (fun c54 => ?_) (fun c54 => ?_)
        · skip
          have hz49 : x = srchX S c := by rw [hx49]; first | (rw [show k8 = 80 from by omega]; rfl) | exact (srch_stop (by rw [← hx49]; omega) (by omega)).symm
          exact z_vret C Z dX8_search_80 rfl (by rw [hz49]; rfl)
        · skip
          refine g_iload_n C dX8_search_57 rfl 0 rfl ?_
          refine g_bipush C dX8_search_58 rfl rfl ?_
          refine g_icmp_ge C dX8_search_60 80 (by decide) rfl (by omega) (by omega) (fun c60 => ?_) (fun c60 => ?_)
          · skip
            have hz49 : x = srchX S c := by rw [hx49]; first | (rw [show k8 = 80 from by omega]; rfl) | exact (srch_stop (by rw [← hx49]; omega) (by omega)).symm
            exact z_vret C Z dX8_search_80 rfl (by rw [hz49]; rfl)
          · skip
            refine g_aload_n C dX8_search_63 rfl 1 rfl ?_
            refine g_aload_n C dX8_search_64 rfl 1 rfl ?_
            refine g_get (v := .ref (ad 31)) (T := TX8) (N := 4) (ci := 7) C in_X8 28 rfl rfl 2 (by decide) wd202 (Or.inl rfl) rfl dX8_search_65 rfl ?_
            refine g_iload_n C dX8_search_68 rfl 0 rfl ?_
            refine g_iald (f := x.2.2.1) C dX8_search_69 rfl 31 rfl (by omega) (by decide) ?_
            have b69 := iv49_0.2.2.1 (k8 : Int)
            refine g_aload_n C dX8_search_70 rfl 3 rfl ?_
            refine g_callV0 (As := [.int (iI (x.2.2.1 (k8 : Int))), .ref (ad 1)]) (rv := none) (w1 := wT E ad (setI (setA (setA (setA S 29 ((goI (S.1 4) (x.2.2.1 (k8 : Int)) (x.1, x.2.1, x.2.2.1, x.2.2.2) 4).1)) 30 ((goI (S.1 4) (x.2.2.1 (k8 : Int)) (x.1, x.2.1, x.2.2.1, x.2.2.2) 4).2.1)) 31 ((goI (S.1 4) (x.2.2.1 (k8 : Int)) (x.1, x.2.1, x.2.2.1, x.2.2.2) 4).2.2.1)) 7 ((goI (S.1 4) (x.2.2.1 (k8 : Int)) (x.1, x.2.1, x.2.2.1, x.2.2.2) 4).2.2.2))) (kc' := 0) (ks' := 0) C (k_X8_goOnFrom l E ad (setI (setA (setA (setA S 29 x.1) 30 x.2.1) 31 x.2.2.1) 7 x.2.2.2) (x.2.2.1 (k8 : Int)) (4 * (k8 : Int)) (okT_L (S := S) hS) (by omega) iv49_0 (by omega)) mX8_goOnFrom iX8_goOnFrom wd372 28 7 rfl rfl rfl rfl rfl (Nat.le_of_ble_eq_true rfl) ⟨Nat.le_of_ble_eq_true rfl, Nat.le_of_ble_eq_true rfl⟩ ⟨Nat.le_of_ble_eq_true rfl, Nat.le_of_ble_eq_true rfl⟩ rfl rfl dX8_search_71 rfl ?_
            refine g_iinc (lv' := [(3, .int (iI ((k8 : Int) + 1))), (0, .ref (ad 28)), (1, .int (iI c)), (2, .ref (ad 1))]) C dX8_search_74 rfl 0 rfl (by decide) rfl ?_
            refine g_goto C dX8_search_77 49 (by decide) ?_
            have e49 : (srchB (S.1 4)) k8 x = ((goI (S.1 4) (x.2.2.1 (k8 : Int)) (x.1, x.2.1, x.2.2.1, x.2.2.2) 4).1, (goI (S.1 4) (x.2.2.1 (k8 : Int)) (x.1, x.2.1, x.2.2.1, x.2.2.2) 4).2.1, (goI (S.1 4) (x.2.2.1 (k8 : Int)) (x.1, x.2.1, x.2.2.1, x.2.2.2) 4).2.2.1, (goI (S.1 4) (x.2.2.1 (k8 : Int)) (x.1, x.2.1, x.2.2.1, x.2.2.2) 4).2.2.2) := by
              unfold srchB
              rw [if_pos (by omega)]
            have i49 := ih49 (by omega)
            rw [show srchI (S.1 4) (srch0 (S.1 29) (S.1 30) (S.1 31) c) (k8 + 1) = ((goI (S.1 4) (x.2.2.1 (k8 : Int)) (x.1, x.2.1, x.2.2.1, x.2.2.2) 4).1, (goI (S.1 4) (x.2.2.1 (k8 : Int)) (x.1, x.2.1, x.2.2.1, x.2.2.2) 4).2.1, (goI (S.1 4) (x.2.2.1 (k8 : Int)) (x.1, x.2.1, x.2.2.1, x.2.2.2) 4).2.2.1, (goI (S.1 4) (x.2.2.1 (k8 : Int)) (x.1, x.2.1, x.2.2.1, x.2.2.2) 4).2.2.2) from by rw [← e49, hx49]; rfl] at i49
            exact g_to [0, 1, 2, 3] (i49) rfl rfl rfl
      refine g_to [0, 1, 2, 3] (L49 0 (by omega)) (by rw [hz2]; rfl) rfl rfl
    · skip
      refine g_aload_n C dX8_search_8 rfl 1 rfl ?_
      refine g_get (v := .ref (ad 29)) (T := TX8) (N := 4) (ci := 7) C in_X8 28 rfl rfl 0 (by decide) wd197 (Or.inl rfl) rfl dX8_search_9 rfl ?_
      refine g_iload_n C dX8_search_12 rfl 0 rfl ?_
      refine g_iconst C dX8_search_13 rfl ?_
      refine g_iast (f := y) (ws' := wT E ad (setA S 29 (fset y (k9 : Int) (-1)))) C dX8_search_14 rfl 29 rfl (by omega) (by decide) rfl ?_
      refine g_iinc (lv' := [(3, .int (iI ((k9 : Int) + 1))), (0, .ref (ad 28)), (1, .int (iI c)), (2, .ref (ad 1))]) C dX8_search_15 rfl 0 rfl (by decide) rfl ?_
      refine g_goto C dX8_search_18 2 (by decide) ?_
      have e2 : noneB k9 y = (fset y (k9 : Int) (-1)) := by
        rfl
      have i2 := ih2 (by omega)
      rw [show itr noneB (S.1 29) (k9 + 1) = (fset y (k9 : Int) (-1)) from by rw [← e2, hx2]; rfl] at i2
      exact g_to [0, 1, 2, 3] (i2) rfl rfl rfl
  refine g_to [0, 1, 2, 3] (L2 0 (by omega)) rfl rfl rfl
