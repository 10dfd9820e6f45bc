abbrev r_X11_isNear : Room := { frames := 1, cells := 0, slots := 0, locals := 14 }
set_option maxHeartbeats 4000000 in
set_option maxRecDepth 100000 in
theorem k_X11_isNear (l : Launch) (E : gE) (a b : Int) (ha : 0 ≤ a ∧ a < 80) (hb : 0 ≤ b ∧ b < 80) : gK l E yX11_isNear cX11_isNear 2 (some .boolean) r_X11_isNear [.int (iI a), .int (iI b)] ([]) (some (.int (iI (nearM a b)))) ([]) := by
  refine gK_by RX11 rfl mX11_isNear [(0, .int (iI a)), (1, .int (iI b))] (Nat.le_of_ble_eq_true rfl) rfl ?_
  intro zp ze zs zm za zb zh zc zA zQ C Z
  refine g_iload_n C dX11_isNear_0 rfl 0 rfl ?_
  refine g_bipush C dX11_isNear_1 rfl rfl ?_
  refine g_irem C dX11_isNear_3 rfl (by omega) (by omega) ?_
  refine g_iload_n C dX11_isNear_4 rfl 1 rfl ?_
  refine g_bipush C dX11_isNear_5 rfl rfl ?_
  refine g_irem C dX11_isNear_7 rfl (by omega) (by omega) ?_
  refine g_isub C dX11_isNear_8 rfl ?_
  refine g_abs C wd1176 ⟨wd1177, wd19, wd1178⟩ (Nat.le_of_ble_eq_true rfl) (Nat.le_of_ble_eq_true rfl) ⟨Nat.le_of_ble_eq_true rfl, Nat.le_of_ble_eq_true rfl⟩ (by omega) dX11_isNear_9 rfl ?_
  have a1 := abv_b (x := a % 10 - b % 10) (n := 9) (by omega)
  refine g_iload_n C dX11_isNear_12 rfl 0 rfl ?_
  refine g_bipush C dX11_isNear_13 rfl rfl ?_
  refine g_idiv C dX11_isNear_15 rfl (by omega) (by omega) ?_
  refine g_iload_n C dX11_isNear_16 rfl 1 rfl ?_
  refine g_bipush C dX11_isNear_17 rfl rfl ?_
  refine g_idiv C dX11_isNear_19 rfl (by omega) (by omega) ?_
  refine g_isub C dX11_isNear_20 rfl ?_
  refine g_abs C wd1176 ⟨wd1177, wd19, wd1178⟩ (Nat.le_of_ble_eq_true rfl) (Nat.le_of_ble_eq_true rfl) ⟨Nat.le_of_ble_eq_true rfl, Nat.le_of_ble_eq_true rfl⟩ (by omega) dX11_isNear_21 rfl ?_
  have a2 := abv_b (x := a / 10 - b / 10) (n := 7) (by omega)
  refine g_iadd C dX11_isNear_24 rfl ?_
  refine g_iconst C dX11_isNear_25 rfl ?_
  refine g_icmp_gt C dX11_isNear_26 33 (by decide) rfl (by omega) (by omega) (fun c26 => ?_) (fun c26 => ?_)
  · skip
    refine g_iconst C dX11_isNear_33 rfl ?_
    exact z_iret C Z (z_nar (by omega)) dX11_isNear_34 (by exact congrArg (fun z => some (Value.int (iI z))) (by unfold nearM; first | (rw [bI_t (by omega)]) | (rw [bI_f (by omega)]))) rfl
  · skip
    refine g_iconst C dX11_isNear_29 rfl ?_
    refine g_goto C dX11_isNear_30 34 (by decide) ?_
    exact z_iret C Z (z_nar (by omega)) dX11_isNear_34 (by exact congrArg (fun z => some (Value.int (iI z))) (by unfold nearM; first | (rw [bI_t (by omega)]) | (rw [bI_f (by omega)]))) rfl
abbrev r_X11_call : Room := { frames := 5, cells := 0, slots := 0, locals := 116 }
set_option maxHeartbeats 4000000 in
set_option maxRecDepth 100000 in
theorem k_X11_call (l : Launch) (E : gE) (am : Nat → Nat) (ss sa : Nat) (M : gS) (ad : Nat → Nat) (S : gS) (c : Int) (hM : okM M) (hS : okS S) (hc : 0 ≤ c ∧ c < 3) : gK l E yX11_call cX11_call 7 none r_X11_call [.ref (am 0), .ref (ad 0), .int (iI c)] (wM E am ss sa M ++ (wS E ad S)) (none) (wM E am ss sa (mCallM M S c) ++ (wS E ad (mCallS M S c))) := by
  refine gK_by RX11 rfl mX11_call [(0, .ref (am 0)), (1, .ref (ad 0)), (2, .int (iI c))] (Nat.le_of_ble_eq_true rfl) rfl ?_
  intro zp ze zs zm za zb zh zc zA zQ C Z
  refine g_iconst C dX11_call_0 rfl ?_
  refine g_istore_n (lv' := [(3, .int (iI (-1))), (0, .ref (am 0)), (1, .ref (ad 0)), (2, .int (iI c))]) C dX11_call_1 rfl (by decide) rfl ?_
  refine g_iconst C dX11_call_2 rfl ?_
  refine g_istore (lv' := [(4, .int (iI (-1))), (3, .int (iI (-1))), (0, .ref (am 0)), (1, .ref (ad 0)), (2, .int (iI c))]) C dX11_call_3 rfl (by decide) rfl ?_
  refine g_iconst C dX11_call_5 rfl ?_
  refine g_istore (lv' := [(5, .int (iI (0))), (4, .int (iI (-1))), (3, .int (iI (-1))), (0, .ref (am 0)), (1, .ref (ad 0)), (2, .int (iI c))]) C dX11_call_6 rfl (by decide) rfl ?_
  have L8 : ∀ k9 : Nat, k9 ≤ (M.2 4).toNat → gG E zp l ze r_X11_call zs zm za zb zh zc zA 7 0 0 zQ (wM E am ss sa (mcI M S c k9).1 ++ (wS E ad S)) 8 [(5, .int (iI (k9 : Int))), (4, .int (iI (mcI M S c k9).2.2)), (3, .int (iI (mcI M S c k9).2.1)), (0, .ref (am 0)), (1, .ref (ad 0)), (2, .int (iI c))] [] := by
    refine g_up ((M.2 4).toNat) _ ?_
    intro k9 ih8 hk8
    have iv8_0 := mcI_b (c := c) hM hS k9
    obtain ⟨x, hx8⟩ : ∃ z, z = mcI M S c k9 := ⟨_, rfl⟩
    rw [← hx8]
    rw [← hx8] at iv8_0
    have em8 : x.1.2 4 = M.2 4 := congrFun iv8_0.2.1 4
    have ff8 := okM_i4 hM
    have bx8 := iv8_0.2.2.1
    have by8 := iv8_0.2.2.2.1
    refine g_iload C dX11_call_8 rfl 0 rfl ?_
    refine g_aload_n C dX11_call_10 rfl 3 rfl ?_
    refine g_get (v := .int (iI (x.1.2 4))) (T := TX11) (N := 13) (ci := 10) C in_X11 0 rfl rfl 5 (by decide) wd939 (Or.inl rfl) rfl dX11_call_11 rfl ?_
    have f11 := okM_i4 iv8_0.1
    refine g_icmp_ge C dX11_call_14 92 (by decide) rfl (by omega) (by omega) (fun c14 => ?_) (fun c14 => ?_)
    · skip
      have hz8 : x = mBest M S c := by rw [hx8, show k9 = (M.2 4).toNat from by omega] <;> rfl
      refine g_iload_n C dX11_call_92 rfl 2 rfl ?_
      refine g_iconst C dX11_call_93 rfl ?_
      have J94 : gG E zp l ze r_X11_call zs zm za zb zh zc zA 7 0 0 zQ (wM E am ss sa (mCallM M S c) ++ (wS E ad (mStep M S c))) 126 [(5, .int (iI (k9 : Int))), (4, .int (iI x.2.2)), (3, .int (iI x.2.1)), (0, .ref (am 0)), (1, .ref (ad 0)), (2, .int (iI c))] [] := by
        refine g_iconst C dX11_call_126 rfl ?_
        refine g_istore (lv' := [(5, .int (iI (0))), (4, .int (iI x.2.2)), (3, .int (iI x.2.1)), (0, .ref (am 0)), (1, .ref (ad 0)), (2, .int (iI c))]) C dX11_call_127 rfl (by decide) rfl ?_
        have L129 : ∀ k8 : Nat, k8 ≤ (M.2 4).toNat → gG E zp l ze r_X11_call zs zm za zb zh zc zA 7 0 0 zQ (wM E am ss sa (mCallM M S c) ++ (wS E ad (mhI (mStep M S c) c k8))) 129 [(5, .int (iI (k8 : Int))), (4, .int (iI x.2.2)), (3, .int (iI x.2.1)), (0, .ref (am 0)), (1, .ref (ad 0)), (2, .int (iI c))] [] := by
          refine g_up ((M.2 4).toNat) _ ?_
          intro k8 ih129 hk129
          have iv129_0 := okS_mhI (c := c) (okS_mStep (c := c) hM hS) k8
          obtain ⟨y, hx129⟩ : ∃ z, z = mhI (mStep M S c) c k8 := ⟨_, rfl⟩
          rw [← hx129]
          rw [← hx129] at iv129_0
          have em129 : (mCallM M S c).2 4 = M.2 4 := congrFun (mCallM_2 (c := c) hM hS) 4
          have ff129 := okM_i4 hM
          refine g_iload C dX11_call_129 rfl 0 rfl ?_
          refine g_aload_n C dX11_call_131 rfl 3 rfl ?_
          refine g_get (v := .int (iI ((mCallM M S c).2 4))) (T := TX11) (N := 13) (ci := 10) C in_X11 0 rfl rfl 5 (by decide) wd939 (Or.inl rfl) rfl dX11_call_132 rfl ?_
          have f132 := okM_i4 (okM_mCall (c := c) hM hS)
          refine g_icmp_ge C dX11_call_135 210 (by decide) rfl (by omega) (by omega) (fun c135 => ?_) (fun c135 => ?_)
          · skip
            have hz129 : y = mCallS M S c := by rw [hx129, show k8 = (M.2 4).toNat from by omega] <;> rfl
            exact z_vret C Z dX11_call_210 rfl (by rw [hz129])
          · skip
            refine g_aload_n C dX11_call_138 rfl 4 rfl ?_
            refine g_getN (v := .ref (ad 7)) (T := TX10) (N := 10) (ci := 9) C rfl in_X10 6 rfl rfl 8 (by decide) (by decide +kernel) rfl rfl dX11_call_139 rfl ?_
            refine g_iconst C dX11_call_142 rfl ?_
            refine g_iload C dX11_call_143 rfl 0 rfl ?_
            refine g_imul C dX11_call_145 rfl ?_
            refine g_iconst C dX11_call_146 rfl ?_
            refine g_iadd C dX11_call_147 rfl ?_
            refine g_iald (f := (y.1 7)) C dX11_call_148 rfl 13 rfl (by omega) (by decide) ?_
            have b148 := okS_72 iv129_0 (k8 : Int)
            refine g_if_ne C dX11_call_149 204 (by decide) rfl (by omega) (fun c149 => ?_) (fun c149 => ?_)
            · skip
              refine g_iinc (lv' := [(5, .int (iI ((k8 : Int) + 1))), (4, .int (iI x.2.2)), (3, .int (iI x.2.1)), (0, .ref (am 0)), (1, .ref (ad 0)), (2, .int (iI c))]) C dX11_call_204 rfl 0 rfl (by decide) rfl ?_
              refine g_goto C dX11_call_207 129 (by decide) ?_
              have e129 : (mhB c) k8 y = y := by
                unfold mhB
                first | (rw [if_pos (by omega)] <;> rfl) | (rw [if_neg (by omega)] <;> rfl)
              have i129 := ih129 (by omega)
              rw [show mhI (mStep M S c) c (k8 + 1) = y from by rw [← e129, hx129]; rfl] at i129
              exact g_to [0, 1, 2, 3, 4, 5] (i129) rfl rfl rfl
            · skip
              refine g_aload_n C dX11_call_152 rfl 4 rfl ?_
              refine g_getN (v := .ref (ad 8)) (T := TX10) (N := 10) (ci := 9) C rfl in_X10 6 rfl rfl 9 (by decide) (by decide +kernel) rfl rfl dX11_call_153 rfl ?_
              refine g_iconst C dX11_call_156 rfl ?_
              refine g_iload_n C dX11_call_157 rfl 5 rfl ?_
              refine g_imul C dX11_call_158 rfl ?_
              refine g_iald (f := (y.1 8)) C dX11_call_159 rfl 14 rfl (by omega) (by decide) ?_
              have b159 := okS_80 iv129_0 c
              refine g_aload_n C dX11_call_160 rfl 4 rfl ?_
              refine g_getN (v := .ref (ad 7)) (T := TX10) (N := 10) (ci := 9) C rfl in_X10 6 rfl rfl 8 (by decide) (by decide +kernel) rfl rfl dX11_call_161 rfl ?_
              refine g_iconst C dX11_call_164 rfl ?_
              refine g_iload C dX11_call_165 rfl 0 rfl ?_
              refine g_imul C dX11_call_167 rfl ?_
              refine g_iald (f := (y.1 7)) C dX11_call_168 rfl 13 rfl (by omega) (by decide) ?_
              have b168 := okS_70 iv129_0 (k8 : Int)
              refine g_callS1 (As := [.int (iI ((y.1 8) ((2) * c))), .int (iI ((y.1 7) ((4) * (k8 : Int))))]) (rv := some (.int (iI (nearM ((y.1 8) ((2) * c)) ((y.1 7) ((4) * (k8 : Int))))))) (kc' := 0) (ks' := 0) C (k_X11_isNear l E ((y.1 8) ((2) * c)) ((y.1 7) ((4) * (k8 : Int))) (by omega) (by omega)) mX11_isNear wd1174 wd1173 rfl rfl (Nat.le_of_ble_eq_true rfl) ⟨Nat.le_of_ble_eq_true rfl, Nat.le_of_ble_eq_true rfl⟩ ⟨Nat.le_of_ble_eq_true rfl, Nat.le_of_ble_eq_true rfl⟩ rfl rfl dX11_call_169 rfl ?_
              have n169 : 0 ≤ nearM ((y.1 8) ((2) * c)) ((y.1 7) ((4) * (k8 : Int))) ∧ nearM ((y.1 8) ((2) * c)) ((y.1 7) ((4) * (k8 : Int))) ≤ 1 := by have h9 := bI_w ((if 0 ≤ ((y.1 8) ((2) * c)) % 10 - ((y.1 7) ((4) * (k8 : Int))) % 10 then ((y.1 8) ((2) * c)) % 10 - ((y.1 7) ((4) * (k8 : Int))) % 10 else 0 - (((y.1 8) ((2) * c)) % 10 - ((y.1 7) ((4) * (k8 : Int))) % 10)) + (if 0 ≤ ((y.1 8) ((2) * c)) / 10 - ((y.1 7) ((4) * (k8 : Int))) / 10 then ((y.1 8) ((2) * c)) / 10 - ((y.1 7) ((4) * (k8 : Int))) / 10 else 0 - (((y.1 8) ((2) * c)) / 10 - ((y.1 7) ((4) * (k8 : Int))) / 10)) ≤ 1); unfold nearM; omega
              refine g_if_ne C dX11_call_172 178 (by decide) rfl (by omega) (fun c172 => ?_) (fun c172 => ?_)
              · skip
                refine g_aload_n C dX11_call_178 rfl 4 rfl ?_
                refine g_getN (v := .ref (ad 7)) (T := TX10) (N := 10) (ci := 9) C rfl in_X10 6 rfl rfl 8 (by decide) (by decide +kernel) rfl rfl dX11_call_179 rfl ?_
                refine g_iconst C dX11_call_182 rfl ?_
                refine g_iload C dX11_call_183 rfl 0 rfl ?_
                refine g_imul C dX11_call_185 rfl ?_
                refine g_iconst C dX11_call_186 rfl ?_
                refine g_iadd C dX11_call_187 rfl ?_
                refine g_iconst C dX11_call_188 rfl ?_
                refine g_iast (f := (y.1 7)) (ws' := wM E am ss sa (mCallM M S c) ++ (wS E ad (setA y 7 (fset (y.1 7) (((4) * (k8 : Int)) + (2)) (1))))) C dX11_call_189 rfl 13 rfl (by omega) (by decide) rfl ?_
                refine g_aload_n C dX11_call_190 rfl 4 rfl ?_
                refine g_getN (v := .ref (ad 8)) (T := TX10) (N := 10) (ci := 9) C rfl in_X10 6 rfl rfl 9 (by decide) (by decide +kernel) rfl rfl dX11_call_191 rfl ?_
                refine g_iconst C dX11_call_194 rfl ?_
                refine g_iload_n C dX11_call_195 rfl 5 rfl ?_
                refine g_imul C dX11_call_196 rfl ?_
                refine g_iconst C dX11_call_197 rfl ?_
                refine g_iadd C dX11_call_198 rfl ?_
                refine g_dup2 C dX11_call_199 rfl rfl rfl ?_
                refine g_iald (f := (y.1 8)) C dX11_call_200 rfl 14 rfl (by omega) (by decide) ?_
                refine g_iconst C dX11_call_201 rfl ?_
                refine g_iadd C dX11_call_202 rfl ?_
                refine g_iast (f := (y.1 8)) (ws' := wM E am ss sa (mCallM M S c) ++ (wS E ad (setA (setA y 7 (fset (y.1 7) (((4) * (k8 : Int)) + (2)) (1))) 8 (fset (y.1 8) (((2) * c) + (1)) (((y.1 8) (((2) * c) + (1))) + (1)))))) C dX11_call_203 rfl 14 rfl (by omega) (by decide) rfl ?_
                refine g_iinc (lv' := [(5, .int (iI ((k8 : Int) + 1))), (4, .int (iI x.2.2)), (3, .int (iI x.2.1)), (0, .ref (am 0)), (1, .ref (ad 0)), (2, .int (iI c))]) C dX11_call_204 rfl 0 rfl (by decide) rfl ?_
                refine g_goto C dX11_call_207 129 (by decide) ?_
                have e129 : (mhB c) k8 y = (setA (setA y 7 (fset (y.1 7) (((4) * (k8 : Int)) + (2)) (1))) 8 (fset (y.1 8) (((2) * c) + (1)) (((y.1 8) (((2) * c) + (1))) + (1)))) := by
                  unfold mhB
                  first | (rw [if_pos (by omega)] <;> rfl) | (rw [if_neg (by omega)] <;> rfl)
                have i129 := ih129 (by omega)
                rw [show mhI (mStep M S c) c (k8 + 1) = (setA (setA y 7 (fset (y.1 7) (((4) * (k8 : Int)) + (2)) (1))) 8 (fset (y.1 8) (((2) * c) + (1)) (((y.1 8) (((2) * c) + (1))) + (1)))) from by rw [← e129, hx129]; rfl] at i129
                exact g_to [0, 1, 2, 3, 4, 5] (i129) rfl rfl rfl
              · skip
                refine g_goto C dX11_call_175 204 (by decide) ?_
                refine g_iinc (lv' := [(5, .int (iI ((k8 : Int) + 1))), (4, .int (iI x.2.2)), (3, .int (iI x.2.1)), (0, .ref (am 0)), (1, .ref (ad 0)), (2, .int (iI c))]) C dX11_call_204 rfl 0 rfl (by decide) rfl ?_
                refine g_goto C dX11_call_207 129 (by decide) ?_
                have e129 : (mhB c) k8 y = y := by
                  unfold mhB
                  first | (rw [if_pos (by omega)] <;> rfl) | (rw [if_neg (by omega)] <;> rfl)
                have i129 := ih129 (by omega)
                rw [show mhI (mStep M S c) c (k8 + 1) = y from by rw [← e129, hx129]; rfl] at i129
                exact g_to [0, 1, 2, 3, 4, 5] (i129) rfl rfl rfl
        refine g_to [0, 1, 2, 3, 4, 5] (L129 0 (by omega)) rfl rfl rfl
      refine g_icmp_eq C dX11_call_94 126 (by decide) rfl (by omega) (by omega) (fun c94 => ?_) (fun c94 => ?_)
      · skip
        exact g_to [0, 1, 2, 3, 4, 5] (J94) (by unfold mCallM mStep; rw [← hz8]; first | (rw [if_pos (by omega), if_pos (by omega)]) | (rw [if_neg (by omega), if_neg (by omega)])) rfl rfl
      · skip
        refine g_aload_n C dX11_call_97 rfl 4 rfl ?_
        refine g_getN (v := .ref (ad 8)) (T := TX10) (N := 10) (ci := 9) C rfl in_X10 6 rfl rfl 9 (by decide) (by decide +kernel) rfl rfl dX11_call_98 rfl ?_
        refine g_iconst C dX11_call_101 rfl ?_
        refine g_iload_n C dX11_call_102 rfl 5 rfl ?_
        refine g_imul C dX11_call_103 rfl ?_
        refine g_aload_n C dX11_call_104 rfl 3 rfl ?_
        refine g_aload_n C dX11_call_105 rfl 4 rfl ?_
        refine g_aload_n C dX11_call_106 rfl 4 rfl ?_
        refine g_getN (v := .ref (ad 8)) (T := TX10) (N := 10) (ci := 9) C rfl in_X10 6 rfl rfl 9 (by decide) (by decide +kernel) rfl rfl dX11_call_107 rfl ?_
        refine g_iconst C dX11_call_110 rfl ?_
        refine g_iload_n C dX11_call_111 rfl 5 rfl ?_
        refine g_imul C dX11_call_112 rfl ?_
        refine g_iald (f := (S.1 8)) C dX11_call_113 rfl 14 rfl (by omega) (by decide) ?_
        have b113 := okS_80 hS c
        refine g_aload_n C dX11_call_114 rfl 4 rfl ?_
        refine g_getN (v := .ref (ad 7)) (T := TX10) (N := 10) (ci := 9) C rfl in_X10 6 rfl rfl 8 (by decide) (by decide +kernel) rfl rfl dX11_call_115 rfl ?_
        refine g_iconst C dX11_call_118 rfl ?_
        refine g_iload_n C dX11_call_119 rfl 2 rfl ?_
        refine g_imul C dX11_call_120 rfl ?_
        refine g_iald (f := (S.1 7)) C dX11_call_121 rfl 13 rfl (by omega) (by decide) ?_
        have b121 := okS_70 hS x.2.1
        refine g_callV0 (As := [.ref (ad 0), .int (iI ((S.1 8) ((2) * c))), .int (iI ((S.1 7) ((4) * x.2.1)))]) (rv := some (.int (iI (dsC (S.1 3) ((S.1 8) ((2) * c)) ((S.1 7) ((4) * x.2.1)))))) (w1 := wM E am ss sa (stpM x.1 S ((S.1 8) ((2) * c)) ((S.1 7) ((4) * x.2.1))) ++ (wS E ad S)) (kc' := 0) (ks' := 0) C (k_X11_step l E am ss sa x.1 ad S ((S.1 8) ((2) * c)) ((S.1 7) ((4) * x.2.1)) iv8_0.1 hS (by omega) (by omega) (Or.inr (iv8_0.2.2.2.2 (by omega)))) mX11_step iX11_step wd1169 0 10 rfl rfl rfl rfl rfl (Nat.le_of_ble_eq_true rfl) ⟨Nat.le_of_ble_eq_true rfl, Nat.le_of_ble_eq_true rfl⟩ ⟨Nat.le_of_ble_eq_true rfl, Nat.le_of_ble_eq_true rfl⟩ rfl rfl dX11_call_122 rfl ?_
        have n122 := dsC_b (w := (S.1 3)) (a := ((S.1 8) ((2) * c))) (b := ((S.1 7) ((4) * x.2.1))) (by omega) (Or.inr (iv8_0.2.2.2.2 (by omega)))
        refine g_iast (f := (S.1 8)) (ws' := wM E am ss sa (stpM x.1 S ((S.1 8) ((2) * c)) ((S.1 7) ((4) * x.2.1))) ++ (wS E ad (setA S 8 (fset (S.1 8) ((2) * c) (dsC (S.1 3) ((S.1 8) ((2) * c)) ((S.1 7) ((4) * x.2.1))))))) C dX11_call_125 rfl 14 rfl (by omega) (by decide) rfl ?_
        exact g_to [0, 1, 2, 3, 4, 5] (J94) (by unfold mCallM mStep; rw [← hz8]; first | (rw [if_pos (by omega), if_pos (by omega)]) | (rw [if_neg (by omega), if_neg (by omega)])) rfl rfl
    · skip
      refine g_aload_n C dX11_call_17 rfl 4 rfl ?_
      refine g_getN (v := .ref (ad 7)) (T := TX10) (N := 10) (ci := 9) C rfl in_X10 6 rfl rfl 8 (by decide) (by decide +kernel) rfl rfl dX11_call_18 rfl ?_
      refine g_iconst C dX11_call_21 rfl ?_
      refine g_iload C dX11_call_22 rfl 0 rfl ?_
      refine g_imul C dX11_call_24 rfl ?_
      refine g_iconst C dX11_call_25 rfl ?_
      refine g_iadd C dX11_call_26 rfl ?_
      refine g_iald (f := (S.1 7)) C dX11_call_27 rfl 13 rfl (by omega) (by decide) ?_
      have b27 := okS_72 hS (k9 : Int)
      refine g_if_eq C dX11_call_28 34 (by decide) rfl (by omega) (fun c28 => ?_) (fun c28 => ?_)
      · skip
        refine g_aload_n C dX11_call_34 rfl 3 rfl ?_
        refine g_aload_n C dX11_call_35 rfl 4 rfl ?_
        refine g_aload_n C dX11_call_36 rfl 4 rfl ?_
        refine g_getN (v := .ref (ad 8)) (T := TX10) (N := 10) (ci := 9) C rfl in_X10 6 rfl rfl 9 (by decide) (by decide +kernel) rfl rfl dX11_call_37 rfl ?_
        refine g_iconst C dX11_call_40 rfl ?_
        refine g_iload_n C dX11_call_41 rfl 5 rfl ?_
        refine g_imul C dX11_call_42 rfl ?_
        refine g_iald (f := (S.1 8)) C dX11_call_43 rfl 14 rfl (by omega) (by decide) ?_
        have b43 := okS_80 hS c
        refine g_aload_n C dX11_call_44 rfl 4 rfl ?_
        refine g_getN (v := .ref (ad 7)) (T := TX10) (N := 10) (ci := 9) C rfl in_X10 6 rfl rfl 8 (by decide) (by decide +kernel) rfl rfl dX11_call_45 rfl ?_
        refine g_iconst C dX11_call_48 rfl ?_
        refine g_iload C dX11_call_49 rfl 0 rfl ?_
        refine g_imul C dX11_call_51 rfl ?_
        refine g_iald (f := (S.1 7)) C dX11_call_52 rfl 13 rfl (by omega) (by decide) ?_
        have b52 := okS_70 hS (k9 : Int)
        refine g_callV0 (As := [.ref (ad 0), .int (iI ((S.1 8) ((2) * c))), .int (iI ((S.1 7) ((4) * (k9 : Int))))]) (rv := some (.int (iI (dst (S.1 3) ((S.1 8) ((2) * c)) ((S.1 7) ((4) * (k9 : Int))))))) (w1 := wM E am ss sa (stpM x.1 S ((S.1 8) ((2) * c)) ((S.1 7) ((4) * (k9 : Int)))) ++ (wS E ad S)) (kc' := 0) (ks' := 0) C (k_X11_steps l E am ss sa x.1 ad S ((S.1 8) ((2) * c)) ((S.1 7) ((4) * (k9 : Int))) iv8_0.1 hS (by omega) (by omega)) mX11_steps iX11_steps wd1102 0 10 rfl rfl rfl rfl rfl (Nat.le_of_ble_eq_true rfl) ⟨Nat.le_of_ble_eq_true rfl, Nat.le_of_ble_eq_true rfl⟩ ⟨Nat.le_of_ble_eq_true rfl, Nat.le_of_ble_eq_true rfl⟩ rfl rfl dX11_call_53 rfl ?_
        have n53 := dst_b (w := (S.1 3)) (a := ((S.1 8) ((2) * c))) (b := ((S.1 7) ((4) * (k9 : Int)))) (by omega)
        refine g_istore (lv' := [(6, .int (iI (dst (S.1 3) ((S.1 8) ((2) * c)) ((S.1 7) ((4) * (k9 : Int)))))), (5, .int (iI (k9 : Int))), (4, .int (iI x.2.2)), (3, .int (iI x.2.1)), (0, .ref (am 0)), (1, .ref (ad 0)), (2, .int (iI c))]) C dX11_call_56 rfl (by decide) rfl ?_
        refine g_iload C dX11_call_58 rfl 0 rfl ?_
        refine g_iconst C dX11_call_60 rfl ?_
        refine g_icmp_eq C dX11_call_61 86 (by decide) rfl (by omega) (by omega) (fun c61 => ?_) (fun c61 => ?_)
        · skip
          refine g_iinc (lv' := [(5, .int (iI ((k9 : Int) + 1))), (6, .int (iI (dst (S.1 3) ((S.1 8) ((2) * c)) ((S.1 7) ((4) * (k9 : Int)))))), (4, .int (iI x.2.2)), (3, .int (iI x.2.1)), (0, .ref (am 0)), (1, .ref (ad 0)), (2, .int (iI c))]) C dX11_call_86 rfl 1 rfl (by decide) rfl ?_
          refine g_goto C dX11_call_89 8 (by decide) ?_
          have e8 : (mcB S c) k9 x = ((stpM x.1 S ((S.1 8) ((2) * c)) ((S.1 7) ((4) * (k9 : Int)))), x.2.1, x.2.2) := by
            unfold mcB
            first | (rw [if_pos (by omega)] <;> rfl) | (rw [if_neg (by omega), if_pos (by omega)] <;> rfl) | (rw [if_neg (by omega), if_neg (by omega)] <;> rfl)
          have i8 := ih8 (by omega)
          rw [show mcI M S c (k9 + 1) = ((stpM x.1 S ((S.1 8) ((2) * c)) ((S.1 7) ((4) * (k9 : Int)))), x.2.1, x.2.2) from by rw [← e8, hx8]; rfl] at i8
          exact g_to [0, 2, 3, 4, 5, 6] (i8) rfl rfl rfl
        · skip
          refine g_iload_n C dX11_call_64 rfl 3 rfl ?_
          refine g_iconst C dX11_call_65 rfl ?_
          refine g_icmp_eq C dX11_call_66 79 (by decide) rfl (by omega) (by omega) (fun c66 => ?_) (fun c66 => ?_)
          · skip
            refine g_iload C dX11_call_79 rfl 1 rfl ?_
            refine g_istore_n (lv' := [(3, .int (iI (k9 : Int))), (6, .int (iI (dst (S.1 3) ((S.1 8) ((2) * c)) ((S.1 7) ((4) * (k9 : Int)))))), (5, .int (iI (k9 : Int))), (4, .int (iI x.2.2)), (0, .ref (am 0)), (1, .ref (ad 0)), (2, .int (iI c))]) C dX11_call_81 rfl (by decide) rfl ?_
            refine g_iload C dX11_call_82 rfl 1 rfl ?_
            refine g_istore (lv' := [(4, .int (iI (dst (S.1 3) ((S.1 8) ((2) * c)) ((S.1 7) ((4) * (k9 : Int)))))), (3, .int (iI (k9 : Int))), (6, .int (iI (dst (S.1 3) ((S.1 8) ((2) * c)) ((S.1 7) ((4) * (k9 : Int)))))), (5, .int (iI (k9 : Int))), (0, .ref (am 0)), (1, .ref (ad 0)), (2, .int (iI c))]) C dX11_call_84 rfl (by decide) rfl ?_
            refine g_iinc (lv' := [(5, .int (iI ((k9 : Int) + 1))), (4, .int (iI (dst (S.1 3) ((S.1 8) ((2) * c)) ((S.1 7) ((4) * (k9 : Int)))))), (3, .int (iI (k9 : Int))), (6, .int (iI (dst (S.1 3) ((S.1 8) ((2) * c)) ((S.1 7) ((4) * (k9 : Int)))))), (0, .ref (am 0)), (1, .ref (ad 0)), (2, .int (iI c))]) C dX11_call_86 rfl 3 rfl (by decide) rfl ?_
            refine g_goto C dX11_call_89 8 (by decide) ?_
            have e8 : (mcB S c) k9 x = ((stpM x.1 S ((S.1 8) ((2) * c)) ((S.1 7) ((4) * (k9 : Int)))), (k9 : Int), (dst (S.1 3) ((S.1 8) ((2) * c)) ((S.1 7) ((4) * (k9 : Int))))) := by
              unfold mcB
              first | (rw [if_pos (by omega)] <;> rfl) | (rw [if_neg (by omega), if_pos (by omega)] <;> rfl) | (rw [if_neg (by omega), if_neg (by omega)] <;> rfl)
            have i8 := ih8 (by omega)
            rw [show mcI M S c (k9 + 1) = ((stpM x.1 S ((S.1 8) ((2) * c)) ((S.1 7) ((4) * (k9 : Int)))), (k9 : Int), (dst (S.1 3) ((S.1 8) ((2) * c)) ((S.1 7) ((4) * (k9 : Int))))) from by rw [← e8, hx8]; rfl] at i8
            exact g_to [0, 1, 2, 4, 5, 6] (i8) rfl rfl rfl
          · skip
            refine g_iload C dX11_call_69 rfl 0 rfl ?_
            refine g_iload C dX11_call_71 rfl 2 rfl ?_
            refine g_icmp_lt C dX11_call_73 79 (by decide) rfl (by omega) (by omega) (fun c73 => ?_) (fun c73 => ?_)
            · skip
              refine g_iload C dX11_call_79 rfl 1 rfl ?_
              refine g_istore_n (lv' := [(3, .int (iI (k9 : Int))), (6, .int (iI (dst (S.1 3) ((S.1 8) ((2) * c)) ((S.1 7) ((4) * (k9 : Int)))))), (5, .int (iI (k9 : Int))), (4, .int (iI x.2.2)), (0, .ref (am 0)), (1, .ref (ad 0)), (2, .int (iI c))]) C dX11_call_81 rfl (by decide) rfl ?_
              refine g_iload C dX11_call_82 rfl 1 rfl ?_
              refine g_istore (lv' := [(4, .int (iI (dst (S.1 3) ((S.1 8) ((2) * c)) ((S.1 7) ((4) * (k9 : Int)))))), (3, .int (iI (k9 : Int))), (6, .int (iI (dst (S.1 3) ((S.1 8) ((2) * c)) ((S.1 7) ((4) * (k9 : Int)))))), (5, .int (iI (k9 : Int))), (0, .ref (am 0)), (1, .ref (ad 0)), (2, .int (iI c))]) C dX11_call_84 rfl (by decide) rfl ?_
              refine g_iinc (lv' := [(5, .int (iI ((k9 : Int) + 1))), (4, .int (iI (dst (S.1 3) ((S.1 8) ((2) * c)) ((S.1 7) ((4) * (k9 : Int)))))), (3, .int (iI (k9 : Int))), (6, .int (iI (dst (S.1 3) ((S.1 8) ((2) * c)) ((S.1 7) ((4) * (k9 : Int)))))), (0, .ref (am 0)), (1, .ref (ad 0)), (2, .int (iI c))]) C dX11_call_86 rfl 3 rfl (by decide) rfl ?_
              refine g_goto C dX11_call_89 8 (by decide) ?_
              have e8 : (mcB S c) k9 x = ((stpM x.1 S ((S.1 8) ((2) * c)) ((S.1 7) ((4) * (k9 : Int)))), (k9 : Int), (dst (S.1 3) ((S.1 8) ((2) * c)) ((S.1 7) ((4) * (k9 : Int))))) := by
                unfold mcB
                first | (rw [if_pos (by omega)] <;> rfl) | (rw [if_neg (by omega), if_pos (by omega)] <;> rfl) | (rw [if_neg (by omega), if_neg (by omega)] <;> rfl)
              have i8 := ih8 (by omega)
              rw [show mcI M S c (k9 + 1) = ((stpM x.1 S ((S.1 8) ((2) * c)) ((S.1 7) ((4) * (k9 : Int)))), (k9 : Int), (dst (S.1 3) ((S.1 8) ((2) * c)) ((S.1 7) ((4) * (k9 : Int))))) from by rw [← e8, hx8]; rfl] at i8
              exact g_to [0, 1, 2, 4, 5, 6] (i8) rfl rfl rfl
            · skip
              refine g_goto C dX11_call_76 86 (by decide) ?_
              refine g_iinc (lv' := [(5, .int (iI ((k9 : Int) + 1))), (6, .int (iI (dst (S.1 3) ((S.1 8) ((2) * c)) ((S.1 7) ((4) * (k9 : Int)))))), (4, .int (iI x.2.2)), (3, .int (iI x.2.1)), (0, .ref (am 0)), (1, .ref (ad 0)), (2, .int (iI c))]) C dX11_call_86 rfl 1 rfl (by decide) rfl ?_
              refine g_goto C dX11_call_89 8 (by decide) ?_
              have e8 : (mcB S c) k9 x = ((stpM x.1 S ((S.1 8) ((2) * c)) ((S.1 7) ((4) * (k9 : Int)))), x.2.1, x.2.2) := by
                unfold mcB
                first | (rw [if_pos (by omega)] <;> rfl) | (rw [if_neg (by omega), if_pos (by omega)] <;> rfl) | (rw [if_neg (by omega), if_neg (by omega)] <;> rfl)
              have i8 := ih8 (by omega)
              rw [show mcI M S c (k9 + 1) = ((stpM x.1 S ((S.1 8) ((2) * c)) ((S.1 7) ((4) * (k9 : Int)))), x.2.1, x.2.2) from by rw [← e8, hx8]; rfl] at i8
              exact g_to [0, 2, 3, 4, 5, 6] (i8) rfl rfl rfl
      · skip
        refine g_goto C dX11_call_31 86 (by decide) ?_
        refine g_iinc (lv' := [(5, .int (iI ((k9 : Int) + 1))), (4, .int (iI x.2.2)), (3, .int (iI x.2.1)), (0, .ref (am 0)), (1, .ref (ad 0)), (2, .int (iI c))]) C dX11_call_86 rfl 0 rfl (by decide) rfl ?_
        refine g_goto C dX11_call_89 8 (by decide) ?_
        have e8 : (mcB S c) k9 x = (x.1, x.2.1, x.2.2) := by
          unfold mcB
          first | (rw [if_pos (by omega)] <;> rfl) | (rw [if_neg (by omega), if_pos (by omega)] <;> rfl) | (rw [if_neg (by omega), if_neg (by omega)] <;> rfl)
        have i8 := ih8 (by omega)
        rw [show mcI M S c (k9 + 1) = (x.1, x.2.1, x.2.2) from by rw [← e8, hx8]; rfl] at i8
        exact g_to [0, 1, 2, 3, 4, 5] (i8) rfl rfl rfl
  refine g_to [0, 1, 2, 3, 4, 5] (L8 0 (by omega)) rfl rfl rfl
abbrev r_X11_peopleIn : Room := { frames := 0, cells := 0, slots := 0, locals := 0 }
set_option maxHeartbeats 4000000 in
set_option maxRecDepth 100000 in
theorem k_X11_peopleIn (l : Launch) (E : gE) (am : Nat → Nat) (ss sa : Nat) (M : gS) (ad : Nat → Nat) (S : gS) (a : Int) (hM : okM M) (hS : okS S) (ha : -1 ≤ a ∧ a < 4) : gK l E yX11_peopleIn cX11_peopleIn 5 (some .int) r_X11_peopleIn [.ref (am 0), .ref (ad 0), .int (iI a)] (wM E am ss sa M ++ (wS E ad S)) (some (.int (iI (pinI S a (M.2 4).toNat)))) (wM E am ss sa M ++ (wS E ad S)) := by
  refine gK_by RX11 rfl mX11_peopleIn [(0, .ref (am 0)), (1, .ref (ad 0)), (2, .int (iI a))] (Nat.le_of_ble_eq_true rfl) rfl ?_
  intro zp ze zs zm za zb zh zc zA zQ C Z
  refine g_iconst C dX11_peopleIn_0 rfl ?_
  refine g_istore_n (lv' := [(3, .int (iI (0))), (0, .ref (am 0)), (1, .ref (ad 0)), (2, .int (iI a))]) C dX11_peopleIn_1 rfl (by decide) rfl ?_
  refine g_iconst C dX11_peopleIn_2 rfl ?_
  refine g_istore (lv' := [(4, .int (iI (0))), (3, .int (iI (0))), (0, .ref (am 0)), (1, .ref (ad 0)), (2, .int (iI a))]) C dX11_peopleIn_3 rfl (by decide) rfl ?_
  have L5 : ∀ k9 : Nat, k9 ≤ (M.2 4).toNat → gG E zp l ze r_X11_peopleIn zs zm za zb zh zc zA 5 0 0 zQ (wM E am ss sa M ++ (wS E ad S)) 5 [(4, .int (iI (k9 : Int))), (3, .int (iI (pinI S a k9))), (0, .ref (am 0)), (1, .ref (ad 0)), (2, .int (iI a))] [] := by
    refine g_up ((M.2 4).toNat) _ ?_
    intro k9 ih5 hk5
    obtain ⟨x, hx5⟩ : ∃ z, z = pinI S a k9 := ⟨_, rfl⟩
    rw [← hx5]
    have ff5 := okM_i4 hM
    refine g_iload C dX11_peopleIn_5 rfl 0 rfl ?_
    refine g_aload_n C dX11_peopleIn_7 rfl 2 rfl ?_
    refine g_get (v := .int (iI (M.2 4))) (T := TX11) (N := 13) (ci := 10) C in_X11 0 rfl rfl 5 (by decide) wd939 (Or.inl rfl) rfl dX11_peopleIn_8 rfl ?_
    have f8 := okM_i4 hM
    refine g_icmp_ge C dX11_peopleIn_11 68 (by decide) rfl (by omega) (by omega) (fun c11 => ?_) (fun c11 => ?_)
    · skip
      have hz5 : x = pinI S a (M.2 4).toNat := by rw [hx5, show k9 = (M.2 4).toNat from by omega] <;> rfl
      refine g_iload_n C dX11_peopleIn_68 rfl 1 rfl ?_
      exact z_iret C Z rfl dX11_peopleIn_69 (by exact congrArg (fun z => some (Value.int (iI z))) (hz5.symm)) rfl
    · skip
      refine g_iload_n C dX11_peopleIn_14 rfl 1 rfl ?_
      refine g_aload_n C dX11_peopleIn_15 rfl 3 rfl ?_
      refine g_getN (v := .ref (ad 7)) (T := TX10) (N := 10) (ci := 9) C rfl in_X10 6 rfl rfl 8 (by decide) (by decide +kernel) rfl rfl dX11_peopleIn_16 rfl ?_
      refine g_iconst C dX11_peopleIn_19 rfl ?_
      refine g_iload C dX11_peopleIn_20 rfl 0 rfl ?_
      refine g_imul C dX11_peopleIn_22 rfl ?_
      refine g_iconst C dX11_peopleIn_23 rfl ?_
      refine g_iadd C dX11_peopleIn_24 rfl ?_
      refine g_iald (f := (S.1 7)) C dX11_peopleIn_25 rfl 13 rfl (by omega) (by decide) ?_
      have b25 := okS_72 hS (k9 : Int)
      refine g_iconst C dX11_peopleIn_26 rfl ?_
      refine g_icmp_ne C dX11_peopleIn_27 59 (by decide) rfl (by omega) (by omega) (fun c27 => ?_) (fun c27 => ?_)
      · skip
        refine g_iconst C dX11_peopleIn_59 rfl ?_
        refine g_iadd C dX11_peopleIn_60 rfl ?_
        refine g_istore_n (lv' := [(3, .int (iI (x + (0)))), (4, .int (iI (k9 : Int))), (0, .ref (am 0)), (1, .ref (ad 0)), (2, .int (iI a))]) C dX11_peopleIn_61 rfl (by decide) rfl ?_
        refine g_iinc (lv' := [(4, .int (iI ((k9 : Int) + 1))), (3, .int (iI (x + (0)))), (0, .ref (am 0)), (1, .ref (ad 0)), (2, .int (iI a))]) C dX11_peopleIn_62 rfl 1 rfl (by decide) rfl ?_
        refine g_goto C dX11_peopleIn_65 5 (by decide) ?_
        have e5 : (pinB S a) k9 x = (x + (0)) := by
          unfold pinB tod
          first | (rw [if_pos (by omega)] <;> rfl) | (rw [if_neg (by omega)] <;> rfl)
        have i5 := ih5 (by omega)
        rw [show pinI S a (k9 + 1) = (x + (0)) from by rw [← e5, hx5]; rfl] at i5
        exact g_to [0, 1, 2, 3, 4] (i5) rfl rfl rfl
      · skip
        refine g_aload_n C dX11_peopleIn_30 rfl 3 rfl ?_
        refine g_getN (v := .ref (ad 7)) (T := TX10) (N := 10) (ci := 9) C rfl in_X10 6 rfl rfl 8 (by decide) (by decide +kernel) rfl rfl dX11_peopleIn_31 rfl ?_
        refine g_iconst C dX11_peopleIn_34 rfl ?_
        refine g_iload C dX11_peopleIn_35 rfl 0 rfl ?_
        refine g_imul C dX11_peopleIn_37 rfl ?_
        refine g_iconst C dX11_peopleIn_38 rfl ?_
        refine g_iadd C dX11_peopleIn_39 rfl ?_
        refine g_iald (f := (S.1 7)) C dX11_peopleIn_40 rfl 13 rfl (by omega) (by decide) ?_
        have b40 := okS_73 hS (k9 : Int)
        refine g_iload_n C dX11_peopleIn_41 rfl 4 rfl ?_
        refine g_icmp_ne C dX11_peopleIn_42 59 (by decide) rfl (by omega) (by omega) (fun c42 => ?_) (fun c42 => ?_)
        · skip
          refine g_iconst C dX11_peopleIn_59 rfl ?_
          refine g_iadd C dX11_peopleIn_60 rfl ?_
          refine g_istore_n (lv' := [(3, .int (iI (x + (0)))), (4, .int (iI (k9 : Int))), (0, .ref (am 0)), (1, .ref (ad 0)), (2, .int (iI a))]) C dX11_peopleIn_61 rfl (by decide) rfl ?_
          refine g_iinc (lv' := [(4, .int (iI ((k9 : Int) + 1))), (3, .int (iI (x + (0)))), (0, .ref (am 0)), (1, .ref (ad 0)), (2, .int (iI a))]) C dX11_peopleIn_62 rfl 1 rfl (by decide) rfl ?_
          refine g_goto C dX11_peopleIn_65 5 (by decide) ?_
          have e5 : (pinB S a) k9 x = (x + (0)) := by
            unfold pinB tod
            first | (rw [if_pos (by omega)] <;> rfl) | (rw [if_neg (by omega)] <;> rfl)
          have i5 := ih5 (by omega)
          rw [show pinI S a (k9 + 1) = (x + (0)) from by rw [← e5, hx5]; rfl] at i5
          exact g_to [0, 1, 2, 3, 4] (i5) rfl rfl rfl
        · skip
          refine g_aload_n C dX11_peopleIn_45 rfl 3 rfl ?_
          refine g_getN (v := .ref (ad 7)) (T := TX10) (N := 10) (ci := 9) C rfl in_X10 6 rfl rfl 8 (by decide) (by decide +kernel) rfl rfl dX11_peopleIn_46 rfl ?_
          refine g_iconst C dX11_peopleIn_49 rfl ?_
          refine g_iload C dX11_peopleIn_50 rfl 0 rfl ?_
          refine g_imul C dX11_peopleIn_52 rfl ?_
          refine g_iconst C dX11_peopleIn_53 rfl ?_
          refine g_iadd C dX11_peopleIn_54 rfl ?_
          refine g_iald (f := (S.1 7)) C dX11_peopleIn_55 rfl 13 rfl (by omega) (by decide) ?_
          have b55 := okS_71 hS (k9 : Int)
          refine g_goto C dX11_peopleIn_56 60 (by decide) ?_
          refine g_iadd C dX11_peopleIn_60 rfl ?_
          refine g_istore_n (lv' := [(3, .int (iI (x + ((S.1 7) (((4) * (k9 : Int)) + (1)))))), (4, .int (iI (k9 : Int))), (0, .ref (am 0)), (1, .ref (ad 0)), (2, .int (iI a))]) C dX11_peopleIn_61 rfl (by decide) rfl ?_
          refine g_iinc (lv' := [(4, .int (iI ((k9 : Int) + 1))), (3, .int (iI (x + ((S.1 7) (((4) * (k9 : Int)) + (1)))))), (0, .ref (am 0)), (1, .ref (ad 0)), (2, .int (iI a))]) C dX11_peopleIn_62 rfl 1 rfl (by decide) rfl ?_
          refine g_goto C dX11_peopleIn_65 5 (by decide) ?_
          have e5 : (pinB S a) k9 x = (x + ((S.1 7) (((4) * (k9 : Int)) + (1)))) := by
            unfold pinB tod
            first | (rw [if_pos (by omega)] <;> rfl) | (rw [if_neg (by omega)] <;> rfl)
          have i5 := ih5 (by omega)
          rw [show pinI S a (k9 + 1) = (x + ((S.1 7) (((4) * (k9 : Int)) + (1)))) from by rw [← e5, hx5]; rfl] at i5
          exact g_to [0, 1, 2, 3, 4] (i5) rfl rfl rfl
  refine g_to [0, 1, 2, 3, 4] (L5 0 (by omega)) rfl rfl rfl
abbrev r_X11_hasRoom : Room := { frames := 1, cells := 0, slots := 0, locals := 24 }
set_option maxHeartbeats 4000000 in
set_option maxRecDepth 100000 in
theorem k_X11_hasRoom (l : Launch) (E : gE) (am : Nat → Nat) (ss sa : Nat) (M : gS) (ad : Nat → Nat) (S : gS) (a n m : Int) (hM : okM M) (hS : okS S) (ha : 0 ≤ a ∧ a < 4) (hn : 0 ≤ n ∧ n ≤ 100) (hm : M.2 4 = m) : gK l E yX11_hasRoom cX11_hasRoom 4 (some .boolean) r_X11_hasRoom [.ref (am 0), .ref (ad 0), .int (iI a), .int (iI n)] (wM E am ss sa M ++ (wS E ad S)) (some (.int (iI (bI (n ≤ S.1 6 (2 * a + 1) - pinI S a m.toNat))))) (wM E am ss sa M ++ (wS E ad S)) := by
  refine gK_by RX11 rfl mX11_hasRoom [(0, .ref (am 0)), (1, .ref (ad 0)), (2, .int (iI a)), (3, .int (iI n))] (Nat.le_of_ble_eq_true rfl) rfl ?_
  intro zp ze zs zm za zb zh zc zA zQ C Z
  subst hm
  refine g_aload_n C dX11_hasRoom_0 rfl 1 rfl ?_
  refine g_getN (v := .ref (ad 6)) (T := TX10) (N := 10) (ci := 9) C rfl in_X10 6 rfl rfl 7 (by decide) (by decide +kernel) rfl rfl dX11_hasRoom_1 rfl ?_
  refine g_iconst C dX11_hasRoom_4 rfl ?_
  refine g_iload_n C dX11_hasRoom_5 rfl 2 rfl ?_
  refine g_imul C dX11_hasRoom_6 rfl ?_
  refine g_iconst C dX11_hasRoom_7 rfl ?_
  refine g_iadd C dX11_hasRoom_8 rfl ?_
  refine g_iald (f := (S.1 6)) C dX11_hasRoom_9 rfl 12 rfl (by omega) (by decide) ?_
  have b9 := okS_61 hS a
  refine g_aload_n C dX11_hasRoom_10 rfl 0 rfl ?_
  refine g_aload_n C dX11_hasRoom_11 rfl 1 rfl ?_
  refine g_iload_n C dX11_hasRoom_12 rfl 2 rfl ?_
  refine g_callV0 (As := [.ref (ad 0), .int (iI a)]) (rv := some (.int (iI (pinI S a ((M.2 4)).toNat)))) (w1 := wM E am ss sa M ++ (wS E ad S)) (kc' := 0) (ks' := 0) C (k_X11_peopleIn l E am ss sa M ad S a hM hS (by omega)) mX11_peopleIn iX11_peopleIn wd1078 0 10 rfl rfl rfl rfl rfl (Nat.le_of_ble_eq_true rfl) ⟨Nat.le_of_ble_eq_true rfl, Nat.le_of_ble_eq_true rfl⟩ ⟨Nat.le_of_ble_eq_true rfl, Nat.le_of_ble_eq_true rfl⟩ rfl rfl dX11_hasRoom_13 rfl ?_
  have n13 := pinI_b (M := M) (r := a) hS hM
  refine g_isub C dX11_hasRoom_16 rfl ?_
  refine g_iload_n C dX11_hasRoom_17 rfl 3 rfl ?_
  refine g_icmp_lt C dX11_hasRoom_18 25 (by decide) rfl (by omega) (by omega) (fun c18 => ?_) (fun c18 => ?_)
  · skip
    refine g_iconst C dX11_hasRoom_25 rfl ?_
    exact z_iret C Z (z_nar (by omega)) dX11_hasRoom_26 (by exact congrArg (fun z => some (Value.int (iI z))) (by first | (rw [bI_t (by omega)]) | (rw [bI_f (by omega)]))) rfl
  · skip
    refine g_iconst C dX11_hasRoom_21 rfl ?_
    refine g_goto C dX11_hasRoom_22 26 (by decide) ?_
    exact z_iret C Z (z_nar (by omega)) dX11_hasRoom_26 (by exact congrArg (fun z => some (Value.int (iI z))) (by first | (rw [bI_t (by omega)]) | (rw [bI_f (by omega)]))) rfl
abbrev r_X11_refugeFor : Room := { frames := 5, cells := 0, slots := 0, locals := 116 }
set_option maxHeartbeats 4000000 in
set_option maxRecDepth 100000 in
theorem k_X11_refugeFor (l : Launch) (E : gE) (am : Nat → Nat) (ss sa : Nat) (M : gS) (ad : Nat → Nat) (S : gS) (h : Int) (hM : okM M) (hS : okS S) (hh : 0 ≤ h ∧ h < 10) : gK l E yX11_refugeFor cX11_refugeFor 7 (some .int) r_X11_refugeFor [.ref (am 0), .ref (ad 0), .int (iI h)] (wM E am ss sa M ++ (wS E ad S)) (some (.int (iI (rfX M S h).2.1))) (wM E am ss sa (rfX M S h).1 ++ (wS E ad S)) := by
  refine gK_by RX11 rfl mX11_refugeFor [(0, .ref (am 0)), (1, .ref (ad 0)), (2, .int (iI h))] (Nat.le_of_ble_eq_true rfl) rfl ?_
  intro zp ze zs zm za zb zh zc zA zQ C Z
  refine g_iconst C dX11_refugeFor_0 rfl ?_
  refine g_istore_n (lv' := [(3, .int (iI (-1))), (0, .ref (am 0)), (1, .ref (ad 0)), (2, .int (iI h))]) C dX11_refugeFor_1 rfl (by decide) rfl ?_
  refine g_iconst C dX11_refugeFor_2 rfl ?_
  refine g_istore (lv' := [(4, .int (iI (-1))), (3, .int (iI (-1))), (0, .ref (am 0)), (1, .ref (ad 0)), (2, .int (iI h))]) C dX11_refugeFor_3 rfl (by decide) rfl ?_
  refine g_iconst C dX11_refugeFor_5 rfl ?_
  refine g_istore (lv' := [(5, .int (iI (0))), (4, .int (iI (-1))), (3, .int (iI (-1))), (0, .ref (am 0)), (1, .ref (ad 0)), (2, .int (iI h))]) C dX11_refugeFor_6 rfl (by decide) rfl ?_
  have L8 : ∀ k9 : Nat, k9 ≤ (M.2 3).toNat → gG E zp l ze r_X11_refugeFor zs zm za zb zh zc zA 7 0 0 zQ (wM E am ss sa (rfI M S h k9).1 ++ (wS E ad S)) 8 [(5, .int (iI (k9 : Int))), (4, .int (iI (rfI M S h k9).2.2)), (3, .int (iI (rfI M S h k9).2.1)), (0, .ref (am 0)), (1, .ref (ad 0)), (2, .int (iI h))] [] := by
    refine g_up ((M.2 3).toNat) _ ?_
    intro k9 ih8 hk8
    have iv8_0 := rfI_b (c := h) hM hS k9
    obtain ⟨x, hx8⟩ : ∃ z, z = rfI M S h k9 := ⟨_, rfl⟩
    rw [← hx8]
    rw [← hx8] at iv8_0
    have em8 : x.1.2 3 = M.2 3 := congrFun iv8_0.2.1 3
    have en8 : x.1.2 4 = M.2 4 := congrFun iv8_0.2.1 4
    have ff8 := okM_i3 hM
    have bx8 := iv8_0.2.2.1
    have by8 := iv8_0.2.2.2.1
    refine g_iload C dX11_refugeFor_8 rfl 0 rfl ?_
    refine g_aload_n C dX11_refugeFor_10 rfl 3 rfl ?_
    refine g_get (v := .int (iI (x.1.2 3))) (T := TX11) (N := 13) (ci := 10) C in_X11 0 rfl rfl 4 (by decide) wd938 (Or.inl rfl) rfl dX11_refugeFor_11 rfl ?_
    have f11 := okM_i3 iv8_0.1
    refine g_icmp_ge C dX11_refugeFor_14 98 (by decide) rfl (by omega) (by omega) (fun c14 => ?_) (fun c14 => ?_)
    · skip
      have hz8 : x = rfX M S h := by rw [hx8, show k9 = (M.2 3).toNat from by omega] <;> rfl
      refine g_iload_n C dX11_refugeFor_98 rfl 2 rfl ?_
      exact z_iret C Z rfl dX11_refugeFor_99 (by rw [hz8]) (by rw [hz8])
    · skip
      refine g_aload_n C dX11_refugeFor_17 rfl 3 rfl ?_
      refine g_aload_n C dX11_refugeFor_18 rfl 4 rfl ?_
      refine g_iload C dX11_refugeFor_19 rfl 0 rfl ?_
      refine g_aload_n C dX11_refugeFor_21 rfl 4 rfl ?_
      refine g_getN (v := .ref (ad 7)) (T := TX10) (N := 10) (ci := 9) C rfl in_X10 6 rfl rfl 8 (by decide) (by decide +kernel) rfl rfl dX11_refugeFor_22 rfl ?_
      refine g_iconst C dX11_refugeFor_25 rfl ?_
      refine g_iload_n C dX11_refugeFor_26 rfl 5 rfl ?_
      refine g_imul C dX11_refugeFor_27 rfl ?_
      refine g_iconst C dX11_refugeFor_28 rfl ?_
      refine g_iadd C dX11_refugeFor_29 rfl ?_
      refine g_iald (f := (S.1 7)) C dX11_refugeFor_30 rfl 13 rfl (by omega) (by decide) ?_
      have b30 := okS_71 hS h
      refine g_callV0 (As := [.ref (ad 0), .int (iI (k9 : Int)), .int (iI ((S.1 7) (((4) * h) + (1))))]) (rv := some (.int (iI (bI (((S.1 7) (((4) * h) + (1))) ≤ (S.1 6) (2 * (k9 : Int) + 1) - pinI S (k9 : Int) ((M.2 4)).toNat))))) (w1 := wM E am ss sa x.1 ++ (wS E ad S)) (kc' := 0) (ks' := 0) C (k_X11_hasRoom l E am ss sa x.1 ad S (k9 : Int) ((S.1 7) (((4) * h) + (1))) (M.2 4) iv8_0.1 hS (by omega) (by omega) (by omega)) mX11_hasRoom iX11_hasRoom wd1098 0 10 rfl rfl rfl rfl rfl (Nat.le_of_ble_eq_true rfl) ⟨Nat.le_of_ble_eq_true rfl, Nat.le_of_ble_eq_true rfl⟩ ⟨Nat.le_of_ble_eq_true rfl, Nat.le_of_ble_eq_true rfl⟩ rfl rfl dX11_refugeFor_31 rfl ?_
      have n31 := bI_w (((S.1 7) (((4) * h) + (1))) ≤ (S.1 6) (2 * (k9 : Int) + 1) - pinI S (k9 : Int) ((M.2 4)).toNat)
      refine g_if_ne C dX11_refugeFor_34 40 (by decide) rfl (by omega) (fun c34 => ?_) (fun c34 => ?_)
      · skip
        refine g_aload_n C dX11_refugeFor_40 rfl 3 rfl ?_
        refine g_aload_n C dX11_refugeFor_41 rfl 4 rfl ?_
        refine g_aload_n C dX11_refugeFor_42 rfl 4 rfl ?_
        refine g_getN (v := .ref (ad 7)) (T := TX10) (N := 10) (ci := 9) C rfl in_X10 6 rfl rfl 8 (by decide) (by decide +kernel) rfl rfl dX11_refugeFor_43 rfl ?_
        refine g_iconst C dX11_refugeFor_46 rfl ?_
        refine g_iload_n C dX11_refugeFor_47 rfl 5 rfl ?_
        refine g_imul C dX11_refugeFor_48 rfl ?_
        refine g_iald (f := (S.1 7)) C dX11_refugeFor_49 rfl 13 rfl (by omega) (by decide) ?_
        have b49 := okS_70 hS h
        refine g_aload_n C dX11_refugeFor_50 rfl 4 rfl ?_
        refine g_getN (v := .ref (ad 6)) (T := TX10) (N := 10) (ci := 9) C rfl in_X10 6 rfl rfl 7 (by decide) (by decide +kernel) rfl rfl dX11_refugeFor_51 rfl ?_
        refine g_iconst C dX11_refugeFor_54 rfl ?_
        refine g_iload C dX11_refugeFor_55 rfl 0 rfl ?_
        refine g_imul C dX11_refugeFor_57 rfl ?_
        refine g_iald (f := (S.1 6)) C dX11_refugeFor_58 rfl 12 rfl (by omega) (by decide) ?_
        have b58 := okS_60 hS (k9 : Int)
        refine g_callV0 (As := [.ref (ad 0), .int (iI ((S.1 7) ((4) * h))), .int (iI ((S.1 6) ((2) * (k9 : Int))))]) (rv := some (.int (iI (dst (S.1 3) ((S.1 7) ((4) * h)) ((S.1 6) ((2) * (k9 : Int))))))) (w1 := wM E am ss sa (stpM x.1 S ((S.1 7) ((4) * h)) ((S.1 6) ((2) * (k9 : Int)))) ++ (wS E ad S)) (kc' := 0) (ks' := 0) C (k_X11_steps l E am ss sa x.1 ad S ((S.1 7) ((4) * h)) ((S.1 6) ((2) * (k9 : Int))) iv8_0.1 hS (by omega) (by omega)) mX11_steps iX11_steps wd1102 0 10 rfl rfl rfl rfl rfl (Nat.le_of_ble_eq_true rfl) ⟨Nat.le_of_ble_eq_true rfl, Nat.le_of_ble_eq_true rfl⟩ ⟨Nat.le_of_ble_eq_true rfl, Nat.le_of_ble_eq_true rfl⟩ rfl rfl dX11_refugeFor_59 rfl ?_
        have n59 := dst_b (w := (S.1 3)) (a := ((S.1 7) ((4) * h))) (b := ((S.1 6) ((2) * (k9 : Int)))) (by omega)
        refine g_istore (lv' := [(6, .int (iI (dst (S.1 3) ((S.1 7) ((4) * h)) ((S.1 6) ((2) * (k9 : Int)))))), (5, .int (iI (k9 : Int))), (4, .int (iI x.2.2)), (3, .int (iI x.2.1)), (0, .ref (am 0)), (1, .ref (ad 0)), (2, .int (iI h))]) C dX11_refugeFor_62 rfl (by decide) rfl ?_
        refine g_iload C dX11_refugeFor_64 rfl 0 rfl ?_
        refine g_iconst C dX11_refugeFor_66 rfl ?_
        refine g_icmp_eq C dX11_refugeFor_67 92 (by decide) rfl (by omega) (by omega) (fun c67 => ?_) (fun c67 => ?_)
        · skip
          refine g_iinc (lv' := [(5, .int (iI ((k9 : Int) + 1))), (6, .int (iI (dst (S.1 3) ((S.1 7) ((4) * h)) ((S.1 6) ((2) * (k9 : Int)))))), (4, .int (iI x.2.2)), (3, .int (iI x.2.1)), (0, .ref (am 0)), (1, .ref (ad 0)), (2, .int (iI h))]) C dX11_refugeFor_92 rfl 1 rfl (by decide) rfl ?_
          refine g_goto C dX11_refugeFor_95 8 (by decide) ?_
          have e8 : (rfB S h (M.2 4).toNat) k9 x = ((stpM x.1 S ((S.1 7) ((4) * h)) ((S.1 6) ((2) * (k9 : Int)))), x.2.1, x.2.2) := by
            unfold rfB
            first | (rw [if_pos (by omega)] <;> rfl) | (rw [if_neg (by omega), if_pos (by omega)] <;> rfl) | (rw [if_neg (by omega), if_neg (by omega)] <;> rfl)
          have i8 := ih8 (by omega)
          rw [show rfI M S h (k9 + 1) = ((stpM x.1 S ((S.1 7) ((4) * h)) ((S.1 6) ((2) * (k9 : Int)))), x.2.1, x.2.2) from by rw [← e8, hx8]; rfl] at i8
          exact g_to [0, 2, 3, 4, 5, 6] (i8) rfl rfl rfl
        · skip
          refine g_iload_n C dX11_refugeFor_70 rfl 3 rfl ?_
          refine g_iconst C dX11_refugeFor_71 rfl ?_
          refine g_icmp_eq C dX11_refugeFor_72 85 (by decide) rfl (by omega) (by omega) (fun c72 => ?_) (fun c72 => ?_)
          · skip
            refine g_iload C dX11_refugeFor_85 rfl 1 rfl ?_
            refine g_istore_n (lv' := [(3, .int (iI (k9 : Int))), (6, .int (iI (dst (S.1 3) ((S.1 7) ((4) * h)) ((S.1 6) ((2) * (k9 : Int)))))), (5, .int (iI (k9 : Int))), (4, .int (iI x.2.2)), (0, .ref (am 0)), (1, .ref (ad 0)), (2, .int (iI h))]) C dX11_refugeFor_87 rfl (by decide) rfl ?_
            refine g_iload C dX11_refugeFor_88 rfl 1 rfl ?_
            refine g_istore (lv' := [(4, .int (iI (dst (S.1 3) ((S.1 7) ((4) * h)) ((S.1 6) ((2) * (k9 : Int)))))), (3, .int (iI (k9 : Int))), (6, .int (iI (dst (S.1 3) ((S.1 7) ((4) * h)) ((S.1 6) ((2) * (k9 : Int)))))), (5, .int (iI (k9 : Int))), (0, .ref (am 0)), (1, .ref (ad 0)), (2, .int (iI h))]) C dX11_refugeFor_90 rfl (by decide) rfl ?_
            refine g_iinc (lv' := [(5, .int (iI ((k9 : Int) + 1))), (4, .int (iI (dst (S.1 3) ((S.1 7) ((4) * h)) ((S.1 6) ((2) * (k9 : Int)))))), (3, .int (iI (k9 : Int))), (6, .int (iI (dst (S.1 3) ((S.1 7) ((4) * h)) ((S.1 6) ((2) * (k9 : Int)))))), (0, .ref (am 0)), (1, .ref (ad 0)), (2, .int (iI h))]) C dX11_refugeFor_92 rfl 3 rfl (by decide) rfl ?_
            refine g_goto C dX11_refugeFor_95 8 (by decide) ?_
            have e8 : (rfB S h (M.2 4).toNat) k9 x = ((stpM x.1 S ((S.1 7) ((4) * h)) ((S.1 6) ((2) * (k9 : Int)))), (k9 : Int), (dst (S.1 3) ((S.1 7) ((4) * h)) ((S.1 6) ((2) * (k9 : Int))))) := by
              unfold rfB
              first | (rw [if_pos (by omega)] <;> rfl) | (rw [if_neg (by omega), if_pos (by omega)] <;> rfl) | (rw [if_neg (by omega), if_neg (by omega)] <;> rfl)
            have i8 := ih8 (by omega)
            rw [show rfI M S h (k9 + 1) = ((stpM x.1 S ((S.1 7) ((4) * h)) ((S.1 6) ((2) * (k9 : Int)))), (k9 : Int), (dst (S.1 3) ((S.1 7) ((4) * h)) ((S.1 6) ((2) * (k9 : Int))))) from by rw [← e8, hx8]; rfl] at i8
            exact g_to [0, 1, 2, 4, 5, 6] (i8) rfl rfl rfl
          · skip
            refine g_iload C dX11_refugeFor_75 rfl 0 rfl ?_
            refine g_iload C dX11_refugeFor_77 rfl 2 rfl ?_
            refine g_icmp_lt C dX11_refugeFor_79 85 (by decide) rfl (by omega) (by omega) (fun c79 => ?_) (fun c79 => ?_)
            · skip
              refine g_iload C dX11_refugeFor_85 rfl 1 rfl ?_
              refine g_istore_n (lv' := [(3, .int (iI (k9 : Int))), (6, .int (iI (dst (S.1 3) ((S.1 7) ((4) * h)) ((S.1 6) ((2) * (k9 : Int)))))), (5, .int (iI (k9 : Int))), (4, .int (iI x.2.2)), (0, .ref (am 0)), (1, .ref (ad 0)), (2, .int (iI h))]) C dX11_refugeFor_87 rfl (by decide) rfl ?_
              refine g_iload C dX11_refugeFor_88 rfl 1 rfl ?_
              refine g_istore (lv' := [(4, .int (iI (dst (S.1 3) ((S.1 7) ((4) * h)) ((S.1 6) ((2) * (k9 : Int)))))), (3, .int (iI (k9 : Int))), (6, .int (iI (dst (S.1 3) ((S.1 7) ((4) * h)) ((S.1 6) ((2) * (k9 : Int)))))), (5, .int (iI (k9 : Int))), (0, .ref (am 0)), (1, .ref (ad 0)), (2, .int (iI h))]) C dX11_refugeFor_90 rfl (by decide) rfl ?_
              refine g_iinc (lv' := [(5, .int (iI ((k9 : Int) + 1))), (4, .int (iI (dst (S.1 3) ((S.1 7) ((4) * h)) ((S.1 6) ((2) * (k9 : Int)))))), (3, .int (iI (k9 : Int))), (6, .int (iI (dst (S.1 3) ((S.1 7) ((4) * h)) ((S.1 6) ((2) * (k9 : Int)))))), (0, .ref (am 0)), (1, .ref (ad 0)), (2, .int (iI h))]) C dX11_refugeFor_92 rfl 3 rfl (by decide) rfl ?_
              refine g_goto C dX11_refugeFor_95 8 (by decide) ?_
              have e8 : (rfB S h (M.2 4).toNat) k9 x = ((stpM x.1 S ((S.1 7) ((4) * h)) ((S.1 6) ((2) * (k9 : Int)))), (k9 : Int), (dst (S.1 3) ((S.1 7) ((4) * h)) ((S.1 6) ((2) * (k9 : Int))))) := by
                unfold rfB
                first | (rw [if_pos (by omega)] <;> rfl) | (rw [if_neg (by omega), if_pos (by omega)] <;> rfl) | (rw [if_neg (by omega), if_neg (by omega)] <;> rfl)
              have i8 := ih8 (by omega)
              rw [show rfI M S h (k9 + 1) = ((stpM x.1 S ((S.1 7) ((4) * h)) ((S.1 6) ((2) * (k9 : Int)))), (k9 : Int), (dst (S.1 3) ((S.1 7) ((4) * h)) ((S.1 6) ((2) * (k9 : Int))))) from by rw [← e8, hx8]; rfl] at i8
              exact g_to [0, 1, 2, 4, 5, 6] (i8) rfl rfl rfl
            · skip
              refine g_goto C dX11_refugeFor_82 92 (by decide) ?_
              refine g_iinc (lv' := [(5, .int (iI ((k9 : Int) + 1))), (6, .int (iI (dst (S.1 3) ((S.1 7) ((4) * h)) ((S.1 6) ((2) * (k9 : Int)))))), (4, .int (iI x.2.2)), (3, .int (iI x.2.1)), (0, .ref (am 0)), (1, .ref (ad 0)), (2, .int (iI h))]) C dX11_refugeFor_92 rfl 1 rfl (by decide) rfl ?_
              refine g_goto C dX11_refugeFor_95 8 (by decide) ?_
              have e8 : (rfB S h (M.2 4).toNat) k9 x = ((stpM x.1 S ((S.1 7) ((4) * h)) ((S.1 6) ((2) * (k9 : Int)))), x.2.1, x.2.2) := by
                unfold rfB
                first | (rw [if_pos (by omega)] <;> rfl) | (rw [if_neg (by omega), if_pos (by omega)] <;> rfl) | (rw [if_neg (by omega), if_neg (by omega)] <;> rfl)
              have i8 := ih8 (by omega)
              rw [show rfI M S h (k9 + 1) = ((stpM x.1 S ((S.1 7) ((4) * h)) ((S.1 6) ((2) * (k9 : Int)))), x.2.1, x.2.2) from by rw [← e8, hx8]; rfl] at i8
              exact g_to [0, 2, 3, 4, 5, 6] (i8) rfl rfl rfl
      · skip
        refine g_goto C dX11_refugeFor_37 92 (by decide) ?_
        refine g_iinc (lv' := [(5, .int (iI ((k9 : Int) + 1))), (4, .int (iI x.2.2)), (3, .int (iI x.2.1)), (0, .ref (am 0)), (1, .ref (ad 0)), (2, .int (iI h))]) C dX11_refugeFor_92 rfl 0 rfl (by decide) rfl ?_
        refine g_goto C dX11_refugeFor_95 8 (by decide) ?_
        have e8 : (rfB S h (M.2 4).toNat) k9 x = (x.1, x.2.1, x.2.2) := by
          unfold rfB
          first | (rw [if_pos (by omega)] <;> rfl) | (rw [if_neg (by omega), if_pos (by omega)] <;> rfl) | (rw [if_neg (by omega), if_neg (by omega)] <;> rfl)
        have i8 := ih8 (by omega)
        rw [show rfI M S h (k9 + 1) = (x.1, x.2.1, x.2.2) from by rw [← e8, hx8]; rfl] at i8
        exact g_to [0, 1, 2, 3, 4, 5] (i8) rfl rfl rfl
  refine g_to [0, 1, 2, 3, 4, 5] (L8 0 (by omega)) rfl rfl rfl
abbrev r_X11_flee : Room := { frames := 6, cells := 0, slots := 0, locals := 142 }
set_option maxHeartbeats 4000000 in
set_option maxRecDepth 100000 in
theorem k_X11_flee (l : Launch) (E : gE) (am : Nat → Nat) (ss sa : Nat) (M : gS) (ad : Nat → Nat) (S : gS) (h : Int) (hM : okM M) (hS : okS S) (hh : 0 ≤ h ∧ h < 10) : gK l E yX11_flee cX11_flee 5 none r_X11_flee [.ref (am 0), .ref (ad 0), .int (iI h)] (wM E am ss sa M ++ (wS E ad S)) (none) (wM E am ss sa (flM M S h) ++ (wS E ad (enS M (flS M S h) h))) := by
  refine gK_by RX11 rfl mX11_flee [(0, .ref (am 0)), (1, .ref (ad 0)), (2, .int (iI h))] (Nat.le_of_ble_eq_true rfl) rfl ?_
  intro zp ze zs zm za zb zh zc zA zQ C Z
  refine g_aload_n C dX11_flee_0 rfl 0 rfl ?_
  refine g_aload_n C dX11_flee_1 rfl 1 rfl ?_
  refine g_iload_n C dX11_flee_2 rfl 2 rfl ?_
  refine g_callV0 (As := [.ref (ad 0), .int (iI h)]) (rv := some (.int (iI (rfX M S h).2.1))) (w1 := wM E am ss sa (rfX M S h).1 ++ (wS E ad S)) (kc' := 0) (ks' := 0) C (k_X11_refugeFor l E am ss sa M ad S h hM hS (by omega)) mX11_refugeFor iX11_refugeFor wd1094 0 10 rfl rfl rfl rfl rfl (Nat.le_of_ble_eq_true rfl) ⟨Nat.le_of_ble_eq_true rfl, Nat.le_of_ble_eq_true rfl⟩ ⟨Nat.le_of_ble_eq_true rfl, Nat.le_of_ble_eq_true rfl⟩ rfl rfl dX11_flee_3 rfl ?_
  have n3 := (rfX_b (c := h) hM hS).2.2.1
  have m3 := okM_i3 hM
  refine g_istore_n (lv' := [(3, .int (iI (rfX M S h).2.1)), (0, .ref (am 0)), (1, .ref (ad 0)), (2, .int (iI h))]) C dX11_flee_6 rfl (by decide) rfl ?_
  refine g_iload_n C dX11_flee_7 rfl 0 rfl ?_
  refine g_iconst C dX11_flee_8 rfl ?_
  have J9 : gG E zp l ze r_X11_flee zs zm za zb zh zc zA 5 0 0 zQ (wM E am ss sa (flM M S h) ++ (wS E ad (flS M S h))) 41 [(3, .int (iI (rfX M S h).2.1)), (0, .ref (am 0)), (1, .ref (ad 0)), (2, .int (iI h))] [] := by
    have em41 : (flM M S h).2 3 = M.2 3 := congrFun (okM_flM (c := h) hM hS).2 3
    have en41 : (flM M S h).2 4 = M.2 4 := congrFun (okM_flM (c := h) hM hS).2 4
    have ff41 := okM_i3 hM
    refine g_aload_n C dX11_flee_41 rfl 2 rfl ?_
    refine g_getN (v := .ref (ad 6)) (T := TX10) (N := 10) (ci := 9) C rfl in_X10 6 rfl rfl 7 (by decide) (by decide +kernel) rfl rfl dX11_flee_42 rfl ?_
    refine g_iconst C dX11_flee_45 rfl ?_
    refine g_aload_n C dX11_flee_46 rfl 1 rfl ?_
    refine g_get (v := .int (iI ((flM M S h).2 3))) (T := TX11) (N := 13) (ci := 10) C in_X11 0 rfl rfl 4 (by decide) wd938 (Or.inl rfl) rfl dX11_flee_47 rfl ?_
    have f47 := okM_i3 (okM_flM (c := h) hM hS).1
    refine g_aload_n C dX11_flee_50 rfl 2 rfl ?_
    refine g_getN (v := .ref (ad 7)) (T := TX10) (N := 10) (ci := 9) C rfl in_X10 6 rfl rfl 8 (by decide) (by decide +kernel) rfl rfl dX11_flee_51 rfl ?_
    refine g_iconst C dX11_flee_54 rfl ?_
    refine g_iload_n C dX11_flee_55 rfl 3 rfl ?_
    refine g_imul C dX11_flee_56 rfl ?_
    refine g_iald (f := ((flS M S h).1 7)) C dX11_flee_57 rfl 13 rfl (by omega) (by decide) ?_
    have b57 := okS_70 (okS_flS (c := h) hM hS) h
    rw [show (flM M S h).2 3 = ((M.2 3).toNat : Int) from by omega]
    refine g_perm (ws1 := wS E ad (flS M S h) ++ (wM E am ss sa (flM M S h))) pm_10 ?_
    refine g_callSf (As := [.ref (ad 6), .int (iI (2)), .int (iI ((M.2 3).toNat : Int)), .int (iI (((flS M S h).1 7) ((4) * h)))]) (rv := some (.int (iI (hrM M (flS M S h) h)))) (w1 := wS E ad (flS M S h)) (kc' := 0) (ks' := 0) C (wM E am ss sa (flM M S h)) (k_X11_placeOf_refuge l E ad (flS M S h) (M.2 3).toNat ((flS M S h).1 7 (4 * h)) (okS_flS (c := h) hM hS) (by omega) (by omega)) mX11_placeOf wd1008 wd1007 rfl rfl (Nat.le_of_ble_eq_true rfl) ⟨Nat.le_of_ble_eq_true rfl, Nat.le_of_ble_eq_true rfl⟩ ⟨Nat.le_of_ble_eq_true rfl, Nat.le_of_ble_eq_true rfl⟩ rfl rfl rfl dX11_flee_58 rfl ?_
    refine g_perm (ws1 := wM E am ss sa (flM M S h) ++ (wS E ad (flS M S h))) pm_10 ?_
    have n58 : -1 ≤ hrM M (flS M S h) h ∧ hrM M (flS M S h) h < 4 := by have h9 := fst_b (fun j => (flS M S h).1 6 (2 * j)) ((flS M S h).1 7 (4 * h)) (M.2 3).toNat; unfold hrM; omega
    refine g_istore (lv' := [(4, .int (iI (hrM M (flS M S h) h))), (3, .int (iI (rfX M S h).2.1)), (0, .ref (am 0)), (1, .ref (ad 0)), (2, .int (iI h))]) C dX11_flee_61 rfl (by decide) rfl ?_
    refine g_iload C dX11_flee_63 rfl 0 rfl ?_
    refine g_iconst C dX11_flee_65 rfl ?_
    refine g_icmp_eq C dX11_flee_66 89 (by decide) rfl (by omega) (by omega) (fun c66 => ?_) (fun c66 => ?_)
    · skip
      exact z_vret C Z dX11_flee_89 rfl (by unfold enS; first | (rw [if_pos (by omega)]) | (rw [if_neg (by omega)]))
    · skip
      refine g_aload_n C dX11_flee_69 rfl 2 rfl ?_
      refine g_aload_n C dX11_flee_70 rfl 3 rfl ?_
      refine g_iload C dX11_flee_71 rfl 0 rfl ?_
      refine g_aload_n C dX11_flee_73 rfl 3 rfl ?_
      refine g_getN (v := .ref (ad 7)) (T := TX10) (N := 10) (ci := 9) C rfl in_X10 6 rfl rfl 8 (by decide) (by decide +kernel) rfl rfl dX11_flee_74 rfl ?_
      refine g_iconst C dX11_flee_77 rfl ?_
      refine g_iload_n C dX11_flee_78 rfl 4 rfl ?_
      refine g_imul C dX11_flee_79 rfl ?_
      refine g_iconst C dX11_flee_80 rfl ?_
      refine g_iadd C dX11_flee_81 rfl ?_
      refine g_iald (f := ((flS M S h).1 7)) C dX11_flee_82 rfl 13 rfl (by omega) (by decide) ?_
      have b82 := okS_71 (okS_flS (c := h) hM hS) h
      refine g_callV0 (As := [.ref (ad 0), .int (iI (hrM M (flS M S h) h)), .int (iI (((flS M S h).1 7) (((4) * h) + (1))))]) (rv := some (.int (iI (bI ((((flS M S h).1 7) (((4) * h) + (1))) ≤ ((flS M S h).1 6) (2 * (hrM M (flS M S h) h) + 1) - pinI (flS M S h) (hrM M (flS M S h) h) ((M.2 4)).toNat))))) (w1 := wM E am ss sa (flM M S h) ++ (wS E ad (flS M S h))) (kc' := 0) (ks' := 0) C (k_X11_hasRoom l E am ss sa (flM M S h) ad (flS M S h) (hrM M (flS M S h) h) (((flS M S h).1 7) (((4) * h) + (1))) (M.2 4) (okM_flM (c := h) hM hS).1 (okS_flS (c := h) hM hS) (by omega) (by omega) (by omega)) mX11_hasRoom iX11_hasRoom wd1098 0 10 rfl rfl rfl rfl rfl (Nat.le_of_ble_eq_true rfl) ⟨Nat.le_of_ble_eq_true rfl, Nat.le_of_ble_eq_true rfl⟩ ⟨Nat.le_of_ble_eq_true rfl, Nat.le_of_ble_eq_true rfl⟩ rfl rfl dX11_flee_83 rfl ?_
      have n83 := bI_w ((((flS M S h).1 7) (((4) * h) + (1))) ≤ ((flS M S h).1 6) (2 * (hrM M (flS M S h) h) + 1) - pinI (flS M S h) (hrM M (flS M S h) h) ((M.2 4)).toNat)
      refine g_if_ne C dX11_flee_86 90 (by decide) rfl (by omega) (fun c86 => ?_) (fun c86 => ?_)
      · skip
        refine g_aload_n C dX11_flee_90 rfl 3 rfl ?_
        refine g_getN (v := .ref (ad 7)) (T := TX10) (N := 10) (ci := 9) C rfl in_X10 6 rfl rfl 8 (by decide) (by decide +kernel) rfl rfl dX11_flee_91 rfl ?_
        refine g_iconst C dX11_flee_94 rfl ?_
        refine g_iload_n C dX11_flee_95 rfl 4 rfl ?_
        refine g_imul C dX11_flee_96 rfl ?_
        refine g_iconst C dX11_flee_97 rfl ?_
        refine g_iadd C dX11_flee_98 rfl ?_
        refine g_iconst C dX11_flee_99 rfl ?_
        refine g_iast (f := ((flS M S h).1 7)) (ws' := wM E am ss sa (flM M S h) ++ (wS E ad (setA (flS M S h) 7 (fset ((flS M S h).1 7) (((4) * h) + (2)) (2))))) C dX11_flee_100 rfl 13 rfl (by omega) (by decide) rfl ?_
        refine g_aload_n C dX11_flee_101 rfl 3 rfl ?_
        refine g_getN (v := .ref (ad 7)) (T := TX10) (N := 10) (ci := 9) C rfl in_X10 6 rfl rfl 8 (by decide) (by decide +kernel) rfl rfl dX11_flee_102 rfl ?_
        refine g_iconst C dX11_flee_105 rfl ?_
        refine g_iload_n C dX11_flee_106 rfl 4 rfl ?_
        refine g_imul C dX11_flee_107 rfl ?_
        refine g_iconst C dX11_flee_108 rfl ?_
        refine g_iadd C dX11_flee_109 rfl ?_
        refine g_iload C dX11_flee_110 rfl 0 rfl ?_
        refine g_iast (f := (fset ((flS M S h).1 7) (((4) * h) + (2)) (2))) (ws' := wM E am ss sa (flM M S h) ++ (wS E ad (setA (flS M S h) 7 (fset (fset ((flS M S h).1 7) (((4) * h) + (2)) (2)) (((4) * h) + (3)) (hrM M (flS M S h) h))))) C dX11_flee_112 rfl 13 rfl (by omega) (by decide) rfl ?_
        exact z_vret C Z dX11_flee_113 rfl (by unfold enS; first | (rw [if_pos (by omega)]) | (rw [if_neg (by omega)]))
      · skip
        exact z_vret C Z dX11_flee_89 rfl (by unfold enS; first | (rw [if_pos (by omega)]) | (rw [if_neg (by omega)]))
  refine g_icmp_eq C dX11_flee_9 41 (by decide) rfl (by omega) (by omega) (fun c9 => ?_) (fun c9 => ?_)
  · skip
    exact g_to [0, 1, 2, 3] (J9) (by unfold flM flS; first | (rw [if_pos (by omega), if_pos (by omega)]) | (rw [if_neg (by omega), if_neg (by omega)])) rfl rfl
  · skip
    refine g_aload_n C dX11_flee_12 rfl 2 rfl ?_
    refine g_getN (v := .ref (ad 7)) (T := TX10) (N := 10) (ci := 9) C rfl in_X10 6 rfl rfl 8 (by decide) (by decide +kernel) rfl rfl dX11_flee_13 rfl ?_
    refine g_iconst C dX11_flee_16 rfl ?_
    refine g_iload_n C dX11_flee_17 rfl 3 rfl ?_
    refine g_imul C dX11_flee_18 rfl ?_
    refine g_aload_n C dX11_flee_19 rfl 1 rfl ?_
    refine g_aload_n C dX11_flee_20 rfl 2 rfl ?_
    refine g_aload_n C dX11_flee_21 rfl 2 rfl ?_
    refine g_getN (v := .ref (ad 7)) (T := TX10) (N := 10) (ci := 9) C rfl in_X10 6 rfl rfl 8 (by decide) (by decide +kernel) rfl rfl dX11_flee_22 rfl ?_
    refine g_iconst C dX11_flee_25 rfl ?_
    refine g_iload_n C dX11_flee_26 rfl 3 rfl ?_
    refine g_imul C dX11_flee_27 rfl ?_
    refine g_iald (f := (S.1 7)) C dX11_flee_28 rfl 13 rfl (by omega) (by decide) ?_
    have b28 := okS_70 hS h
    refine g_aload_n C dX11_flee_29 rfl 2 rfl ?_
    refine g_getN (v := .ref (ad 6)) (T := TX10) (N := 10) (ci := 9) C rfl in_X10 6 rfl rfl 7 (by decide) (by decide +kernel) rfl rfl dX11_flee_30 rfl ?_
    refine g_iconst C dX11_flee_33 rfl ?_
    refine g_iload_n C dX11_flee_34 rfl 0 rfl ?_
    refine g_imul C dX11_flee_35 rfl ?_
    refine g_iald (f := (S.1 6)) C dX11_flee_36 rfl 12 rfl (by omega) (by decide) ?_
    have b36 := okS_60 hS ((rfX M S h).2.1)
    refine g_callV0 (As := [.ref (ad 0), .int (iI ((S.1 7) ((4) * h))), .int (iI ((S.1 6) ((2) * (rfX M S h).2.1)))]) (rv := some (.int (iI (dsC (S.1 3) ((S.1 7) ((4) * h)) ((S.1 6) ((2) * (rfX M S h).2.1)))))) (w1 := wM E am ss sa (stpM (rfX M S h).1 S ((S.1 7) ((4) * h)) ((S.1 6) ((2) * (rfX M S h).2.1))) ++ (wS E ad S)) (kc' := 0) (ks' := 0) C (k_X11_step l E am ss sa (rfX M S h).1 ad S ((S.1 7) ((4) * h)) ((S.1 6) ((2) * (rfX M S h).2.1)) (rfX_b (c := h) hM hS).1 hS (by omega) (by omega) (Or.inr ((rfX_b (c := h) hM hS).2.2.2.2 (by omega)))) mX11_step iX11_step wd1169 0 10 rfl rfl rfl rfl rfl (Nat.le_of_ble_eq_true rfl) ⟨Nat.le_of_ble_eq_true rfl, Nat.le_of_ble_eq_true rfl⟩ ⟨Nat.le_of_ble_eq_true rfl, Nat.le_of_ble_eq_true rfl⟩ rfl rfl dX11_flee_37 rfl ?_
    have n37 := dsC_b (w := (S.1 3)) (a := ((S.1 7) ((4) * h))) (b := ((S.1 6) ((2) * (rfX M S h).2.1))) (by omega) (Or.inr ((rfX_b (c := h) hM hS).2.2.2.2 (by omega)))
    refine g_iast (f := (S.1 7)) (ws' := wM E am ss sa (stpM (rfX M S h).1 S ((S.1 7) ((4) * h)) ((S.1 6) ((2) * (rfX M S h).2.1))) ++ (wS E ad (setA S 7 (fset (S.1 7) ((4) * h) (dsC (S.1 3) ((S.1 7) ((4) * h)) ((S.1 6) ((2) * (rfX M S h).2.1))))))) C dX11_flee_40 rfl 13 rfl (by omega) (by decide) rfl ?_
    exact g_to [0, 1, 2, 3] (J9) (by unfold flM flS; first | (rw [if_pos (by omega), if_pos (by omega)]) | (rw [if_neg (by omega), if_neg (by omega)])) rfl rfl
abbrev r_X11_drown : Room := { frames := 0, cells := 0, slots := 0, locals := 0 }
set_option maxHeartbeats 4000000 in
set_option maxRecDepth 100000 in
theorem k_X11_drown (l : Launch) (E : gE) (ad : Nat → Nat) (S : gS) (h : Int) (hS : okS S) (hh : 0 ≤ h ∧ h < 10) : gK l E yX11_drown cX11_drown 2 none r_X11_drown [.ref (ad 0), .int (iI h)] (wS E ad S) (none) (wS E ad (mdS S h)) := by
  refine gK_by RX11 rfl mX11_drown [(0, .ref (ad 0)), (1, .int (iI h))] (Nat.le_of_ble_eq_true rfl) rfl ?_
  intro zp ze zs zm za zb zh zc zA zQ C Z
  refine g_aload_n C dX11_drown_0 rfl 0 rfl ?_
  refine g_getN (v := .ref (ad 7)) (T := TX10) (N := 10) (ci := 9) C rfl in_X10 0 rfl rfl 8 (by decide) (by decide +kernel) rfl rfl dX11_drown_1 rfl ?_
  refine g_iconst C dX11_drown_4 rfl ?_
  refine g_iload_n C dX11_drown_5 rfl 1 rfl ?_
  refine g_imul C dX11_drown_6 rfl ?_
  refine g_iconst C dX11_drown_7 rfl ?_
  refine g_iadd C dX11_drown_8 rfl ?_
  refine g_iald (f := (S.1 7)) C dX11_drown_9 rfl 7 rfl (by omega) (by decide) ?_
  have b9 := okS_72 hS h
  refine g_iconst C dX11_drown_10 rfl ?_
  refine g_icmp_gt C dX11_drown_11 31 (by decide) rfl (by omega) (by omega) (fun c11 => ?_) (fun c11 => ?_)
  · skip
    exact z_vret C Z dX11_drown_31 rfl (by unfold mdS; first | (rw [if_pos (by omega)]) | (rw [if_neg (by omega), if_pos (by omega)]) | (rw [if_neg (by omega), if_neg (by omega)]))
  · skip
    refine g_aload_n C dX11_drown_14 rfl 0 rfl ?_
    refine g_getN (v := .ref (ad 3)) (T := TX10) (N := 10) (ci := 9) C rfl in_X10 0 rfl rfl 4 (by decide) (by decide +kernel) rfl rfl dX11_drown_15 rfl ?_
    refine g_aload_n C dX11_drown_18 rfl 0 rfl ?_
    refine g_getN (v := .ref (ad 7)) (T := TX10) (N := 10) (ci := 9) C rfl in_X10 0 rfl rfl 8 (by decide) (by decide +kernel) rfl rfl dX11_drown_19 rfl ?_
    refine g_iconst C dX11_drown_22 rfl ?_
    refine g_iload_n C dX11_drown_23 rfl 1 rfl ?_
    refine g_imul C dX11_drown_24 rfl ?_
    refine g_iald (f := (S.1 7)) C dX11_drown_25 rfl 7 rfl (by omega) (by decide) ?_
    have b25 := okS_70 hS h
    refine g_iald (f := (S.1 3)) C dX11_drown_26 rfl 3 rfl (by omega) (by decide) ?_
    have b26 := okS_3 hS ((S.1 7) ((4) * h))
    refine g_iconst C dX11_drown_27 rfl ?_
    refine g_icmp_ge C dX11_drown_28 32 (by decide) rfl (by omega) (by omega) (fun c28 => ?_) (fun c28 => ?_)
    · skip
      refine g_aload_n C dX11_drown_32 rfl 0 rfl ?_
      refine g_getN (v := .ref (ad 7)) (T := TX10) (N := 10) (ci := 9) C rfl in_X10 0 rfl rfl 8 (by decide) (by decide +kernel) rfl rfl dX11_drown_33 rfl ?_
      refine g_iconst C dX11_drown_36 rfl ?_
      refine g_iload_n C dX11_drown_37 rfl 1 rfl ?_
      refine g_imul C dX11_drown_38 rfl ?_
      refine g_iconst C dX11_drown_39 rfl ?_
      refine g_iadd C dX11_drown_40 rfl ?_
      refine g_dup2 C dX11_drown_41 rfl rfl rfl ?_
      refine g_iald (f := (S.1 7)) C dX11_drown_42 rfl 7 rfl (by omega) (by decide) ?_
      have b42 := okS_71 hS h
      refine g_iconst C dX11_drown_43 rfl ?_
      refine g_isub C dX11_drown_44 rfl ?_
      refine g_iast (f := (S.1 7)) (ws' := wS E ad (setA S 7 (fset (S.1 7) (((4) * h) + (1)) (((S.1 7) (((4) * h) + (1))) - (1))))) C dX11_drown_45 rfl 7 rfl (by omega) (by decide) rfl ?_
      refine g_aload_n C dX11_drown_46 rfl 0 rfl ?_
      refine g_dup C dX11_drown_47 rfl rfl ?_
      refine g_getN (v := .int (iI (S.2 1))) (T := TX10) (N := 10) (ci := 9) C rfl in_X10 0 rfl rfl 1 (by decide) (by decide +kernel) rfl rfl dX11_drown_48 rfl ?_
      refine g_iconst C dX11_drown_51 rfl ?_
      refine g_iadd C dX11_drown_52 rfl ?_
      refine g_putN (T := TX10) (N := 10) (ci := 9) (ws' := wS E ad (setI (setA S 7 (fset (S.1 7) (((4) * h) + (1)) (((S.1 7) (((4) * h) + (1))) - (1)))) 1 ((S.2 1) + (1)))) C rfl in_X10 tyX10 tyX10_ok nmX10 0 rfl rfl 1 (by decide) (by decide +kernel) rfl rfl (ty := .int) (by decide +kernel) rfl rfl (Nat.le_of_ble_eq_true rfl) rfl dX11_drown_53 rfl ?_
      refine g_aload_n C dX11_drown_56 rfl 0 rfl ?_
      refine g_getN (v := .ref (ad 7)) (T := TX10) (N := 10) (ci := 9) C rfl in_X10 0 rfl rfl 8 (by decide) (by decide +kernel) rfl rfl dX11_drown_57 rfl ?_
      refine g_iconst C dX11_drown_60 rfl ?_
      refine g_iload_n C dX11_drown_61 rfl 1 rfl ?_
      refine g_imul C dX11_drown_62 rfl ?_
      refine g_iconst C dX11_drown_63 rfl ?_
      refine g_iadd C dX11_drown_64 rfl ?_
      refine g_iald (f := (fset (S.1 7) (((4) * h) + (1)) (((S.1 7) (((4) * h) + (1))) - (1)))) C dX11_drown_65 rfl 7 rfl (by omega) (by decide) ?_
      have e66 : fset (S.1 7) (4 * h + 1) (S.1 7 (4 * h + 1) - 1) (4 * h + 1) = S.1 7 (4 * h + 1) - 1 := fset_same _ _ _
      refine g_if_ne C dX11_drown_66 80 (by decide) rfl (by omega) (fun c66 => ?_) (fun c66 => ?_)
      · skip
        exact z_vret C Z dX11_drown_80 rfl (by unfold mdS; first | (rw [if_pos (by omega)]) | (rw [if_neg (by omega), if_pos (by omega)]) | (rw [if_neg (by omega), if_neg (by omega)]))
      · skip
        refine g_aload_n C dX11_drown_69 rfl 0 rfl ?_
        refine g_getN (v := .ref (ad 7)) (T := TX10) (N := 10) (ci := 9) C rfl in_X10 0 rfl rfl 8 (by decide) (by decide +kernel) rfl rfl dX11_drown_70 rfl ?_
        refine g_iconst C dX11_drown_73 rfl ?_
        refine g_iload_n C dX11_drown_74 rfl 1 rfl ?_
        refine g_imul C dX11_drown_75 rfl ?_
        refine g_iconst C dX11_drown_76 rfl ?_
        refine g_iadd C dX11_drown_77 rfl ?_
        refine g_iconst C dX11_drown_78 rfl ?_
        refine g_iast (f := (fset (S.1 7) (((4) * h) + (1)) (((S.1 7) (((4) * h) + (1))) - (1)))) (ws' := wS E ad (setI (setA S 7 (fset (fset (S.1 7) (((4) * h) + (1)) (((S.1 7) (((4) * h) + (1))) - (1))) (((4) * h) + (2)) (3))) 1 ((S.2 1) + (1)))) C dX11_drown_79 rfl 7 rfl (by omega) (by decide) rfl ?_
        exact z_vret C Z dX11_drown_80 rfl (by unfold mdS; first | (rw [if_pos (by omega)]) | (rw [if_neg (by omega), if_pos (by omega)]) | (rw [if_neg (by omega), if_neg (by omega)]))
    · skip
      exact z_vret C Z dX11_drown_31 rfl (by unfold mdS; first | (rw [if_pos (by omega)]) | (rw [if_neg (by omega), if_pos (by omega)]) | (rw [if_neg (by omega), if_neg (by omega)]))
