abbrev r_X11_hour : Room := { frames := 7, cells := 0, slots := 0, locals := 166 }
set_option maxHeartbeats 4000000 in
set_option maxRecDepth 100000 in
theorem k_X11_hour (l : Launch) (E : gE) (am : Nat → Nat) (ss sa : Nat) (M : gS) (ad : Nat → Nat) (S : gS) (m : Int) (hM : okM M) (hS : okS S) (hm : M.2 4 = m) (hP : okP S m) (hh : 0 ≤ S.2 0 ∧ S.2 0 ≤ 2147483647) : gK l E yX11_hour cX11_hour 4 none r_X11_hour [.ref (am 0), .ref (ad 0)] (wM E am ss sa M ++ (wS E ad S)) (none) (wM E am ss sa (mHourM M S) ++ (wS E ad (mHourS M S))) := by
  refine gK_by RX11 rfl mX11_hour [(0, .ref (am 0)), (1, .ref (ad 0))] (Nat.le_of_ble_eq_true rfl) rfl ?_
  intro zp ze zs zm za zb zh zc zA zQ C Z
  subst hm
  refine g_iconst C dX11_hour_0 rfl ?_
  refine g_istore_n (lv' := [(2, .int (iI (0))), (0, .ref (am 0)), (1, .ref (ad 0))]) C dX11_hour_1 rfl (by decide) rfl ?_
  have L2 : ∀ k1 : Nat, k1 ≤ 10 → gG E zp l ze r_X11_hour zs zm za zb zh zc zA 4 0 0 zQ (wM E am ss sa M ++ (wS E ad (setA S 3 (itr (riseB (M.1 1 (S.2 0 % 12))) (S.1 3) k1)))) 2 [(2, .int (iI (k1 : Int))), (0, .ref (am 0)), (1, .ref (ad 0))] [] := by
    refine g_up (10) _ ?_
    intro k1 ih2 hk2
    obtain ⟨x1, hx2⟩ : ∃ z, z = itr (riseB (M.1 1 (S.2 0 % 12))) (S.1 3) k1 := ⟨_, rfl⟩
    rw [← hx2]
    refine g_iload_n C dX11_hour_2 rfl 0 rfl ?_
    refine g_bipush C dX11_hour_3 rfl rfl ?_
    refine g_icmp_ge C dX11_hour_5 32 (by decide) rfl (by omega) (by omega) (fun c5 => ?_) (fun c5 => ?_)
    · skip
      have hz2 : x1 = rise (M.1 1) (S.1 3) (S.2 0) := by rw [hx2, show k1 = 10 from by omega] <;> rfl
      refine g_to [0, 1, 2] (ws1 := wM E am ss sa M ++ (wS E ad (mRise M S))) ?_ (by rw [hz2]; rfl) rfl rfl
      refine g_aload_n C dX11_hour_32 rfl 1 rfl ?_
      refine g_aload_n C dX11_hour_33 rfl 2 rfl ?_
      refine g_callV0 (As := [.ref (ad 0)]) (rv := none) (w1 := wM E am ss sa (flowM M (mRise M S)) ++ (wS E ad (mflowS M (mRise M S)))) (kc' := 0) (ks' := 0) C (k_X11_flow l E am ss sa M ad (mRise M S) hM (okS_mRise hM hS)) mX11_flow iX11_flow wd1157 0 10 rfl rfl rfl rfl rfl (Nat.le_of_ble_eq_true rfl) ⟨Nat.le_of_ble_eq_true rfl, Nat.le_of_ble_eq_true rfl⟩ ⟨Nat.le_of_ble_eq_true rfl, Nat.le_of_ble_eq_true rfl⟩ rfl rfl dX11_hour_34 rfl ?_
      refine g_iconst C dX11_hour_37 rfl ?_
      refine g_istore_n (lv' := [(2, .int (iI (0))), (0, .ref (am 0)), (1, .ref (ad 0))]) C dX11_hour_38 rfl (by decide) rfl ?_
      have L39 : ∀ k2 : Nat, k2 ≤ (M.2 1).toNat → gG E zp l ze r_X11_hour zs zm za zb zh zc zA 4 0 0 zQ (wM E am ss sa (flowM M (mRise M S)) ++ (wS E ad (drI (mflowS M (mRise M S)) k2))) 39 [(2, .int (iI (k2 : Int))), (0, .ref (am 0)), (1, .ref (ad 0))] [] := by
        refine g_up ((M.2 1).toNat) _ ?_
        intro k2 ih39 hk39
        have iv39_0 := okS_drI (okS_mflow (M := M) (okS_mRise hM hS)) k2
        obtain ⟨x2, hx39⟩ : ∃ z, z = drI (mflowS M (mRise M S)) k2 := ⟨_, rfl⟩
        rw [← hx39]
        rw [← hx39] at iv39_0
        have em39 : (flowM M (mRise M S)).2 1 = M.2 1 := rfl
        have ff39 := okM_i1 hM
        refine g_iload_n C dX11_hour_39 rfl 0 rfl ?_
        refine g_aload_n C dX11_hour_40 rfl 1 rfl ?_
        refine g_get (v := .int (iI ((flowM M (mRise M S)).2 1))) (T := TX11) (N := 13) (ci := 10) C in_X11 0 rfl rfl 2 (by decide) wd936 (Or.inl rfl) rfl dX11_hour_41 rfl ?_
        have f41 := okM_i1 (okM_flow (S := (mRise M S)) hM (okS_mRise hM hS))
        refine g_icmp_ge C dX11_hour_44 59 (by decide) rfl (by omega) (by omega) (fun c44 => ?_) (fun c44 => ?_)
        · skip
          have hz39 : x2 = mWat M S := by rw [hx39, show k2 = (M.2 1).toNat from by omega] <;> rfl
          refine g_to [0, 1, 2] (ws1 := wM E am ss sa (mWatM M S) ++ (wS E ad (mWat M S))) ?_ (by rw [hz39]; rfl) rfl rfl
          refine g_aload_n C dX11_hour_59 rfl 1 rfl ?_
          refine g_aload_n C dX11_hour_60 rfl 2 rfl ?_
          refine g_callV0 (As := [.ref (ad 0)]) (rv := some (.int (iI (mRing (mWatM M S) (mWat M S))))) (w1 := wM E am ss sa (mWatM M S) ++ (wS E ad (mWat M S))) (kc' := 0) (ks' := 0) C (k_X11_ringing l E am ss sa (mWatM M S) ad (mWat M S) (okM_mWat hM hS) (okS_mWat hM hS)) mX11_ringing iX11_ringing wd1141 0 10 rfl rfl rfl rfl rfl (Nat.le_of_ble_eq_true rfl) ⟨Nat.le_of_ble_eq_true rfl, Nat.le_of_ble_eq_true rfl⟩ ⟨Nat.le_of_ble_eq_true rfl, Nat.le_of_ble_eq_true rfl⟩ rfl rfl dX11_hour_61 rfl ?_
          have n61 := mRing_b (M := (mWatM M S)) (S := (mWat M S)) (okM_mWat hM hS)
          have J64 : gG E zp l ze r_X11_hour zs zm za zb zh zc zA 4 0 0 zQ (wM E am ss sa (mWatM M S) ++ (wS E ad (mWat M S))) 72 [(2, .int (iI (k2 : Int))), (0, .ref (am 0)), (1, .ref (ad 0))] [.int (iI (bI (0 < mRing (mWatM M S) (mWat M S))))] := by
            refine g_istore_n (lv' := [(2, .int (iI (bI (0 < mRing (mWatM M S) (mWat M S))))), (0, .ref (am 0)), (1, .ref (ad 0))]) C dX11_hour_72 rfl (by decide) rfl ?_
            refine g_iconst C dX11_hour_73 rfl ?_
            refine g_istore_n (lv' := [(3, .int (iI (0))), (2, .int (iI (bI (0 < mRing (mWatM M S) (mWat M S))))), (0, .ref (am 0)), (1, .ref (ad 0))]) C dX11_hour_74 rfl (by decide) rfl ?_
            have L75 : ∀ k3 : Nat, k3 ≤ (M.2 5).toNat → gG E zp l ze r_X11_hour zs zm za zb zh zc zA 4 0 0 zQ (wM E am ss sa (mcxI (mWatM M S) (mWat M S) k3).1 ++ (wS E ad (mcxI (mWatM M S) (mWat M S) k3).2)) 75 [(3, .int (iI (k3 : Int))), (2, .int (iI (bI (0 < mRing (mWatM M S) (mWat M S))))), (0, .ref (am 0)), (1, .ref (ad 0))] [] := by
              refine g_up ((M.2 5).toNat) _ ?_
              intro k3 ih75 hk75
              have iv75_0 := mcx_b (okM_mWat hM hS) (okS_mWat hM hS) k3
              obtain ⟨x3, hx75⟩ : ∃ z, z = mcxI (mWatM M S) (mWat M S) k3 := ⟨_, rfl⟩
              rw [← hx75]
              rw [← hx75] at iv75_0
              have em75 : x3.1.2 5 = M.2 5 := congrFun iv75_0.2.2 5
              have ff75 := okM_i5 hM
              have nb75 := bI_w (0 < mRing (mWatM M S) (mWat M S))
              refine g_iload_n C dX11_hour_75 rfl 0 rfl ?_
              refine g_aload_n C dX11_hour_76 rfl 2 rfl ?_
              refine g_get (v := .int (iI (x3.1.2 5))) (T := TX11) (N := 13) (ci := 10) C in_X11 0 rfl rfl 6 (by decide) wd940 (Or.inl rfl) rfl dX11_hour_77 rfl ?_
              have f77 := okM_i5 iv75_0.1
              refine g_icmp_ge C dX11_hour_80 99 (by decide) rfl (by omega) (by omega) (fun c80 => ?_) (fun c80 => ?_)
              · skip
                have hz75 : x3 = mCld (mWatM M S) (mWat M S) := by first | (rw [hx75, show k3 = (M.2 5).toNat from by omega]; exact mcx_end (mWatM M S) (mWat M S)) | (rw [hx75, mcx_if]; unfold mCld; rw [if_neg (by omega), if_neg (by omega)])
                refine g_to [0, 1, 2, 3] (ws1 := wM E am ss sa (mCld (mWatM M S) (mWat M S)).1 ++ (wS E ad (mCld (mWatM M S) (mWat M S)).2)) ?_ (by rw [hz75]) rfl rfl
                refine g_iconst C dX11_hour_99 rfl ?_
                refine g_istore_n (lv' := [(3, .int (iI (0))), (2, .int (iI (bI (0 < mRing (mWatM M S) (mWat M S))))), (0, .ref (am 0)), (1, .ref (ad 0))]) C dX11_hour_100 rfl (by decide) rfl ?_
                have L101 : ∀ k4 : Nat, k4 ≤ (M.2 4).toNat → gG E zp l ze r_X11_hour zs zm za zb zh zc zA 4 0 0 zQ (wM E am ss sa (flI (mCld (mWatM M S) (mWat M S)).1 (mCld (mWatM M S) (mWat M S)).2 k4).1 ++ (wS E ad (flI (mCld (mWatM M S) (mWat M S)).1 (mCld (mWatM M S) (mWat M S)).2 k4).2)) 101 [(3, .int (iI (k4 : Int))), (2, .int (iI (bI (0 < mRing (mWatM M S) (mWat M S))))), (0, .ref (am 0)), (1, .ref (ad 0))] [] := by
                  refine g_up ((M.2 4).toNat) _ ?_
                  intro k4 ih101 hk101
                  have iv101_0 := flI_b (mCld_b (okM_mWat hM hS) (okS_mWat hM hS)).1 (mCld_b (okM_mWat hM hS) (okS_mWat hM hS)).2.1 k4
                  obtain ⟨x4, hx101⟩ : ∃ z, z = flI (mCld (mWatM M S) (mWat M S)).1 (mCld (mWatM M S) (mWat M S)).2 k4 := ⟨_, rfl⟩
                  rw [← hx101]
                  rw [← hx101] at iv101_0
                  have em101 : x4.1.2 4 = M.2 4 := congrFun (iv101_0.2.2.trans (mCld_b (okM_mWat hM hS) (okS_mWat hM hS)).2.2) 4
                  have ff101 := okM_i4 hM
                  refine g_iload_n C dX11_hour_101 rfl 0 rfl ?_
                  refine g_aload_n C dX11_hour_102 rfl 2 rfl ?_
                  refine g_get (v := .int (iI (x4.1.2 4))) (T := TX11) (N := 13) (ci := 10) C in_X11 0 rfl rfl 5 (by decide) wd939 (Or.inl rfl) rfl dX11_hour_103 rfl ?_
                  have f103 := okM_i4 iv101_0.1
                  refine g_icmp_ge C dX11_hour_106 135 (by decide) rfl (by omega) (by omega) (fun c106 => ?_) (fun c106 => ?_)
                  · skip
                    have hz101 : x4 = mHou (mWatM M S) (mWat M S) := by rw [hx101, show k4 = (M.2 4).toNat from by omega]; rfl
                    refine g_to [0, 1, 2, 3] (ws1 := wM E am ss sa (mHou (mWatM M S) (mWat M S)).1 ++ (wS E ad (mHou (mWatM M S) (mWat M S)).2)) ?_ (by rw [hz101]) rfl rfl
                    refine g_iconst C dX11_hour_135 rfl ?_
                    refine g_istore_n (lv' := [(3, .int (iI (0))), (2, .int (iI (bI (0 < mRing (mWatM M S) (mWat M S))))), (0, .ref (am 0)), (1, .ref (ad 0))]) C dX11_hour_136 rfl (by decide) rfl ?_
                    have L137 : ∀ k5 : Nat, k5 ≤ (M.2 4).toNat → gG E zp l ze r_X11_hour zs zm za zb zh zc zA 4 0 0 zQ (wM E am ss sa (mHou (mWatM M S) (mWat M S)).1 ++ (wS E ad (mdI (mHou (mWatM M S) (mWat M S)).2 k5))) 137 [(3, .int (iI (k5 : Int))), (2, .int (iI (bI (0 < mRing (mWatM M S) (mWat M S))))), (0, .ref (am 0)), (1, .ref (ad 0))] [] := by
                      refine g_up ((M.2 4).toNat) _ ?_
                      intro k5 ih137 hk137
                      have iv137_0 := drs_b (okM_i4 hM).1 (mHou_b (okM_mWat hM hS) (okS_mWat hM hS)).2.1 (mHou_P (M := (mWatM M S)) (okP_mWat hP)) k5 hk137
                      obtain ⟨x5, hx137⟩ : ∃ z, z = mdI (mHou (mWatM M S) (mWat M S)).2 k5 := ⟨_, rfl⟩
                      rw [← hx137]
                      rw [← hx137] at iv137_0
                      have em137 : (mHou (mWatM M S) (mWat M S)).1.2 4 = M.2 4 := congrFun (mHou_b (okM_mWat hM hS) (okS_mWat hM hS)).2.2 4
                      have ff137 := okM_i4 hM
                      refine g_iload_n C dX11_hour_137 rfl 0 rfl ?_
                      refine g_aload_n C dX11_hour_138 rfl 2 rfl ?_
                      refine g_get (v := .int (iI ((mHou (mWatM M S) (mWat M S)).1.2 4))) (T := TX11) (N := 13) (ci := 10) C in_X11 0 rfl rfl 5 (by decide) wd939 (Or.inl rfl) rfl dX11_hour_139 rfl ?_
                      have f139 := okM_i4 (mHou_b (okM_mWat hM hS) (okS_mWat hM hS)).1
                      refine g_icmp_ge C dX11_hour_142 156 (by decide) rfl (by omega) (by omega) (fun c142 => ?_) (fun c142 => ?_)
                      · skip
                        have hz137 : x5 = mDr M S := by rw [hx137, show k5 = (M.2 4).toNat from by omega] <;> rfl
                        refine g_aload_n C dX11_hour_156 rfl 3 rfl ?_
                        refine g_dup C dX11_hour_157 rfl rfl ?_
                        refine g_getN (v := .int (iI (x5.2 0))) (T := TX10) (N := 10) (ci := 9) C rfl in_X10 6 rfl rfl 0 (by decide) (by decide +kernel) rfl rfl dX11_hour_158 rfl ?_
                        refine g_iconst C dX11_hour_161 rfl ?_
                        refine g_iadd C dX11_hour_162 rfl ?_
                        refine g_putN (T := TX10) (N := 10) (ci := 9) (ws' := wM E am ss sa (mHou (mWatM M S) (mWat M S)).1 ++ (wS E ad (setI x5 0 ((x5.2 0) + (1))))) C rfl in_X10 tyX10 tyX10_ok nmX10 6 rfl rfl 0 (by decide) (by decide +kernel) rfl rfl (ty := .int) (by decide +kernel) rfl rfl (Nat.le_of_ble_eq_true rfl) rfl dX11_hour_163 rfl ?_
                        exact z_vret C Z dX11_hour_166 rfl (by rw [hz137]; rfl)
                      · skip
                        refine g_aload_n C dX11_hour_145 rfl 3 rfl ?_
                        refine g_iload_n C dX11_hour_146 rfl 0 rfl ?_
                        refine g_perm (ws1 := wS E ad x5 ++ (wM E am ss sa (mHou (mWatM M S) (mWat M S)).1)) pm_10 ?_
                        refine g_callSf (As := [.ref (ad 0), .int (iI (k5 : Int))]) (rv := none) (w1 := wS E ad (mdS x5 (k5 : Int))) (kc' := 0) (ks' := 0) C (wM E am ss sa (mHou (mWatM M S) (mWat M S)).1) (k_X11_drown l E ad x5 (k5 : Int) iv137_0.1 (by omega)) mX11_drown wd1184 wd1183 rfl rfl (Nat.le_of_ble_eq_true rfl) ⟨Nat.le_of_ble_eq_true rfl, Nat.le_of_ble_eq_true rfl⟩ ⟨Nat.le_of_ble_eq_true rfl, Nat.le_of_ble_eq_true rfl⟩ rfl rfl rfl dX11_hour_147 rfl ?_
                        refine g_perm (ws1 := wM E am ss sa (mHou (mWatM M S) (mWat M S)).1 ++ (wS E ad (mdS x5 (k5 : Int)))) pm_10 ?_
                        refine g_iinc (lv' := [(3, .int (iI ((k5 : Int) + 1))), (2, .int (iI (bI (0 < mRing (mWatM M S) (mWat M S))))), (0, .ref (am 0)), (1, .ref (ad 0))]) C dX11_hour_150 rfl 0 rfl (by decide) rfl ?_
                        refine g_goto C dX11_hour_153 137 (by decide) ?_
                        have e137 : mdB k5 x5 = (mdS x5 (k5 : Int)) := by
                          rfl
                        have i137 := ih137 (by omega)
                        rw [show mdI (mHou (mWatM M S) (mWat M S)).2 (k5 + 1) = (mdS x5 (k5 : Int)) from by rw [← e137, hx137]; rfl] at i137
                        exact g_to [0, 1, 2, 3] (i137) rfl rfl rfl
                    refine g_to [0, 1, 2, 3] (L137 0 (by omega)) rfl rfl rfl
                  · skip
                    refine g_aload_n C dX11_hour_109 rfl 3 rfl ?_
                    refine g_getN (v := .ref (ad 7)) (T := TX10) (N := 10) (ci := 9) C rfl in_X10 6 rfl rfl 8 (by decide) (by decide +kernel) rfl rfl dX11_hour_110 rfl ?_
                    refine g_iconst C dX11_hour_113 rfl ?_
                    refine g_iload_n C dX11_hour_114 rfl 0 rfl ?_
                    refine g_imul C dX11_hour_115 rfl ?_
                    refine g_iconst C dX11_hour_116 rfl ?_
                    refine g_iadd C dX11_hour_117 rfl ?_
                    refine g_iald (f := (x4.2.1 7)) C dX11_hour_118 rfl 13 rfl (by omega) (by decide) ?_
                    have b118 := okS_72 iv101_0.2.1 (k4 : Int)
                    refine g_iconst C dX11_hour_119 rfl ?_
                    refine g_icmp_ne C dX11_hour_120 129 (by decide) rfl (by omega) (by omega) (fun c120 => ?_) (fun c120 => ?_)
                    · skip
                      refine g_iinc (lv' := [(3, .int (iI ((k4 : Int) + 1))), (2, .int (iI (bI (0 < mRing (mWatM M S) (mWat M S))))), (0, .ref (am 0)), (1, .ref (ad 0))]) C dX11_hour_129 rfl 0 rfl (by decide) rfl ?_
                      refine g_goto C dX11_hour_132 101 (by decide) ?_
                      have e101 : flB k4 x4 = (x4.1, x4.2) := by
                        unfold flB
                        first | (rw [if_pos (by omega)] <;> rfl) | (rw [if_neg (by omega)] <;> rfl)
                      have i101 := ih101 (by omega)
                      rw [show flI (mCld (mWatM M S) (mWat M S)).1 (mCld (mWatM M S) (mWat M S)).2 (k4 + 1) = (x4.1, x4.2) from by rw [← e101, hx101]; rfl] at i101
                      exact g_to [0, 1, 2, 3] (i101) rfl rfl rfl
                    · skip
                      refine g_aload_n C dX11_hour_123 rfl 2 rfl ?_
                      refine g_aload_n C dX11_hour_124 rfl 3 rfl ?_
                      refine g_iload_n C dX11_hour_125 rfl 0 rfl ?_
                      refine g_callV0 (As := [.ref (ad 0), .int (iI (k4 : Int))]) (rv := none) (w1 := wM E am ss sa (flM x4.1 x4.2 (k4 : Int)) ++ (wS E ad (enS x4.1 (flS x4.1 x4.2 (k4 : Int)) (k4 : Int)))) (kc' := 0) (ks' := 0) C (k_X11_flee l E am ss sa x4.1 ad x4.2 (k4 : Int) iv101_0.1 iv101_0.2.1 (by omega)) mX11_flee iX11_flee wd1179 0 10 rfl rfl rfl rfl rfl (Nat.le_of_ble_eq_true rfl) ⟨Nat.le_of_ble_eq_true rfl, Nat.le_of_ble_eq_true rfl⟩ ⟨Nat.le_of_ble_eq_true rfl, Nat.le_of_ble_eq_true rfl⟩ rfl rfl dX11_hour_126 rfl ?_
                      refine g_iinc (lv' := [(3, .int (iI ((k4 : Int) + 1))), (2, .int (iI (bI (0 < mRing (mWatM M S) (mWat M S))))), (0, .ref (am 0)), (1, .ref (ad 0))]) C dX11_hour_129 rfl 0 rfl (by decide) rfl ?_
                      refine g_goto C dX11_hour_132 101 (by decide) ?_
                      have e101 : flB k4 x4 = ((flM x4.1 x4.2 (k4 : Int)), (enS x4.1 (flS x4.1 x4.2 (k4 : Int)) (k4 : Int))) := by
                        unfold flB
                        first | (rw [if_pos (by omega)] <;> rfl) | (rw [if_neg (by omega)] <;> rfl)
                      have i101 := ih101 (by omega)
                      rw [show flI (mCld (mWatM M S) (mWat M S)).1 (mCld (mWatM M S) (mWat M S)).2 (k4 + 1) = ((flM x4.1 x4.2 (k4 : Int)), (enS x4.1 (flS x4.1 x4.2 (k4 : Int)) (k4 : Int))) from by rw [← e101, hx101]; rfl] at i101
                      exact g_to [0, 1, 2, 3] (i101) rfl rfl rfl
                refine g_to [0, 1, 2, 3] (L101 0 (by omega)) rfl rfl rfl
              · skip
                refine g_iload_n C dX11_hour_83 rfl 1 rfl ?_
                refine g_if_eq C dX11_hour_84 99 (by decide) rfl (by omega) (fun c84 => ?_) (fun c84 => ?_)
                · skip
                  have hz75 : x3 = mCld (mWatM M S) (mWat M S) := by first | (rw [hx75, show k3 = (M.2 5).toNat from by omega]; exact mcx_end (mWatM M S) (mWat M S)) | (rw [hx75, mcx_if]; unfold mCld; rw [if_neg (by omega), if_neg (by omega)])
                  refine g_to [0, 1, 2, 3] (ws1 := wM E am ss sa (mCld (mWatM M S) (mWat M S)).1 ++ (wS E ad (mCld (mWatM M S) (mWat M S)).2)) ?_ (by rw [hz75]) rfl rfl
                  refine g_iconst C dX11_hour_99 rfl ?_
                  refine g_istore_n (lv' := [(3, .int (iI (0))), (2, .int (iI (bI (0 < mRing (mWatM M S) (mWat M S))))), (0, .ref (am 0)), (1, .ref (ad 0))]) C dX11_hour_100 rfl (by decide) rfl ?_
                  have L101 : ∀ k4 : Nat, k4 ≤ (M.2 4).toNat → gG E zp l ze r_X11_hour zs zm za zb zh zc zA 4 0 0 zQ (wM E am ss sa (flI (mCld (mWatM M S) (mWat M S)).1 (mCld (mWatM M S) (mWat M S)).2 k4).1 ++ (wS E ad (flI (mCld (mWatM M S) (mWat M S)).1 (mCld (mWatM M S) (mWat M S)).2 k4).2)) 101 [(3, .int (iI (k4 : Int))), (2, .int (iI (bI (0 < mRing (mWatM M S) (mWat M S))))), (0, .ref (am 0)), (1, .ref (ad 0))] [] := by
                    refine g_up ((M.2 4).toNat) _ ?_
                    intro k4 ih101 hk101
                    have iv101_0 := flI_b (mCld_b (okM_mWat hM hS) (okS_mWat hM hS)).1 (mCld_b (okM_mWat hM hS) (okS_mWat hM hS)).2.1 k4
                    obtain ⟨x4, hx101⟩ : ∃ z, z = flI (mCld (mWatM M S) (mWat M S)).1 (mCld (mWatM M S) (mWat M S)).2 k4 := ⟨_, rfl⟩
                    rw [← hx101]
                    rw [← hx101] at iv101_0
                    have em101 : x4.1.2 4 = M.2 4 := congrFun (iv101_0.2.2.trans (mCld_b (okM_mWat hM hS) (okS_mWat hM hS)).2.2) 4
                    have ff101 := okM_i4 hM
                    refine g_iload_n C dX11_hour_101 rfl 0 rfl ?_
                    refine g_aload_n C dX11_hour_102 rfl 2 rfl ?_
                    refine g_get (v := .int (iI (x4.1.2 4))) (T := TX11) (N := 13) (ci := 10) C in_X11 0 rfl rfl 5 (by decide) wd939 (Or.inl rfl) rfl dX11_hour_103 rfl ?_
                    have f103 := okM_i4 iv101_0.1
                    refine g_icmp_ge C dX11_hour_106 135 (by decide) rfl (by omega) (by omega) (fun c106 => ?_) (fun c106 => ?_)
                    · skip
                      have hz101 : x4 = mHou (mWatM M S) (mWat M S) := by rw [hx101, show k4 = (M.2 4).toNat from by omega]; rfl
                      refine g_to [0, 1, 2, 3] (ws1 := wM E am ss sa (mHou (mWatM M S) (mWat M S)).1 ++ (wS E ad (mHou (mWatM M S) (mWat M S)).2)) ?_ (by rw [hz101]) rfl rfl
                      refine g_iconst C dX11_hour_135 rfl ?_
                      refine g_istore_n (lv' := [(3, .int (iI (0))), (2, .int (iI (bI (0 < mRing (mWatM M S) (mWat M S))))), (0, .ref (am 0)), (1, .ref (ad 0))]) C dX11_hour_136 rfl (by decide) rfl ?_
                      have L137 : ∀ k5 : Nat, k5 ≤ (M.2 4).toNat → gG E zp l ze r_X11_hour zs zm za zb zh zc zA 4 0 0 zQ (wM E am ss sa (mHou (mWatM M S) (mWat M S)).1 ++ (wS E ad (mdI (mHou (mWatM M S) (mWat M S)).2 k5))) 137 [(3, .int (iI (k5 : Int))), (2, .int (iI (bI (0 < mRing (mWatM M S) (mWat M S))))), (0, .ref (am 0)), (1, .ref (ad 0))] [] := by
                        refine g_up ((M.2 4).toNat) _ ?_
                        intro k5 ih137 hk137
                        have iv137_0 := drs_b (okM_i4 hM).1 (mHou_b (okM_mWat hM hS) (okS_mWat hM hS)).2.1 (mHou_P (M := (mWatM M S)) (okP_mWat hP)) k5 hk137
                        obtain ⟨x5, hx137⟩ : ∃ z, z = mdI (mHou (mWatM M S) (mWat M S)).2 k5 := ⟨_, rfl⟩
                        rw [← hx137]
                        rw [← hx137] at iv137_0
                        have em137 : (mHou (mWatM M S) (mWat M S)).1.2 4 = M.2 4 := congrFun (mHou_b (okM_mWat hM hS) (okS_mWat hM hS)).2.2 4
                        have ff137 := okM_i4 hM
                        refine g_iload_n C dX11_hour_137 rfl 0 rfl ?_
                        refine g_aload_n C dX11_hour_138 rfl 2 rfl ?_
                        refine g_get (v := .int (iI ((mHou (mWatM M S) (mWat M S)).1.2 4))) (T := TX11) (N := 13) (ci := 10) C in_X11 0 rfl rfl 5 (by decide) wd939 (Or.inl rfl) rfl dX11_hour_139 rfl ?_
                        have f139 := okM_i4 (mHou_b (okM_mWat hM hS) (okS_mWat hM hS)).1
                        refine g_icmp_ge C dX11_hour_142 156 (by decide) rfl (by omega) (by omega) (fun c142 => ?_) (fun c142 => ?_)
                        · skip
                          have hz137 : x5 = mDr M S := by rw [hx137, show k5 = (M.2 4).toNat from by omega] <;> rfl
                          refine g_aload_n C dX11_hour_156 rfl 3 rfl ?_
                          refine g_dup C dX11_hour_157 rfl rfl ?_
                          refine g_getN (v := .int (iI (x5.2 0))) (T := TX10) (N := 10) (ci := 9) C rfl in_X10 6 rfl rfl 0 (by decide) (by decide +kernel) rfl rfl dX11_hour_158 rfl ?_
                          refine g_iconst C dX11_hour_161 rfl ?_
                          refine g_iadd C dX11_hour_162 rfl ?_
                          refine g_putN (T := TX10) (N := 10) (ci := 9) (ws' := wM E am ss sa (mHou (mWatM M S) (mWat M S)).1 ++ (wS E ad (setI x5 0 ((x5.2 0) + (1))))) C rfl in_X10 tyX10 tyX10_ok nmX10 6 rfl rfl 0 (by decide) (by decide +kernel) rfl rfl (ty := .int) (by decide +kernel) rfl rfl (Nat.le_of_ble_eq_true rfl) rfl dX11_hour_163 rfl ?_
                          exact z_vret C Z dX11_hour_166 rfl (by rw [hz137]; rfl)
                        · skip
                          refine g_aload_n C dX11_hour_145 rfl 3 rfl ?_
                          refine g_iload_n C dX11_hour_146 rfl 0 rfl ?_
                          refine g_perm (ws1 := wS E ad x5 ++ (wM E am ss sa (mHou (mWatM M S) (mWat M S)).1)) pm_10 ?_
                          refine g_callSf (As := [.ref (ad 0), .int (iI (k5 : Int))]) (rv := none) (w1 := wS E ad (mdS x5 (k5 : Int))) (kc' := 0) (ks' := 0) C (wM E am ss sa (mHou (mWatM M S) (mWat M S)).1) (k_X11_drown l E ad x5 (k5 : Int) iv137_0.1 (by omega)) mX11_drown wd1184 wd1183 rfl rfl (Nat.le_of_ble_eq_true rfl) ⟨Nat.le_of_ble_eq_true rfl, Nat.le_of_ble_eq_true rfl⟩ ⟨Nat.le_of_ble_eq_true rfl, Nat.le_of_ble_eq_true rfl⟩ rfl rfl rfl dX11_hour_147 rfl ?_
                          refine g_perm (ws1 := wM E am ss sa (mHou (mWatM M S) (mWat M S)).1 ++ (wS E ad (mdS x5 (k5 : Int)))) pm_10 ?_
                          refine g_iinc (lv' := [(3, .int (iI ((k5 : Int) + 1))), (2, .int (iI (bI (0 < mRing (mWatM M S) (mWat M S))))), (0, .ref (am 0)), (1, .ref (ad 0))]) C dX11_hour_150 rfl 0 rfl (by decide) rfl ?_
                          refine g_goto C dX11_hour_153 137 (by decide) ?_
                          have e137 : mdB k5 x5 = (mdS x5 (k5 : Int)) := by
                            rfl
                          have i137 := ih137 (by omega)
                          rw [show mdI (mHou (mWatM M S) (mWat M S)).2 (k5 + 1) = (mdS x5 (k5 : Int)) from by rw [← e137, hx137]; rfl] at i137
                          exact g_to [0, 1, 2, 3] (i137) rfl rfl rfl
                      refine g_to [0, 1, 2, 3] (L137 0 (by omega)) rfl rfl rfl
                    · skip
                      refine g_aload_n C dX11_hour_109 rfl 3 rfl ?_
                      refine g_getN (v := .ref (ad 7)) (T := TX10) (N := 10) (ci := 9) C rfl in_X10 6 rfl rfl 8 (by decide) (by decide +kernel) rfl rfl dX11_hour_110 rfl ?_
                      refine g_iconst C dX11_hour_113 rfl ?_
                      refine g_iload_n C dX11_hour_114 rfl 0 rfl ?_
                      refine g_imul C dX11_hour_115 rfl ?_
                      refine g_iconst C dX11_hour_116 rfl ?_
                      refine g_iadd C dX11_hour_117 rfl ?_
                      refine g_iald (f := (x4.2.1 7)) C dX11_hour_118 rfl 13 rfl (by omega) (by decide) ?_
                      have b118 := okS_72 iv101_0.2.1 (k4 : Int)
                      refine g_iconst C dX11_hour_119 rfl ?_
                      refine g_icmp_ne C dX11_hour_120 129 (by decide) rfl (by omega) (by omega) (fun c120 => ?_) (fun c120 => ?_)
                      · skip
                        refine g_iinc (lv' := [(3, .int (iI ((k4 : Int) + 1))), (2, .int (iI (bI (0 < mRing (mWatM M S) (mWat M S))))), (0, .ref (am 0)), (1, .ref (ad 0))]) C dX11_hour_129 rfl 0 rfl (by decide) rfl ?_
                        refine g_goto C dX11_hour_132 101 (by decide) ?_
                        have e101 : flB k4 x4 = (x4.1, x4.2) := by
                          unfold flB
                          first | (rw [if_pos (by omega)] <;> rfl) | (rw [if_neg (by omega)] <;> rfl)
                        have i101 := ih101 (by omega)
                        rw [show flI (mCld (mWatM M S) (mWat M S)).1 (mCld (mWatM M S) (mWat M S)).2 (k4 + 1) = (x4.1, x4.2) from by rw [← e101, hx101]; rfl] at i101
                        exact g_to [0, 1, 2, 3] (i101) rfl rfl rfl
                      · skip
                        refine g_aload_n C dX11_hour_123 rfl 2 rfl ?_
                        refine g_aload_n C dX11_hour_124 rfl 3 rfl ?_
                        refine g_iload_n C dX11_hour_125 rfl 0 rfl ?_
                        refine g_callV0 (As := [.ref (ad 0), .int (iI (k4 : Int))]) (rv := none) (w1 := wM E am ss sa (flM x4.1 x4.2 (k4 : Int)) ++ (wS E ad (enS x4.1 (flS x4.1 x4.2 (k4 : Int)) (k4 : Int)))) (kc' := 0) (ks' := 0) C (k_X11_flee l E am ss sa x4.1 ad x4.2 (k4 : Int) iv101_0.1 iv101_0.2.1 (by omega)) mX11_flee iX11_flee wd1179 0 10 rfl rfl rfl rfl rfl (Nat.le_of_ble_eq_true rfl) ⟨Nat.le_of_ble_eq_true rfl, Nat.le_of_ble_eq_true rfl⟩ ⟨Nat.le_of_ble_eq_true rfl, Nat.le_of_ble_eq_true rfl⟩ rfl rfl dX11_hour_126 rfl ?_
                        refine g_iinc (lv' := [(3, .int (iI ((k4 : Int) + 1))), (2, .int (iI (bI (0 < mRing (mWatM M S) (mWat M S))))), (0, .ref (am 0)), (1, .ref (ad 0))]) C dX11_hour_129 rfl 0 rfl (by decide) rfl ?_
                        refine g_goto C dX11_hour_132 101 (by decide) ?_
                        have e101 : flB k4 x4 = ((flM x4.1 x4.2 (k4 : Int)), (enS x4.1 (flS x4.1 x4.2 (k4 : Int)) (k4 : Int))) := by
                          unfold flB
                          first | (rw [if_pos (by omega)] <;> rfl) | (rw [if_neg (by omega)] <;> rfl)
                        have i101 := ih101 (by omega)
                        rw [show flI (mCld (mWatM M S) (mWat M S)).1 (mCld (mWatM M S) (mWat M S)).2 (k4 + 1) = ((flM x4.1 x4.2 (k4 : Int)), (enS x4.1 (flS x4.1 x4.2 (k4 : Int)) (k4 : Int))) from by rw [← e101, hx101]; rfl] at i101
                        exact g_to [0, 1, 2, 3] (i101) rfl rfl rfl
                  refine g_to [0, 1, 2, 3] (L101 0 (by omega)) rfl rfl rfl
                · skip
                  refine g_aload_n C dX11_hour_87 rfl 2 rfl ?_
                  refine g_aload_n C dX11_hour_88 rfl 3 rfl ?_
                  refine g_iload_n C dX11_hour_89 rfl 0 rfl ?_
                  refine g_callV0 (As := [.ref (ad 0), .int (iI (k3 : Int))]) (rv := none) (w1 := wM E am ss sa (mCallM x3.1 x3.2 (k3 : Int)) ++ (wS E ad (mCallS x3.1 x3.2 (k3 : Int)))) (kc' := 0) (ks' := 0) C (k_X11_call l E am ss sa x3.1 ad x3.2 (k3 : Int) iv75_0.1 iv75_0.2.1 (by omega)) mX11_call iX11_call wd1165 0 10 rfl rfl rfl rfl rfl (Nat.le_of_ble_eq_true rfl) ⟨Nat.le_of_ble_eq_true rfl, Nat.le_of_ble_eq_true rfl⟩ ⟨Nat.le_of_ble_eq_true rfl, Nat.le_of_ble_eq_true rfl⟩ rfl rfl dX11_hour_90 rfl ?_
                  refine g_iinc (lv' := [(3, .int (iI ((k3 : Int) + 1))), (2, .int (iI (bI (0 < mRing (mWatM M S) (mWat M S))))), (0, .ref (am 0)), (1, .ref (ad 0))]) C dX11_hour_93 rfl 0 rfl (by decide) rfl ?_
                  refine g_goto C dX11_hour_96 75 (by decide) ?_
                  have e75 : (mcxB (mWatM M S) (mWat M S)) k3 x3 = ((mCallM x3.1 x3.2 (k3 : Int)), (mCallS x3.1 x3.2 (k3 : Int))) := by
                    unfold mcxB
                    first | (rw [if_pos (by omega)] <;> rfl) | (rw [if_neg (by omega)] <;> rfl)
                  have i75 := ih75 (by omega)
                  rw [show mcxI (mWatM M S) (mWat M S) (k3 + 1) = ((mCallM x3.1 x3.2 (k3 : Int)), (mCallS x3.1 x3.2 (k3 : Int))) from by rw [← e75, hx75]; rfl] at i75
                  exact g_to [0, 1, 2, 3] (i75) rfl rfl rfl
            refine g_to [0, 1, 2, 3] (L75 0 (by omega)) rfl rfl rfl
          have rg64 := mRing_b (S := (mWat M S)) (okM_mWat hM hS)
          refine g_if_le C dX11_hour_64 71 (by decide) rfl (by omega) (fun c64 => ?_) (fun c64 => ?_)
          · skip
            refine g_iconst C dX11_hour_71 rfl ?_
            exact g_to [0, 1, 2] (J64) rfl rfl (by first | (rw [bI_t (by omega)] <;> rfl) | (rw [bI_f (by omega)] <;> rfl))
          · skip
            refine g_iconst C dX11_hour_67 rfl ?_
            refine g_goto C dX11_hour_68 72 (by decide) ?_
            exact g_to [0, 1, 2] (J64) rfl rfl (by first | (rw [bI_t (by omega)] <;> rfl) | (rw [bI_f (by omega)] <;> rfl))
        · skip
          refine g_aload_n C dX11_hour_47 rfl 1 rfl ?_
          refine g_aload_n C dX11_hour_48 rfl 2 rfl ?_
          refine g_iload_n C dX11_hour_49 rfl 0 rfl ?_
          refine g_callV0 (As := [.ref (ad 0), .int (iI (k2 : Int))]) (rv := none) (w1 := wM E am ss sa (flowM M (mRise M S)) ++ (wS E ad (drainS x2 (k2 : Int)))) (kc' := 0) (ks' := 0) C (k_X11_drain l E am ss sa (flowM M (mRise M S)) ad x2 (k2 : Int) iv39_0 (by omega)) mX11_drain iX11_drain wd1161 0 10 rfl rfl rfl rfl rfl (Nat.le_of_ble_eq_true rfl) ⟨Nat.le_of_ble_eq_true rfl, Nat.le_of_ble_eq_true rfl⟩ ⟨Nat.le_of_ble_eq_true rfl, Nat.le_of_ble_eq_true rfl⟩ rfl rfl dX11_hour_50 rfl ?_
          refine g_iinc (lv' := [(2, .int (iI ((k2 : Int) + 1))), (0, .ref (am 0)), (1, .ref (ad 0))]) C dX11_hour_53 rfl 0 rfl (by decide) rfl ?_
          refine g_goto C dX11_hour_56 39 (by decide) ?_
          have e39 : drB k2 x2 = (drainS x2 (k2 : Int)) := by
            rfl
          have i39 := ih39 (by omega)
          rw [show drI (mflowS M (mRise M S)) (k2 + 1) = (drainS x2 (k2 : Int)) from by rw [← e39, hx39]; rfl] at i39
          exact g_to [0, 1, 2] (i39) rfl rfl rfl
      refine g_to [0, 1, 2] (L39 0 (by omega)) rfl rfl rfl
    · skip
      refine g_aload_n C dX11_hour_8 rfl 2 rfl ?_
      refine g_getN (v := .ref (ad 3)) (T := TX10) (N := 10) (ci := 9) C rfl in_X10 6 rfl rfl 4 (by decide) (by decide +kernel) rfl rfl dX11_hour_9 rfl ?_
      refine g_iload_n C dX11_hour_12 rfl 0 rfl ?_
      refine g_aload_n C dX11_hour_13 rfl 1 rfl ?_
      refine g_get (v := .ref (am 1)) (T := TX11) (N := 13) (ci := 10) C in_X11 0 rfl rfl 1 (by decide) wd935 (Or.inl rfl) rfl dX11_hour_14 rfl ?_
      refine g_aload_n C dX11_hour_17 rfl 2 rfl ?_
      refine g_getN (v := .int (iI (S.2 0))) (T := TX10) (N := 10) (ci := 9) C rfl in_X10 6 rfl rfl 0 (by decide) (by decide +kernel) rfl rfl dX11_hour_18 rfl ?_
      refine g_bipush C dX11_hour_21 rfl rfl ?_
      refine g_irem C dX11_hour_23 rfl (by omega) (by omega) ?_
      refine g_iald (f := (M.1 1)) C dX11_hour_24 rfl 1 rfl (by omega) (by decide) ?_
      have b24 := okM_1 hM ((S.2 0) % (12))
      refine g_iast (f := x1) (ws' := wM E am ss sa M ++ (wS E ad (setA S 3 (fset x1 (k1 : Int) ((M.1 1) ((S.2 0) % (12))))))) C dX11_hour_25 rfl 9 rfl (by omega) (by decide) rfl ?_
      refine g_iinc (lv' := [(2, .int (iI ((k1 : Int) + 1))), (0, .ref (am 0)), (1, .ref (ad 0))]) C dX11_hour_26 rfl 0 rfl (by decide) rfl ?_
      refine g_goto C dX11_hour_29 2 (by decide) ?_
      have e2 : (riseB (M.1 1 (S.2 0 % 12))) k1 x1 = (fset x1 (k1 : Int) ((M.1 1) ((S.2 0) % (12)))) := by
        rfl
      have i2 := ih2 (by omega)
      rw [show itr (riseB (M.1 1 (S.2 0 % 12))) (S.1 3) (k1 + 1) = (fset x1 (k1 : Int) ((M.1 1) ((S.2 0) % (12)))) from by rw [← e2, hx2]; rfl] at i2
      exact g_to [0, 1, 2] (i2) rfl rfl rfl
  refine g_to [0, 1, 2] (L2 0 (by omega)) rfl rfl rfl
abbrev r_X11_hours : Room := { frames := 8, cells := 0, slots := 0, locals := 189 }
set_option maxHeartbeats 4000000 in
set_option maxRecDepth 100000 in
theorem k_X11_hours (l : Launch) (E : gE) (am : Nat → Nat) (ss sa : Nat) (M : gS) (ad : Nat → Nat) (S : gS) (n m : Int) (hM : okM M) (hS : okS S) (hm : M.2 4 = m) (hP : okP S m) (hh : 0 ≤ S.2 0 ∧ 0 ≤ n ∧ S.2 0 + n ≤ 2147483647) : gK l E yX11_hours cX11_hours 4 none r_X11_hours [.ref (am 0), .ref (ad 0), .int (iI n)] (wM E am ss sa M ++ (wS E ad S)) (none) (wM E am ss sa (mhsI M S n.toNat).1 ++ (wS E ad (mhsI M S n.toNat).2)) := by
  refine gK_by RX11 rfl mX11_hours [(0, .ref (am 0)), (1, .ref (ad 0)), (2, .int (iI n))] (Nat.le_of_ble_eq_true rfl) rfl ?_
  intro zp ze zs zm za zb zh zc zA zQ C Z
  subst hm
  refine g_iconst C dX11_hours_0 rfl ?_
  refine g_istore_n (lv' := [(3, .int (iI (0))), (0, .ref (am 0)), (1, .ref (ad 0)), (2, .int (iI n))]) C dX11_hours_1 rfl (by decide) rfl ?_
  have L2 : ∀ k9 : Nat, k9 ≤ n.toNat → gG E zp l ze r_X11_hours zs zm za zb zh zc zA 4 0 0 zQ (wM E am ss sa (mhsI M S k9).1 ++ (wS E ad (mhsI M S k9).2)) 2 [(3, .int (iI (k9 : Int))), (0, .ref (am 0)), (1, .ref (ad 0)), (2, .int (iI n))] [] := by
    refine g_up (n.toNat) _ ?_
    intro k9 ih2 hk2
    have iv2_0 := mhsI_b hM hS hP k9
    obtain ⟨x, hx2⟩ : ∃ z, z = mhsI M S k9 := ⟨_, rfl⟩
    rw [← hx2]
    rw [← hx2] at iv2_0
    have em2 : x.1.2 4 = M.2 4 := congrFun iv2_0.2.2.2.1 4
    have eh2 := iv2_0.2.2.2.2
    refine g_iload_n C dX11_hours_2 rfl 0 rfl ?_
    refine g_iload_n C dX11_hours_3 rfl 3 rfl ?_
    refine g_icmp_ge C dX11_hours_4 18 (by decide) rfl (by omega) (by omega) (fun c4 => ?_) (fun c4 => ?_)
    · skip
      have hz2 : x = mhsI M S n.toNat := by rw [hx2, show k9 = n.toNat from by omega]
      exact z_vret C Z dX11_hours_18 rfl (by rw [hz2])
    · skip
      refine g_aload_n C dX11_hours_7 rfl 1 rfl ?_
      refine g_aload_n C dX11_hours_8 rfl 2 rfl ?_
      refine g_callV0 (As := [.ref (ad 0)]) (rv := none) (w1 := wM E am ss sa (mHourM x.1 x.2) ++ (wS E ad (mHourS x.1 x.2))) (kc' := 0) (ks' := 0) C (k_X11_hour l E am ss sa x.1 ad x.2 (M.2 4) iv2_0.1 iv2_0.2.1 (by omega) iv2_0.2.2.1 (by omega)) mX11_hour iX11_hour wd1153 0 10 rfl rfl rfl rfl rfl (Nat.le_of_ble_eq_true rfl) ⟨Nat.le_of_ble_eq_true rfl, Nat.le_of_ble_eq_true rfl⟩ ⟨Nat.le_of_ble_eq_true rfl, Nat.le_of_ble_eq_true rfl⟩ rfl rfl dX11_hours_9 rfl ?_
      refine g_iinc (lv' := [(3, .int (iI ((k9 : Int) + 1))), (0, .ref (am 0)), (1, .ref (ad 0)), (2, .int (iI n))]) C dX11_hours_12 rfl 0 rfl (by decide) rfl ?_
      refine g_goto C dX11_hours_15 2 (by decide) ?_
      have e2 : mhsB k9 x = ((mHourM x.1 x.2), (mHourS x.1 x.2)) := by
        rfl
      have i2 := ih2 (by omega)
      rw [show mhsI M S (k9 + 1) = ((mHourM x.1 x.2), (mHourS x.1 x.2)) from by rw [← e2, hx2]; rfl] at i2
      exact g_to [0, 1, 2, 3] (i2) rfl rfl rfl
  refine g_to [0, 1, 2, 3] (L2 0 (by omega)) rfl rfl rfl
