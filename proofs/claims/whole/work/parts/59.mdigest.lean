abbrev r_X11_digest : Room := { frames := 8, cells := 490, slots := 2980, locals := 186 }
set_option maxHeartbeats 4000000 in
set_option maxRecDepth 100000 in
theorem k_X11_digest (l : Launch) (E : gE) (am : Nat → Nat) (sa : Nat) (M : gS) (ad : Nat → Nat) (S : gS) (hM : okM M) (hS : okS S) : gK l E yX11_digest cX11_digest 7 (some .long) r_X11_digest [.ref (am 0)] (wM E am (ad 0) sa M ++ (wS E ad S)) (some (.long (dg8 (setI M 0 0) S))) (wM E am (ad 0) sa (dg7 (setI M 0 0) S).2 ++ (wS E ad S)) := by
  refine gK_by RX11 rfl mX11_digest [(0, .ref (am 0))] (Nat.le_of_ble_eq_true rfl) rfl ?_
  intro zp ze zs zm za zb zh zc zA zQ C Z
  refine g_aload_n C dX11_digest_0 rfl 0 rfl ?_
  refine g_iconst C dX11_digest_1 rfl ?_
  refine g_put (T := TX11) (N := 13) (ci := 10) (ws' := wM E am (ad 0) sa (setI M 0 (0)) ++ (wS E ad S)) C in_X11 tyX11 tyX11_ok nmX11 0 rfl rfl 0 (by decide) wd934 (Or.inl rfl) rfl (ty := .int) (by decide +kernel) rfl rfl (Nat.le_of_ble_eq_true rfl) rfl dX11_digest_2 rfl ?_
  refine g_ldc2 C wd1222 dX11_digest_5 rfl ?_
  refine g_lstore_n (lv' := [(1, .long (1013 : Int64)), (0, .ref (am 0))]) C dX11_digest_8 rfl (by decide) rfl ?_
  refine g_iconst C dX11_digest_9 rfl ?_
  refine g_istore_n (lv' := [(3, .int (iI (0))), (1, .long (1013 : Int64)), (0, .ref (am 0))]) C dX11_digest_10 rfl (by decide) rfl ?_
  have L11 : ∀ k1 : Nat, k1 ≤ 10 → gG E zp l ze r_X11_digest zs zm za zb zh zc zA 7 (k1) (10 * k1) zQ (wM E am (ad 0) sa (setI M 0 (0)) ++ (wS E ad S)) 11 [(3, .int (iI (k1 : Int))), (1, .long (dgI (mCnt (setI M 0 0) S) (1013) k1)), (0, .ref (am 0))] [] := by
    refine g_up (10) _ ?_
    intro k1 ih11 hk11
    obtain ⟨x1, hx11⟩ : ∃ z, z = dgI (mCnt (setI M 0 0) S) (1013) k1 := ⟨_, rfl⟩
    rw [← hx11]
    refine g_iload_n C dX11_digest_11 rfl 0 rfl ?_
    refine g_bipush C dX11_digest_12 rfl rfl ?_
    refine g_icmp_ge C dX11_digest_14 36 (by decide) rfl (by omega) (by omega) (fun c14 => ?_) (fun c14 => ?_)
    · skip
      have hz11 : x1 = dg1 (setI M 0 0) S := by rw [hx11, show k1 = 10 from by omega]; rfl
      refine g_widen (kc' := 10) (ks' := 100) (by omega) (by omega) ?_
      refine g_to [0, 1, 2] (lv1 := [(3, .int (iI (k1 : Int))), (1, .long (dg1 (setI M 0 0) S)), (0, .ref (am 0))]) ?_ rfl (by rw [hz11]; rfl) rfl
      refine g_iconst C dX11_digest_36 rfl ?_
      refine g_istore_n (lv' := [(3, .int (iI (0))), (1, .long (dg1 (setI M 0 0) S)), (0, .ref (am 0))]) C dX11_digest_37 rfl (by decide) rfl ?_
      have L38 : ∀ k2 : Nat, k2 ≤ 480 → gG E zp l ze r_X11_digest zs zm za zb zh zc zA 7 (10 + k2) (100 + 6 * k2) zQ (wM E am (ad 0) sa (setI M 0 (0)) ++ (wS E ad S)) 38 [(3, .int (iI (k2 : Int))), (1, .long (dgI (fun k => mCel S ((setI M 0 0).2 4).toNat (k / 6) (k % 6)) (dg1 (setI M 0 0) S) k2)), (0, .ref (am 0))] [] := by
        refine g_up (480) _ ?_
        intro k2 ih38 hk38
        obtain ⟨x2, hx38⟩ : ∃ z, z = dgI (fun k => mCel S ((setI M 0 0).2 4).toNat (k / 6) (k % 6)) (dg1 (setI M 0 0) S) k2 := ⟨_, rfl⟩
        rw [← hx38]
        refine g_iload_n C dX11_digest_38 rfl 0 rfl ?_
        refine g_sipush C dX11_digest_39 rfl rfl ?_
        refine g_icmp_ge C dX11_digest_42 71 (by decide) rfl (by omega) (by omega) (fun c42 => ?_) (fun c42 => ?_)
        · skip
          have hz38 : x2 = dg2 (setI M 0 0) S := by rw [hx38, show k2 = 480 from by omega]; rfl
          refine g_widen (kc' := 490) (ks' := 2980) (by omega) (by omega) ?_
          refine g_to [0, 1, 2] (lv1 := [(3, .int (iI (k2 : Int))), (1, .long (dg2 (setI M 0 0) S)), (0, .ref (am 0))]) ?_ rfl (by rw [hz38]; rfl) rfl
          refine g_aload_n C dX11_digest_71 rfl 2 rfl ?_
          refine g_get (v := .ref (am 1)) (T := TX11) (N := 13) (ci := 10) C in_X11 0 rfl rfl 1 (by decide) wd935 (Or.inl rfl) rfl dX11_digest_72 rfl ?_
          refine g_astore_n (lv' := [(3, .ref (am 1)), (1, .long (dg2 (setI M 0 0) S)), (0, .ref (am 0))]) C dX11_digest_75 rfl (by decide) rfl ?_
          refine g_aload_n C dX11_digest_76 rfl 0 rfl ?_
          refine g_alen (n := 12) (f := (M.1 1)) C 1 rfl dX11_digest_77 rfl ?_
          refine g_istore (lv' := [(4, .int (iI (12))), (3, .ref (am 1)), (1, .long (dg2 (setI M 0 0) S)), (0, .ref (am 0))]) C dX11_digest_78 rfl (by decide) rfl ?_
          refine g_iconst C dX11_digest_80 rfl ?_
          refine g_istore (lv' := [(5, .int (iI (0))), (4, .int (iI (12))), (3, .ref (am 1)), (1, .long (dg2 (setI M 0 0) S)), (0, .ref (am 0))]) C dX11_digest_81 rfl (by decide) rfl ?_
          have L83 : ∀ k3 : Nat, k3 ≤ 12 → gG E zp l ze r_X11_digest zs zm za zb zh zc zA 7 490 2980 zQ (wM E am (ad 0) sa (setI M 0 (0)) ++ (wS E ad S)) 83 [(5, .int (iI (k3 : Int))), (4, .int (iI (12))), (3, .ref (am 1)), (1, .long (dgI ((setI M 0 0).1 1) (dg2 (setI M 0 0) S) k3)), (0, .ref (am 0))] [] := by
            refine g_up (12) _ ?_
            intro k3 ih83 hk83
            obtain ⟨x3, hx83⟩ : ∃ z, z = dgI ((setI M 0 0).1 1) (dg2 (setI M 0 0) S) k3 := ⟨_, rfl⟩
            rw [← hx83]
            refine g_iload C dX11_digest_83 rfl 0 rfl ?_
            refine g_iload C dX11_digest_85 rfl 1 rfl ?_
            refine g_icmp_ge C dX11_digest_87 112 (by decide) rfl (by omega) (by omega) (fun c87 => ?_) (fun c87 => ?_)
            · skip
              have hz83 : x3 = dg3 (setI M 0 0) S := by rw [hx83, show k3 = 12 from by omega]; rfl
              refine g_to [0, 1, 2, 3, 4] (lv1 := [(5, .int (iI (k3 : Int))), (4, .int (iI (12))), (3, .ref (am 1)), (1, .long (dg3 (setI M 0 0) S)), (0, .ref (am 0))]) ?_ rfl (by rw [hz83]; rfl) rfl
              refine g_iconst C dX11_digest_112 rfl ?_
              refine g_istore_n (lv' := [(3, .int (iI (0))), (5, .int (iI (k3 : Int))), (4, .int (iI (12))), (1, .long (dg3 (setI M 0 0) S)), (0, .ref (am 0))]) C dX11_digest_113 rfl (by decide) rfl ?_
              have L114 : ∀ k4 : Nat, k4 ≤ (6 * M.2 1).toNat → gG E zp l ze r_X11_digest zs zm za zb zh zc zA 7 490 2980 zQ (wM E am (ad 0) sa (setI M 0 (0)) ++ (wS E ad S)) 114 [(3, .int (iI (k4 : Int))), (1, .long (dgI (fun k => mPmp S (k / 6) (k % 6)) (dg3 (setI M 0 0) S) k4)), (0, .ref (am 0))] [] := by
                refine g_up ((6 * M.2 1).toNat) _ ?_
                intro k4 ih114 hk114
                obtain ⟨x4, hx114⟩ : ∃ z, z = dgI (fun k => mPmp S (k / 6) (k % 6)) (dg3 (setI M 0 0) S) k4 := ⟨_, rfl⟩
                rw [← hx114]
                have ff114 := okM_i1 hM
                refine g_iload_n C dX11_digest_114 rfl 0 rfl ?_
                refine g_bipush C dX11_digest_115 rfl rfl ?_
                refine g_aload_n C dX11_digest_117 rfl 2 rfl ?_
                refine g_get (v := .int (iI (M.2 1))) (T := TX11) (N := 13) (ci := 10) C in_X11 0 rfl rfl 2 (by decide) wd936 (Or.inl rfl) rfl dX11_digest_118 rfl ?_
                have f118 := okM_i1 hM
                refine g_imul C dX11_digest_121 rfl ?_
                refine g_icmp_ge C dX11_digest_122 151 (by decide) rfl (by omega) (by omega) (fun c122 => ?_) (fun c122 => ?_)
                · skip
                  have hz114 : x4 = dg4 (setI M 0 0) S := by rw [hx114, show k4 = (6 * M.2 1).toNat from by omega]; rfl
                  refine g_to [0, 1, 2] (lv1 := [(3, .int (iI (k4 : Int))), (1, .long (dg4 (setI M 0 0) S)), (0, .ref (am 0))]) ?_ rfl (by rw [hz114]; rfl) rfl
                  refine g_iconst C dX11_digest_151 rfl ?_
                  refine g_istore_n (lv' := [(3, .int (iI (0))), (1, .long (dg4 (setI M 0 0) S)), (0, .ref (am 0))]) C dX11_digest_152 rfl (by decide) rfl ?_
                  have L153 : ∀ k5 : Nat, k5 ≤ (5 * M.2 2).toNat → gG E zp l ze r_X11_digest zs zm za zb zh zc zA 7 490 2980 zQ (wM E am (ad 0) sa (setI M 0 (0)) ++ (wS E ad S)) 153 [(3, .int (iI (k5 : Int))), (1, .long (dgI (fun k => mGau S (k / 5) (k % 5)) (dg4 (setI M 0 0) S) k5)), (0, .ref (am 0))] [] := by
                    refine g_up ((5 * M.2 2).toNat) _ ?_
                    intro k5 ih153 hk153
                    obtain ⟨x5, hx153⟩ : ∃ z, z = dgI (fun k => mGau S (k / 5) (k % 5)) (dg4 (setI M 0 0) S) k5 := ⟨_, rfl⟩
                    rw [← hx153]
                    have ff153 := okM_i2 hM
                    refine g_iload_n C dX11_digest_153 rfl 0 rfl ?_
                    refine g_iconst C dX11_digest_154 rfl ?_
                    refine g_aload_n C dX11_digest_155 rfl 2 rfl ?_
                    refine g_get (v := .int (iI (M.2 2))) (T := TX11) (N := 13) (ci := 10) C in_X11 0 rfl rfl 3 (by decide) wd937 (Or.inl rfl) rfl dX11_digest_156 rfl ?_
                    have f156 := okM_i2 hM
                    refine g_imul C dX11_digest_159 rfl ?_
                    refine g_icmp_ge C dX11_digest_160 187 (by decide) rfl (by omega) (by omega) (fun c160 => ?_) (fun c160 => ?_)
                    · skip
                      have hz153 : x5 = dg5 (setI M 0 0) S := by rw [hx153, show k5 = (5 * M.2 2).toNat from by omega]; rfl
                      refine g_to [0, 1, 2] (lv1 := [(3, .int (iI (k5 : Int))), (1, .long (dg5 (setI M 0 0) S)), (0, .ref (am 0))]) ?_ rfl (by rw [hz153]; rfl) rfl
                      refine g_iconst C dX11_digest_187 rfl ?_
                      refine g_istore_n (lv' := [(3, .int (iI (0))), (1, .long (dg5 (setI M 0 0) S)), (0, .ref (am 0))]) C dX11_digest_188 rfl (by decide) rfl ?_
                      have L189 : ∀ k6 : Nat, k6 ≤ (5 * M.2 3).toNat → gG E zp l ze r_X11_digest zs zm za zb zh zc zA 7 490 2980 zQ (wM E am (ad 0) sa (setI M 0 (0)) ++ (wS E ad S)) 189 [(3, .int (iI (k6 : Int))), (1, .long (dgI (fun k => mRef S ((setI M 0 0).2 4).toNat (k / 5) (k % 5)) (dg5 (setI M 0 0) S) k6)), (0, .ref (am 0))] [] := by
                        refine g_up ((5 * M.2 3).toNat) _ ?_
                        intro k6 ih189 hk189
                        obtain ⟨x6, hx189⟩ : ∃ z, z = dgI (fun k => mRef S ((setI M 0 0).2 4).toNat (k / 5) (k % 5)) (dg5 (setI M 0 0) S) k6 := ⟨_, rfl⟩
                        rw [← hx189]
                        have ff189 := okM_i3 hM
                        refine g_iload_n C dX11_digest_189 rfl 0 rfl ?_
                        refine g_iconst C dX11_digest_190 rfl ?_
                        refine g_aload_n C dX11_digest_191 rfl 2 rfl ?_
                        refine g_get (v := .int (iI (M.2 3))) (T := TX11) (N := 13) (ci := 10) C in_X11 0 rfl rfl 4 (by decide) wd938 (Or.inl rfl) rfl dX11_digest_192 rfl ?_
                        have f192 := okM_i3 hM
                        refine g_imul C dX11_digest_195 rfl ?_
                        refine g_icmp_ge C dX11_digest_196 223 (by decide) rfl (by omega) (by omega) (fun c196 => ?_) (fun c196 => ?_)
                        · skip
                          have hz189 : x6 = dg6 (setI M 0 0) S := by rw [hx189, show k6 = (5 * M.2 3).toNat from by omega]; rfl
                          refine g_to [0, 1, 2] (lv1 := [(3, .int (iI (k6 : Int))), (1, .long (dg6 (setI M 0 0) S)), (0, .ref (am 0))]) ?_ rfl (by rw [hz189]; rfl) rfl
                          refine g_iconst C dX11_digest_223 rfl ?_
                          refine g_istore_n (lv' := [(3, .int (iI (0))), (1, .long (dg6 (setI M 0 0) S)), (0, .ref (am 0))]) C dX11_digest_224 rfl (by decide) rfl ?_
                          have L225 : ∀ k7 : Nat, k7 ≤ (5 * M.2 4).toNat → gG E zp l ze r_X11_digest zs zm za zb zh zc zA 7 490 2980 zQ (wM E am (ad 0) sa (dhI (setI M 0 0) S (dg6 (setI M 0 0) S) k7).2 ++ (wS E ad S)) 225 [(3, .int (iI (k7 : Int))), (1, .long (dhI (setI M 0 0) S (dg6 (setI M 0 0) S) k7).1), (0, .ref (am 0))] [] := by
                            refine g_up ((5 * M.2 4).toNat) _ ?_
                            intro k7 ih225 hk225
                            have iv225_0 := dhI_b (M := (setI M 0 0)) (d := dg6 (setI M 0 0) S) (okM_j0 (S := M) hM) hS k7
                            obtain ⟨x7, hx225⟩ : ∃ z, z = dhI (setI M 0 0) S (dg6 (setI M 0 0) S) k7 := ⟨_, rfl⟩
                            rw [← hx225]
                            rw [← hx225] at iv225_0
                            have em225 : x7.2.2 4 = M.2 4 := congrFun iv225_0.2 4
                            have ff225 := okM_i4 hM
                            refine g_iload_n C dX11_digest_225 rfl 0 rfl ?_
                            refine g_iconst C dX11_digest_226 rfl ?_
                            refine g_aload_n C dX11_digest_227 rfl 2 rfl ?_
                            refine g_get (v := .int (iI (x7.2.2 4))) (T := TX11) (N := 13) (ci := 10) C in_X11 0 rfl rfl 5 (by decide) wd939 (Or.inl rfl) rfl dX11_digest_228 rfl ?_
                            have f228 := okM_i4 iv225_0.1
                            refine g_imul C dX11_digest_231 rfl ?_
                            refine g_icmp_ge C dX11_digest_232 259 (by decide) rfl (by omega) (by omega) (fun c232 => ?_) (fun c232 => ?_)
                            · skip
                              have hz225 : x7 = dg7 (setI M 0 0) S := by rw [hx225, show k7 = (5 * M.2 4).toNat from by omega]; rfl
                              have k79 := dhI_b (M := (setI M 0 0)) (d := dg6 (setI M 0 0) S) (okM_j0 (S := M) hM) hS (5 * M.2 4).toNat
                              refine g_to [0, 1, 2] (ws1 := wM E am (ad 0) sa (dg7 (setI M 0 0) S).2 ++ (wS E ad S)) (lv1 := [(3, .int (iI (k7 : Int))), (1, .long (dg7 (setI M 0 0) S).1), (0, .ref (am 0))]) ?_ (by rw [hz225]) (by rw [hz225]; rfl) rfl
                              refine g_iconst C dX11_digest_259 rfl ?_
                              refine g_istore_n (lv' := [(3, .int (iI (0))), (1, .long (dg7 (setI M 0 0) S).1), (0, .ref (am 0))]) C dX11_digest_260 rfl (by decide) rfl ?_
                              have L261 : ∀ k8 : Nat, k8 ≤ (3 * M.2 5).toNat → gG E zp l ze r_X11_digest zs zm za zb zh zc zA 7 490 2980 zQ (wM E am (ad 0) sa (dg7 (setI M 0 0) S).2 ++ (wS E ad S)) 261 [(3, .int (iI (k8 : Int))), (1, .long (dgI (fun k => mCtl S (k / 3) (k % 3)) ((dg7 (setI M 0 0) S).1) k8)), (0, .ref (am 0))] [] := by
                                refine g_up ((3 * M.2 5).toNat) _ ?_
                                intro k8 ih261 hk261
                                obtain ⟨x8, hx261⟩ : ∃ z, z = dgI (fun k => mCtl S (k / 3) (k % 3)) ((dg7 (setI M 0 0) S).1) k8 := ⟨_, rfl⟩
                                rw [← hx261]
                                have ff261 := okM_i5 hM
                                have em261 : (dg7 (setI M 0 0) S).2.2 5 = M.2 5 := congrFun k79.2 5
                                refine g_iload_n C dX11_digest_261 rfl 0 rfl ?_
                                refine g_iconst C dX11_digest_262 rfl ?_
                                refine g_aload_n C dX11_digest_263 rfl 2 rfl ?_
                                refine g_get (v := .int (iI ((dg7 (setI M 0 0) S).2.2 5))) (T := TX11) (N := 13) (ci := 10) C in_X11 0 rfl rfl 6 (by decide) wd940 (Or.inl rfl) rfl dX11_digest_264 rfl ?_
                                have f264 := okM_i5 k79.1
                                refine g_imul C dX11_digest_267 rfl ?_
                                refine g_icmp_ge C dX11_digest_268 295 (by decide) rfl (by omega) (by omega) (fun c268 => ?_) (fun c268 => ?_)
                                · skip
                                  have hz261 : x8 = dg8 (setI M 0 0) S := by rw [hx261, show k8 = (3 * M.2 5).toNat from by omega]; rfl
                                  refine g_lload_n C dX11_digest_295 rfl 1 rfl ?_
                                  exact z_lret C Z dX11_digest_296 (by rw [hz261]) rfl
                                · skip
                                  refine g_lload_n C dX11_digest_271 rfl 1 rfl ?_
                                  refine g_ldc2 C wd1223 dX11_digest_272 rfl ?_
                                  refine g_lmul C dX11_digest_275 rfl ?_
                                  refine g_aload_n C dX11_digest_276 rfl 2 rfl ?_
                                  refine g_iload_n C dX11_digest_277 rfl 0 rfl ?_
                                  refine g_iconst C dX11_digest_278 rfl ?_
                                  refine g_idiv C dX11_digest_279 rfl (by omega) (by omega) ?_
                                  refine g_iload_n C dX11_digest_280 rfl 0 rfl ?_
                                  refine g_iconst C dX11_digest_281 rfl ?_
                                  refine g_irem C dX11_digest_282 rfl (by omega) (by omega) ?_
                                  refine g_callV0 (As := [.int (iI ((k8 : Int) / (3))), .int (iI ((k8 : Int) % (3)))]) (rv := some (.int (iI (mCtl S ((k8 : Int) / (3)) ((k8 : Int) % (3)))))) (w1 := wM E am (ad 0) sa (dg7 (setI M 0 0) S).2 ++ (wS E ad S)) (kc' := 490) (ks' := 2980) C (k_X11_callerTold l E am sa ((dg7 (setI M 0 0) S).2) ad S ((k8 : Int) / (3)) ((k8 : Int) % (3)) k79.1 hS (by omega) (by omega)) mX11_callerTold iX11_callerTold wd1121 0 10 rfl rfl rfl rfl rfl (Nat.le_of_ble_eq_true rfl) ⟨Nat.le_of_ble_eq_true rfl, Nat.le_of_ble_eq_true rfl⟩ ⟨Nat.le_of_ble_eq_true rfl, Nat.le_of_ble_eq_true rfl⟩ rfl rfl dX11_digest_283 rfl ?_
                                  refine g_i2l C dX11_digest_286 rfl ?_
                                  refine g_ladd C dX11_digest_287 rfl ?_
                                  refine g_lstore_n (lv' := [(1, .long ((x8 * (31 : Int64)) + (lI (mCtl S ((k8 : Int) / (3)) ((k8 : Int) % (3)))))), (3, .int (iI (k8 : Int))), (0, .ref (am 0))]) C dX11_digest_288 rfl (by decide) rfl ?_
                                  refine g_iinc (lv' := [(3, .int (iI ((k8 : Int) + 1))), (1, .long ((x8 * (31 : Int64)) + (lI (mCtl S ((k8 : Int) / (3)) ((k8 : Int) % (3)))))), (0, .ref (am 0))]) C dX11_digest_289 rfl 1 rfl (by decide) rfl ?_
                                  refine g_goto C dX11_digest_292 261 (by decide) ?_
                                  have e261 : (dgB (fun k => mCtl S (k / 3) (k % 3))) k8 x8 = ((x8 * (31 : Int64)) + (lI (mCtl S ((k8 : Int) / (3)) ((k8 : Int) % (3))))) := by
                                    rfl
                                  have i261 := ih261 (by omega)
                                  rw [show dgI (fun k => mCtl S (k / 3) (k % 3)) ((dg7 (setI M 0 0) S).1) (k8 + 1) = ((x8 * (31 : Int64)) + (lI (mCtl S ((k8 : Int) / (3)) ((k8 : Int) % (3))))) from by rw [← e261, hx261]; rfl] at i261
                                  exact g_to [0, 1, 2] (i261) rfl rfl rfl
                              refine g_to [0, 1, 2] (L261 0 (by omega)) rfl rfl rfl
                            · skip
                              refine g_lload_n C dX11_digest_235 rfl 1 rfl ?_
                              refine g_ldc2 C wd1223 dX11_digest_236 rfl ?_
                              refine g_lmul C dX11_digest_239 rfl ?_
                              refine g_aload_n C dX11_digest_240 rfl 2 rfl ?_
                              refine g_iload_n C dX11_digest_241 rfl 0 rfl ?_
                              refine g_iconst C dX11_digest_242 rfl ?_
                              refine g_idiv C dX11_digest_243 rfl (by omega) (by omega) ?_
                              refine g_iload_n C dX11_digest_244 rfl 0 rfl ?_
                              refine g_iconst C dX11_digest_245 rfl ?_
                              refine g_irem C dX11_digest_246 rfl (by omega) (by omega) ?_
                              refine g_callV0 (As := [.int (iI ((k7 : Int) / (5))), .int (iI ((k7 : Int) % (5)))]) (rv := some (.int (iI (mHtl x7.2 S ((k7 : Int) / (5)) ((k7 : Int) % (5)))))) (w1 := wM E am (ad 0) sa (mHtlM x7.2 S ((k7 : Int) / (5)) ((k7 : Int) % (5))) ++ (wS E ad S)) (kc' := 490) (ks' := 2980) C (k_X11_houseTold l E am sa x7.2 ad S ((k7 : Int) / (5)) ((k7 : Int) % (5)) iv225_0.1 hS (by omega) (by omega)) mX11_houseTold iX11_houseTold wd1086 0 10 rfl rfl rfl rfl rfl (Nat.le_of_ble_eq_true rfl) ⟨Nat.le_of_ble_eq_true rfl, Nat.le_of_ble_eq_true rfl⟩ ⟨Nat.le_of_ble_eq_true rfl, Nat.le_of_ble_eq_true rfl⟩ rfl rfl dX11_digest_247 rfl ?_
                              refine g_i2l C dX11_digest_250 rfl ?_
                              refine g_ladd C dX11_digest_251 rfl ?_
                              refine g_lstore_n (lv' := [(1, .long ((x7.1 * (31 : Int64)) + (lI (mHtl x7.2 S ((k7 : Int) / (5)) ((k7 : Int) % (5)))))), (3, .int (iI (k7 : Int))), (0, .ref (am 0))]) C dX11_digest_252 rfl (by decide) rfl ?_
                              refine g_iinc (lv' := [(3, .int (iI ((k7 : Int) + 1))), (1, .long ((x7.1 * (31 : Int64)) + (lI (mHtl x7.2 S ((k7 : Int) / (5)) ((k7 : Int) % (5)))))), (0, .ref (am 0))]) C dX11_digest_253 rfl 1 rfl (by decide) rfl ?_
                              refine g_goto C dX11_digest_256 225 (by decide) ?_
                              have e225 : (dhB S) k7 x7 = (((x7.1 * (31 : Int64)) + (lI (mHtl x7.2 S ((k7 : Int) / (5)) ((k7 : Int) % (5))))), (mHtlM x7.2 S ((k7 : Int) / (5)) ((k7 : Int) % (5)))) := by
                                rfl
                              have i225 := ih225 (by omega)
                              rw [show dhI (setI M 0 0) S (dg6 (setI M 0 0) S) (k7 + 1) = (((x7.1 * (31 : Int64)) + (lI (mHtl x7.2 S ((k7 : Int) / (5)) ((k7 : Int) % (5))))), (mHtlM x7.2 S ((k7 : Int) / (5)) ((k7 : Int) % (5)))) from by rw [← e225, hx225]; rfl] at i225
                              exact g_to [0, 1, 2] (i225) rfl rfl rfl
                          refine g_to [0, 1, 2] (L225 0 (by omega)) rfl rfl rfl
                        · skip
                          refine g_lload_n C dX11_digest_199 rfl 1 rfl ?_
                          refine g_ldc2 C wd1223 dX11_digest_200 rfl ?_
                          refine g_lmul C dX11_digest_203 rfl ?_
                          refine g_aload_n C dX11_digest_204 rfl 2 rfl ?_
                          refine g_iload_n C dX11_digest_205 rfl 0 rfl ?_
                          refine g_iconst C dX11_digest_206 rfl ?_
                          refine g_idiv C dX11_digest_207 rfl (by omega) (by omega) ?_
                          refine g_iload_n C dX11_digest_208 rfl 0 rfl ?_
                          refine g_iconst C dX11_digest_209 rfl ?_
                          refine g_irem C dX11_digest_210 rfl (by omega) (by omega) ?_
                          refine g_callV0 (As := [.int (iI ((k6 : Int) / (5))), .int (iI ((k6 : Int) % (5)))]) (rv := some (.int (iI (mRef S ((M.2 4)).toNat ((k6 : Int) / (5)) ((k6 : Int) % (5)))))) (w1 := wM E am (ad 0) sa (setI M 0 (0)) ++ (wS E ad S)) (kc' := 490) (ks' := 2980) C (k_X11_refugeTold l E am sa (setI M 0 (0)) ad S ((k6 : Int) / (5)) ((k6 : Int) % (5)) (okM_j0 (S := M) hM) hS (by omega) (by omega)) mX11_refugeTold iX11_refugeTold wd1074 0 10 rfl rfl rfl rfl rfl (Nat.le_of_ble_eq_true rfl) ⟨Nat.le_of_ble_eq_true rfl, Nat.le_of_ble_eq_true rfl⟩ ⟨Nat.le_of_ble_eq_true rfl, Nat.le_of_ble_eq_true rfl⟩ rfl rfl dX11_digest_211 rfl ?_
                          refine g_i2l C dX11_digest_214 rfl ?_
                          refine g_ladd C dX11_digest_215 rfl ?_
                          refine g_lstore_n (lv' := [(1, .long ((x6 * (31 : Int64)) + (lI (mRef S ((M.2 4)).toNat ((k6 : Int) / (5)) ((k6 : Int) % (5)))))), (3, .int (iI (k6 : Int))), (0, .ref (am 0))]) C dX11_digest_216 rfl (by decide) rfl ?_
                          refine g_iinc (lv' := [(3, .int (iI ((k6 : Int) + 1))), (1, .long ((x6 * (31 : Int64)) + (lI (mRef S ((M.2 4)).toNat ((k6 : Int) / (5)) ((k6 : Int) % (5)))))), (0, .ref (am 0))]) C dX11_digest_217 rfl 1 rfl (by decide) rfl ?_
                          refine g_goto C dX11_digest_220 189 (by decide) ?_
                          have e189 : (dgB (fun k => mRef S ((setI M 0 0).2 4).toNat (k / 5) (k % 5))) k6 x6 = ((x6 * (31 : Int64)) + (lI (mRef S ((M.2 4)).toNat ((k6 : Int) / (5)) ((k6 : Int) % (5))))) := by
                            rfl
                          have i189 := ih189 (by omega)
                          rw [show dgI (fun k => mRef S ((setI M 0 0).2 4).toNat (k / 5) (k % 5)) (dg5 (setI M 0 0) S) (k6 + 1) = ((x6 * (31 : Int64)) + (lI (mRef S ((M.2 4)).toNat ((k6 : Int) / (5)) ((k6 : Int) % (5))))) from by rw [← e189, hx189]; rfl] at i189
                          exact g_to [0, 1, 2] (i189) rfl rfl rfl
                      refine g_to [0, 1, 2] (L189 0 (by omega)) rfl rfl rfl
                    · skip
                      refine g_lload_n C dX11_digest_163 rfl 1 rfl ?_
                      refine g_ldc2 C wd1223 dX11_digest_164 rfl ?_
                      refine g_lmul C dX11_digest_167 rfl ?_
                      refine g_aload_n C dX11_digest_168 rfl 2 rfl ?_
                      refine g_iload_n C dX11_digest_169 rfl 0 rfl ?_
                      refine g_iconst C dX11_digest_170 rfl ?_
                      refine g_idiv C dX11_digest_171 rfl (by omega) (by omega) ?_
                      refine g_iload_n C dX11_digest_172 rfl 0 rfl ?_
                      refine g_iconst C dX11_digest_173 rfl ?_
                      refine g_irem C dX11_digest_174 rfl (by omega) (by omega) ?_
                      refine g_callV0 (As := [.int (iI ((k5 : Int) / (5))), .int (iI ((k5 : Int) % (5)))]) (rv := some (.int (iI (mGau S ((k5 : Int) / (5)) ((k5 : Int) % (5)))))) (w1 := wM E am (ad 0) sa (setI M 0 (0)) ++ (wS E ad S)) (kc' := 490) (ks' := 2980) C (k_X11_gaugeTold l E am sa (setI M 0 (0)) ad S ((k5 : Int) / (5)) ((k5 : Int) % (5)) (okM_j0 (S := M) hM) hS (by omega) (by omega)) mX11_gaugeTold iX11_gaugeTold wd1062 0 10 rfl rfl rfl rfl rfl (Nat.le_of_ble_eq_true rfl) ⟨Nat.le_of_ble_eq_true rfl, Nat.le_of_ble_eq_true rfl⟩ ⟨Nat.le_of_ble_eq_true rfl, Nat.le_of_ble_eq_true rfl⟩ rfl rfl dX11_digest_175 rfl ?_
                      refine g_i2l C dX11_digest_178 rfl ?_
                      refine g_ladd C dX11_digest_179 rfl ?_
                      refine g_lstore_n (lv' := [(1, .long ((x5 * (31 : Int64)) + (lI (mGau S ((k5 : Int) / (5)) ((k5 : Int) % (5)))))), (3, .int (iI (k5 : Int))), (0, .ref (am 0))]) C dX11_digest_180 rfl (by decide) rfl ?_
                      refine g_iinc (lv' := [(3, .int (iI ((k5 : Int) + 1))), (1, .long ((x5 * (31 : Int64)) + (lI (mGau S ((k5 : Int) / (5)) ((k5 : Int) % (5)))))), (0, .ref (am 0))]) C dX11_digest_181 rfl 1 rfl (by decide) rfl ?_
                      refine g_goto C dX11_digest_184 153 (by decide) ?_
                      have e153 : (dgB (fun k => mGau S (k / 5) (k % 5))) k5 x5 = ((x5 * (31 : Int64)) + (lI (mGau S ((k5 : Int) / (5)) ((k5 : Int) % (5))))) := by
                        rfl
                      have i153 := ih153 (by omega)
                      rw [show dgI (fun k => mGau S (k / 5) (k % 5)) (dg4 (setI M 0 0) S) (k5 + 1) = ((x5 * (31 : Int64)) + (lI (mGau S ((k5 : Int) / (5)) ((k5 : Int) % (5))))) from by rw [← e153, hx153]; rfl] at i153
                      exact g_to [0, 1, 2] (i153) rfl rfl rfl
                  refine g_to [0, 1, 2] (L153 0 (by omega)) rfl rfl rfl
                · skip
                  refine g_lload_n C dX11_digest_125 rfl 1 rfl ?_
                  refine g_ldc2 C wd1223 dX11_digest_126 rfl ?_
                  refine g_lmul C dX11_digest_129 rfl ?_
                  refine g_aload_n C dX11_digest_130 rfl 2 rfl ?_
                  refine g_iload_n C dX11_digest_131 rfl 0 rfl ?_
                  refine g_bipush C dX11_digest_132 rfl rfl ?_
                  refine g_idiv C dX11_digest_134 rfl (by omega) (by omega) ?_
                  refine g_iload_n C dX11_digest_135 rfl 0 rfl ?_
                  refine g_bipush C dX11_digest_136 rfl rfl ?_
                  refine g_irem C dX11_digest_138 rfl (by omega) (by omega) ?_
                  refine g_callV0 (As := [.int (iI ((k4 : Int) / (6))), .int (iI ((k4 : Int) % (6)))]) (rv := some (.int (iI (mPmp S ((k4 : Int) / (6)) ((k4 : Int) % (6)))))) (w1 := wM E am (ad 0) sa (setI M 0 (0)) ++ (wS E ad S)) (kc' := 490) (ks' := 2980) C (k_X11_pumpTold l E am sa (setI M 0 (0)) ad S ((k4 : Int) / (6)) ((k4 : Int) % (6)) (okM_j0 (S := M) hM) hS (by omega) (by omega)) mX11_pumpTold iX11_pumpTold wd1054 0 10 rfl rfl rfl rfl rfl (Nat.le_of_ble_eq_true rfl) ⟨Nat.le_of_ble_eq_true rfl, Nat.le_of_ble_eq_true rfl⟩ ⟨Nat.le_of_ble_eq_true rfl, Nat.le_of_ble_eq_true rfl⟩ rfl rfl dX11_digest_139 rfl ?_
                  refine g_i2l C dX11_digest_142 rfl ?_
                  refine g_ladd C dX11_digest_143 rfl ?_
                  refine g_lstore_n (lv' := [(1, .long ((x4 * (31 : Int64)) + (lI (mPmp S ((k4 : Int) / (6)) ((k4 : Int) % (6)))))), (3, .int (iI (k4 : Int))), (0, .ref (am 0))]) C dX11_digest_144 rfl (by decide) rfl ?_
                  refine g_iinc (lv' := [(3, .int (iI ((k4 : Int) + 1))), (1, .long ((x4 * (31 : Int64)) + (lI (mPmp S ((k4 : Int) / (6)) ((k4 : Int) % (6)))))), (0, .ref (am 0))]) C dX11_digest_145 rfl 1 rfl (by decide) rfl ?_
                  refine g_goto C dX11_digest_148 114 (by decide) ?_
                  have e114 : (dgB (fun k => mPmp S (k / 6) (k % 6))) k4 x4 = ((x4 * (31 : Int64)) + (lI (mPmp S ((k4 : Int) / (6)) ((k4 : Int) % (6))))) := by
                    rfl
                  have i114 := ih114 (by omega)
                  rw [show dgI (fun k => mPmp S (k / 6) (k % 6)) (dg3 (setI M 0 0) S) (k4 + 1) = ((x4 * (31 : Int64)) + (lI (mPmp S ((k4 : Int) / (6)) ((k4 : Int) % (6))))) from by rw [← e114, hx114]; rfl] at i114
                  exact g_to [0, 1, 2] (i114) rfl rfl rfl
              refine g_to [0, 3, 4] (L114 0 (by omega)) rfl rfl rfl
            · skip
              refine g_aload_n C dX11_digest_90 rfl 2 rfl ?_
              refine g_iload C dX11_digest_91 rfl 0 rfl ?_
              refine g_iald (f := (M.1 1)) C dX11_digest_93 rfl 1 rfl (by omega) (by decide) ?_
              have b93 := okM_1 hM (k3 : Int)
              refine g_istore (lv' := [(6, .int (iI ((M.1 1) (k3 : Int)))), (5, .int (iI (k3 : Int))), (4, .int (iI (12))), (3, .ref (am 1)), (1, .long x3), (0, .ref (am 0))]) C dX11_digest_94 rfl (by decide) rfl ?_
              refine g_lload_n C dX11_digest_96 rfl 4 rfl ?_
              refine g_ldc2 C wd1223 dX11_digest_97 rfl ?_
              refine g_lmul C dX11_digest_100 rfl ?_
              refine g_iload C dX11_digest_101 rfl 0 rfl ?_
              refine g_i2l C dX11_digest_103 rfl ?_
              refine g_ladd C dX11_digest_104 rfl ?_
              refine g_lstore_n (lv' := [(1, .long ((x3 * (31 : Int64)) + (lI ((M.1 1) (k3 : Int))))), (6, .int (iI ((M.1 1) (k3 : Int)))), (5, .int (iI (k3 : Int))), (4, .int (iI (12))), (3, .ref (am 1)), (0, .ref (am 0))]) C dX11_digest_105 rfl (by decide) rfl ?_
              refine g_iinc (lv' := [(5, .int (iI ((k3 : Int) + 1))), (1, .long ((x3 * (31 : Int64)) + (lI ((M.1 1) (k3 : Int))))), (6, .int (iI ((M.1 1) (k3 : Int)))), (4, .int (iI (12))), (3, .ref (am 1)), (0, .ref (am 0))]) C dX11_digest_106 rfl 2 rfl (by decide) rfl ?_
              refine g_goto C dX11_digest_109 83 (by decide) ?_
              have e83 : (dgB ((setI M 0 0).1 1)) k3 x3 = ((x3 * (31 : Int64)) + (lI ((M.1 1) (k3 : Int)))) := by
                rfl
              have i83 := ih83 (by omega)
              rw [show dgI ((setI M 0 0).1 1) (dg2 (setI M 0 0) S) (k3 + 1) = ((x3 * (31 : Int64)) + (lI ((M.1 1) (k3 : Int)))) from by rw [← e83, hx83]; rfl] at i83
              exact g_to [0, 3, 4, 1, 5] (i83) rfl rfl rfl
          refine g_to [0, 1, 2, 3, 4] (L83 0 (by omega)) rfl rfl rfl
        · skip
          refine g_lload_n C dX11_digest_45 rfl 1 rfl ?_
          refine g_ldc2 C wd1223 dX11_digest_46 rfl ?_
          refine g_lmul C dX11_digest_49 rfl ?_
          refine g_aload_n C dX11_digest_50 rfl 2 rfl ?_
          refine g_iload_n C dX11_digest_51 rfl 0 rfl ?_
          refine g_bipush C dX11_digest_52 rfl rfl ?_
          refine g_idiv C dX11_digest_54 rfl (by omega) (by omega) ?_
          refine g_iload_n C dX11_digest_55 rfl 0 rfl ?_
          refine g_bipush C dX11_digest_56 rfl rfl ?_
          refine g_irem C dX11_digest_58 rfl (by omega) (by omega) ?_
          refine g_callV0 (As := [.int (iI ((k2 : Int) / (6))), .int (iI ((k2 : Int) % (6)))]) (rv := some (.int (iI (mCel S ((M.2 4)).toNat ((k2 : Int) / (6)) ((k2 : Int) % (6)))))) (w1 := wM E am (ad 0) sa (setI M 0 (0)) ++ (wS E ad S)) (kc' := ((10 + k2) + 1)) (ks' := ((100 + 6 * k2) + 6)) C (k_X11_cellTold l E am sa (setI M 0 (0)) ad S ((k2 : Int) / (6)) ((k2 : Int) % (6)) (okM_j0 (S := M) hM) hS (by omega) (by omega)) mX11_cellTold iX11_cellTold wd1034 0 10 rfl rfl rfl rfl rfl (Nat.le_of_ble_eq_true rfl) ⟨Nat.le_of_ble_eq_true rfl, Nat.le_of_ble_eq_true rfl⟩ ⟨by show ((10 + k2) + 1) ≤ 490; omega, by show ((100 + 6 * k2) + 6) ≤ 2980; omega⟩ rfl rfl dX11_digest_59 rfl ?_
          refine g_i2l C dX11_digest_62 rfl ?_
          refine g_ladd C dX11_digest_63 rfl ?_
          refine g_lstore_n (lv' := [(1, .long ((x2 * (31 : Int64)) + (lI (mCel S ((M.2 4)).toNat ((k2 : Int) / (6)) ((k2 : Int) % (6)))))), (3, .int (iI (k2 : Int))), (0, .ref (am 0))]) C dX11_digest_64 rfl (by decide) rfl ?_
          refine g_iinc (lv' := [(3, .int (iI ((k2 : Int) + 1))), (1, .long ((x2 * (31 : Int64)) + (lI (mCel S ((M.2 4)).toNat ((k2 : Int) / (6)) ((k2 : Int) % (6)))))), (0, .ref (am 0))]) C dX11_digest_65 rfl 1 rfl (by decide) rfl ?_
          refine g_goto C dX11_digest_68 38 (by decide) ?_
          have e38 : (dgB (fun k => mCel S ((setI M 0 0).2 4).toNat (k / 6) (k % 6))) k2 x2 = ((x2 * (31 : Int64)) + (lI (mCel S ((M.2 4)).toNat ((k2 : Int) / (6)) ((k2 : Int) % (6))))) := by
            rfl
          have i38 := ih38 (by omega)
          rw [show dgI (fun k => mCel S ((setI M 0 0).2 4).toNat (k / 6) (k % 6)) (dg1 (setI M 0 0) S) (k2 + 1) = ((x2 * (31 : Int64)) + (lI (mCel S ((M.2 4)).toNat ((k2 : Int) / (6)) ((k2 : Int) % (6))))) from by rw [← e38, hx38]; rfl] at i38
          refine g_widen (kc' := (10 + (k2 + 1))) (ks' := (100 + 6 * (k2 + 1))) (by omega) (by omega) ?_
          exact g_to [0, 1, 2] (i38) rfl rfl rfl
      refine g_to [0, 1, 2] (L38 0 (by omega)) rfl rfl rfl
    · skip
      refine g_lload_n C dX11_digest_17 rfl 1 rfl ?_
      refine g_ldc2 C wd1223 dX11_digest_18 rfl ?_
      refine g_lmul C dX11_digest_21 rfl ?_
      refine g_aload_n C dX11_digest_22 rfl 2 rfl ?_
      refine g_iload_n C dX11_digest_23 rfl 0 rfl ?_
      refine g_callV0 (As := [.int (iI (k1 : Int))]) (rv := some (.int (iI (mCnt (setI M 0 (0)) S (k1 : Int))))) (w1 := wM E am (ad 0) sa (setI M 0 (0)) ++ (wS E ad S)) (kc' := ((k1) + 1)) (ks' := ((10 * k1) + 10)) C (k_X11_counted l E am sa (setI M 0 (0)) ad S (k1 : Int) (okM_j0 (S := M) hM) hS (by omega)) mX11_counted iX11_counted wd1129 0 10 rfl rfl rfl rfl rfl (Nat.le_of_ble_eq_true rfl) ⟨Nat.le_of_ble_eq_true rfl, Nat.le_of_ble_eq_true rfl⟩ ⟨by show ((k1) + 1) ≤ 490; omega, by show ((10 * k1) + 10) ≤ 2980; omega⟩ rfl rfl dX11_digest_24 rfl ?_
      refine g_i2l C dX11_digest_27 rfl ?_
      refine g_ladd C dX11_digest_28 rfl ?_
      refine g_lstore_n (lv' := [(1, .long ((x1 * (31 : Int64)) + (lI (mCnt (setI M 0 (0)) S (k1 : Int))))), (3, .int (iI (k1 : Int))), (0, .ref (am 0))]) C dX11_digest_29 rfl (by decide) rfl ?_
      refine g_iinc (lv' := [(3, .int (iI ((k1 : Int) + 1))), (1, .long ((x1 * (31 : Int64)) + (lI (mCnt (setI M 0 (0)) S (k1 : Int))))), (0, .ref (am 0))]) C dX11_digest_30 rfl 1 rfl (by decide) rfl ?_
      refine g_goto C dX11_digest_33 11 (by decide) ?_
      have e11 : (dgB (mCnt (setI M 0 0) S)) k1 x1 = ((x1 * (31 : Int64)) + (lI (mCnt (setI M 0 (0)) S (k1 : Int)))) := by
        rfl
      have i11 := ih11 (by omega)
      rw [show dgI (mCnt (setI M 0 0) S) (1013) (k1 + 1) = ((x1 * (31 : Int64)) + (lI (mCnt (setI M 0 (0)) S (k1 : Int)))) from by rw [← e11, hx11]; rfl] at i11
      refine g_widen (kc' := ((k1 + 1))) (ks' := (10 * (k1 + 1))) (by omega) (by omega) ?_
      exact g_to [0, 1, 2] (i11) rfl rfl rfl
  refine g_to [0, 1, 2] (L11 0 (by omega)) rfl rfl rfl
