/-! hours go by; the refuges -/
set_option maxHeartbeats 8000000 in
set_option maxRecDepth 100000 in
theorem law_c {E : gE} {zp : Program} {l : Launch} {ze : Env} {zs : State} {zm : MethodId} {za : Array Value} {zb : List Frame} {zh : Method} {zc : Code} {zA : Nat → Prop} {zQ : State → Prop} {sa : gTx} {b L : Nat} {xs : Nat → Int32} {o : Nat} {ad bd : Nat → Nat} {kc ks : Nat} {T H : gS} {all t : Int} {j n n5 n6 n10 : Nat} {fw fh fs : Int → Int} (C : gC E zp zs zm za zh zc cL_law 16 RL (some .boolean) zA) (SX : gSX sa b L xs zA zs) (hL : L ≤ 260) (hkc : kc ≤ 1000) (hks : ks ≤ 10000) (ht : t ≤ 100) (ha : -1000 ≤ all ∧ all ≤ 1000) (hn : 1 ≤ n ∧ n ≤ 4) (J : jl all t T) (okH : okT H) (f0 : fs 0 = nTell (hoursI T n) 4) (f1 : fs 1 = (hoursI T n).2 5 - T.2 5) (f2 : fs 2 = nTell (hoursI T n) 6) (kk : ∀ V : gS, jl all (t + n) V → mono T V → gG E zp l ze room_1 zs zm za zb zh zc zA 16 kc ks zQ ([(o, .inr (8, [.ref (ad 0), .ref (bd 0)]))] ++ (wT E ad V ++ (wT E bd H ++ ([(n5, ca E 5 fw), (n6, ca E 5 fh), (n10, ca E 4 fs)])))) 384 [(12, .int (iI (V.1 19 0 + V.1 19 1))), (6, .ref n6), (5, .ref n5), (3, .int (iI (j : Int))), (2, .int (iI all)), (1, .ref o), (0, .ref b)] []) : gG E zp l ze room_1 zs zm za zb zh zc zA 16 kc ks zQ ([(o, .inr (8, [.ref (ad 0), .ref (bd 0)]))] ++ (wT E ad T ++ (wT E bd H ++ ([(n5, ca E 5 fw), (n6, ca E 5 fh), (n10, ca E 4 fs)])))) 266 [(10, .ref n10), (9, .int (iI (n : Int))), (6, .ref n6), (5, .ref n5), (3, .int (iI (j : Int))), (2, .int (iI all)), (1, .ref o), (0, .ref b)] [] := by
  have hh := J.2.2.2.1
  have nT := J.2.2.1
  refine g_aload_n C dL_law_266 rfl 6 rfl ?_
  refine g_iload C dL_law_267 rfl 1 rfl ?_
  refine g_callVf (As := [.int (iI (n : Int))]) (rv := some (.int (iI ((hoursI T n).2 5 - T.2 5)))) (w1 := [(o, .inr (8, [.ref (ad 0), .ref (bd 0)]))] ++ (wT E ad (hoursI T n))) (kc' := kc) (ks' := ks) C (wT E bd H ++ ([(n5, ca E 5 fw), (n6, ca E 5 fh), (n10, ca E 4 fs)])) (k_X9_pass l E o (bd 0) ad T n J.2.1.1 ⟨by omega, by omega⟩ J.2.1.2.1 ⟨by omega, by omega⟩) mX9_pass iX9_pass wp272 0 8 rfl rfl rfl rfl rfl (Nat.le_of_ble_eq_true rfl) ⟨Nat.le_of_ble_eq_true rfl, Nat.le_of_ble_eq_true rfl⟩ ⟨by show kc + 0 ≤ 600104; omega, by show ks + 0 ≤ 7301314; omega⟩ rfl rfl (by simp only [List.append_assoc]) dL_law_269 rfl ?_
  refine g_ws (ws1 := [(o, .inr (8, [.ref (ad 0), .ref (bd 0)]))] ++ (wT E ad (hoursI T n) ++ (wT E bd H ++ ([(n5, ca E 5 fw), (n6, ca E 5 fh), (n10, ca E 4 fs)])))) (by simp only [List.append_assoc]) ?_
  have jp := j_pass (n := n) J
  obtain ⟨V, hV⟩ : ∃ z, z = hoursI T n := ⟨_, rfl⟩
  rw [← hV] at jp f0 f1 f2 ⊢
  obtain ⟨JV, mV⟩ := jp
  have cV := j_cnt JV
  have cT := j_cnt J
  have nV := JV.2.2.1
  refine g_aload C dL_law_272 rfl 0 rfl ?_
  refine g_iconst C dL_law_274 rfl ?_
  refine g_iald (f := fs) C dL_law_275 rfl 67 rfl (by omega) (by decide) ?_
  refine g_icmp_ne C dL_law_276 304 (by decide) rfl (by omega) (by omega) (fun c276 => ?_) (fun c276 => ?_)
  · exfalso; omega
  refine g_aload_n C dL_law_279 rfl 6 rfl ?_
  refine g_iconst C dL_law_280 rfl ?_
  refine g_callVf (As := [.int (iI (4))]) (rv := some (.int (iI (nTell V (4))))) (w1 := [(o, .inr (8, [.ref (ad 0), .ref (bd 0)]))] ++ (wT E ad V)) (kc' := kc) (ks' := ks) C (wT E bd H ++ ([(n5, ca E 5 fw), (n6, ca E 5 fh), (n10, ca E 4 fs)])) (k_X9_count l E o (bd 0) ad V (4) JV.2.1.1 (by omega) ⟨by omega, by omega⟩) mX9_count iX9_count wp244 0 8 rfl rfl rfl rfl rfl (Nat.le_of_ble_eq_true rfl) ⟨Nat.le_of_ble_eq_true rfl, Nat.le_of_ble_eq_true rfl⟩ ⟨by show kc + 0 ≤ 600104; omega, by show ks + 0 ≤ 7301314; omega⟩ rfl rfl (by simp only [List.append_assoc]) dL_law_281 rfl ?_
  refine g_ws (ws1 := [(o, .inr (8, [.ref (ad 0), .ref (bd 0)]))] ++ (wT E ad V ++ (wT E bd H ++ ([(n5, ca E 5 fw), (n6, ca E 5 fh), (n10, ca E 4 fs)])))) (by simp only [List.append_assoc]) ?_
  refine g_aload C dL_law_284 rfl 0 rfl ?_
  refine g_iconst C dL_law_286 rfl ?_
  refine g_iald (f := fs) C dL_law_287 rfl 67 rfl (by omega) (by decide) ?_
  refine g_icmp_ne C dL_law_288 304 (by decide) rfl (by omega) (by omega) (fun c288 => ?_) (fun c288 => ?_)
  · exfalso; omega
  refine g_aload_n C dL_law_291 rfl 6 rfl ?_
  refine g_bipush C dL_law_292 rfl rfl ?_
  refine g_callVf (As := [.int (iI (6))]) (rv := some (.int (iI (nTell V (6))))) (w1 := [(o, .inr (8, [.ref (ad 0), .ref (bd 0)]))] ++ (wT E ad V)) (kc' := kc) (ks' := ks) C (wT E bd H ++ ([(n5, ca E 5 fw), (n6, ca E 5 fh), (n10, ca E 4 fs)])) (k_X9_count l E o (bd 0) ad V (6) JV.2.1.1 (by omega) ⟨by omega, by omega⟩) mX9_count iX9_count wp244 0 8 rfl rfl rfl rfl rfl (Nat.le_of_ble_eq_true rfl) ⟨Nat.le_of_ble_eq_true rfl, Nat.le_of_ble_eq_true rfl⟩ ⟨by show kc + 0 ≤ 600104; omega, by show ks + 0 ≤ 7301314; omega⟩ rfl rfl (by simp only [List.append_assoc]) dL_law_294 rfl ?_
  refine g_ws (ws1 := [(o, .inr (8, [.ref (ad 0), .ref (bd 0)]))] ++ (wT E ad V ++ (wT E bd H ++ ([(n5, ca E 5 fw), (n6, ca E 5 fh), (n10, ca E 4 fs)])))) (by simp only [List.append_assoc]) ?_
  refine g_aload C dL_law_297 rfl 0 rfl ?_
  refine g_iconst C dL_law_299 rfl ?_
  refine g_iald (f := fs) C dL_law_300 rfl 67 rfl (by omega) (by decide) ?_
  refine g_icmp_eq C dL_law_301 306 (by decide) rfl (by omega) (by omega) (fun c301 => ?_) (fun c301 => ?_)
  rotate_left
  · exfalso; omega
  refine g_iconst C dL_law_306 rfl ?_
  refine g_istore (lv' := [(12, .int (iI (0))), (10, .ref n10), (9, .int (iI (n : Int))), (6, .ref n6), (5, .ref n5), (3, .int (iI (j : Int))), (2, .int (iI all)), (1, .ref o), (0, .ref b)]) C dL_law_307 rfl (by decide) rfl ?_
  refine g_iconst C dL_law_309 rfl ?_
  refine g_istore (lv' := [(13, .int (iI (0))), (12, .int (iI (0))), (10, .ref n10), (9, .int (iI (n : Int))), (6, .ref n6), (5, .ref n5), (3, .int (iI (j : Int))), (2, .int (iI all)), (1, .ref o), (0, .ref b)]) C dL_law_310 rfl (by decide) rfl ?_
  refine g_iload C dL_law_312 rfl 0 rfl ?_
  refine g_iconst C dL_law_314 rfl ?_
  refine g_icmp_ge C dL_law_315 384 (by decide) rfl (by omega) (by omega) (fun c315 => ?_) (fun c315 => ?_)
  · exfalso; omega
  refine g_aload_n C dL_law_318 rfl 8 rfl ?_
  refine g_iload C dL_law_319 rfl 0 rfl ?_
  have jk321_0 := j_ref JV (k := (0)) ⟨by omega, by omega⟩
  refine g_isRef (ad := ad) (bd := bd) (wr := wT E bd H ++ ([(n5, ca E 5 fw), (n6, ca E 5 fh), (n10, ca E 4 fs)])) C SX JV.2.1.1 ⟨by omega, by omega⟩ (by omega) (Nat.le_of_ble_eq_true rfl) ⟨Nat.le_of_ble_eq_true rfl, Nat.le_of_ble_eq_true rfl⟩ ⟨by show kc + 0 ≤ 600104; omega, by show ks + 0 ≤ 7301314; omega⟩ dL_law_321 rfl (by simp only [List.append_assoc]) ?_
  refine g_if_ne C dL_law_324 330 (by decide) rfl (by omega) (fun c324 => ?_) (fun c324 => ?_)
  rotate_left
  · exfalso; omega
  refine g_iload C dL_law_330 rfl 1 rfl ?_
  refine g_aload_n C dL_law_332 rfl 8 rfl ?_
  refine g_iload C dL_law_333 rfl 0 rfl ?_
  refine g_iconst C dL_law_335 rfl ?_
  refine g_callVf (As := [.int (iI (0)), .int (iI (3))]) (rv := some (.int (iI (V.1 19 (0))))) (w1 := [(o, .inr (8, [.ref (ad 0), .ref (bd 0)]))] ++ (wT E ad V)) (kc' := kc) (ks' := ks) C (wT E bd H ++ ([(n5, ca E 5 fw), (n6, ca E 5 fh), (n10, ca E 4 fs)])) (k_X9_refuge l E o (bd 0) ad V (0) (3) JV.2.1.1 (by omega) (by omega) ⟨by omega, by omega⟩ ⟨by omega, by omega⟩) mX9_refuge iX9_refuge wp182 0 8 rfl rfl rfl rfl rfl (Nat.le_of_ble_eq_true rfl) ⟨Nat.le_of_ble_eq_true rfl, Nat.le_of_ble_eq_true rfl⟩ ⟨by show kc + 0 ≤ 600104; omega, by show ks + 0 ≤ 7301314; omega⟩ rfl rfl (by simp only [List.append_assoc]) dL_law_336 rfl ?_
  refine g_ws (ws1 := [(o, .inr (8, [.ref (ad 0), .ref (bd 0)]))] ++ (wT E ad V ++ (wT E bd H ++ ([(n5, ca E 5 fw), (n6, ca E 5 fh), (n10, ca E 4 fs)])))) (by simp only [List.append_assoc]) ?_
  refine g_iadd C dL_law_339 rfl ?_
  refine g_istore (lv' := [(12, .int (iI ((0) + (V.1 19 (0))))), (13, .int (iI (0))), (10, .ref n10), (9, .int (iI (n : Int))), (6, .ref n6), (5, .ref n5), (3, .int (iI (j : Int))), (2, .int (iI all)), (1, .ref o), (0, .ref b)]) C dL_law_340 rfl (by decide) rfl ?_
  refine g_aload_n C dL_law_342 rfl 8 rfl ?_
  refine g_iload C dL_law_343 rfl 1 rfl ?_
  refine g_iconst C dL_law_345 rfl ?_
  refine g_callVf (As := [.int (iI (0)), .int (iI (3))]) (rv := some (.int (iI (V.1 19 (0))))) (w1 := [(o, .inr (8, [.ref (ad 0), .ref (bd 0)]))] ++ (wT E ad V)) (kc' := kc) (ks' := ks) C (wT E bd H ++ ([(n5, ca E 5 fw), (n6, ca E 5 fh), (n10, ca E 4 fs)])) (k_X9_refuge l E o (bd 0) ad V (0) (3) JV.2.1.1 (by omega) (by omega) ⟨by omega, by omega⟩ ⟨by omega, by omega⟩) mX9_refuge iX9_refuge wp182 0 8 rfl rfl rfl rfl rfl (Nat.le_of_ble_eq_true rfl) ⟨Nat.le_of_ble_eq_true rfl, Nat.le_of_ble_eq_true rfl⟩ ⟨by show kc + 0 ≤ 600104; omega, by show ks + 0 ≤ 7301314; omega⟩ rfl rfl (by simp only [List.append_assoc]) dL_law_346 rfl ?_
  refine g_ws (ws1 := [(o, .inr (8, [.ref (ad 0), .ref (bd 0)]))] ++ (wT E ad V ++ (wT E bd H ++ ([(n5, ca E 5 fw), (n6, ca E 5 fh), (n10, ca E 4 fs)])))) (by simp only [List.append_assoc]) ?_
  refine g_aload_n C dL_law_349 rfl 8 rfl ?_
  refine g_iload C dL_law_350 rfl 1 rfl ?_
  refine g_iconst C dL_law_352 rfl ?_
  refine g_callVf (As := [.int (iI (0)), .int (iI (2))]) (rv := some (.int (iI (V.1 18 (0))))) (w1 := [(o, .inr (8, [.ref (ad 0), .ref (bd 0)]))] ++ (wT E ad V)) (kc' := kc) (ks' := ks) C (wT E bd H ++ ([(n5, ca E 5 fw), (n6, ca E 5 fh), (n10, ca E 4 fs)])) (k_X9_refuge l E o (bd 0) ad V (0) (2) JV.2.1.1 (by omega) (by omega) ⟨by omega, by omega⟩ ⟨by omega, by omega⟩) mX9_refuge iX9_refuge wp182 0 8 rfl rfl rfl rfl rfl (Nat.le_of_ble_eq_true rfl) ⟨Nat.le_of_ble_eq_true rfl, Nat.le_of_ble_eq_true rfl⟩ ⟨by show kc + 0 ≤ 600104; omega, by show ks + 0 ≤ 7301314; omega⟩ rfl rfl (by simp only [List.append_assoc]) dL_law_353 rfl ?_
  refine g_ws (ws1 := [(o, .inr (8, [.ref (ad 0), .ref (bd 0)]))] ++ (wT E ad V ++ (wT E bd H ++ ([(n5, ca E 5 fw), (n6, ca E 5 fh), (n10, ca E 4 fs)])))) (by simp only [List.append_assoc]) ?_
  refine g_icmp_gt C dL_law_356 376 (by decide) rfl (by omega) (by omega) (fun c356 => ?_) (fun c356 => ?_)
  · exfalso; omega
  refine g_aload_n C dL_law_359 rfl 8 rfl ?_
  refine g_iload C dL_law_360 rfl 1 rfl ?_
  refine g_iconst C dL_law_362 rfl ?_
  refine g_callVf (As := [.int (iI (0)), .int (iI (3))]) (rv := some (.int (iI (V.1 19 (0))))) (w1 := [(o, .inr (8, [.ref (ad 0), .ref (bd 0)]))] ++ (wT E ad V)) (kc' := kc) (ks' := ks) C (wT E bd H ++ ([(n5, ca E 5 fw), (n6, ca E 5 fh), (n10, ca E 4 fs)])) (k_X9_refuge l E o (bd 0) ad V (0) (3) JV.2.1.1 (by omega) (by omega) ⟨by omega, by omega⟩ ⟨by omega, by omega⟩) mX9_refuge iX9_refuge wp182 0 8 rfl rfl rfl rfl rfl (Nat.le_of_ble_eq_true rfl) ⟨Nat.le_of_ble_eq_true rfl, Nat.le_of_ble_eq_true rfl⟩ ⟨by show kc + 0 ≤ 600104; omega, by show ks + 0 ≤ 7301314; omega⟩ rfl rfl (by simp only [List.append_assoc]) dL_law_363 rfl ?_
  refine g_ws (ws1 := [(o, .inr (8, [.ref (ad 0), .ref (bd 0)]))] ++ (wT E ad V ++ (wT E bd H ++ ([(n5, ca E 5 fw), (n6, ca E 5 fh), (n10, ca E 4 fs)])))) (by simp only [List.append_assoc]) ?_
  refine g_aload_n C dL_law_366 rfl 8 rfl ?_
  refine g_iload C dL_law_367 rfl 1 rfl ?_
  refine g_iconst C dL_law_369 rfl ?_
  refine g_callVf (As := [.int (iI (0)), .int (iI (4))]) (rv := some (.int (iI (V.1 20 (0))))) (w1 := [(o, .inr (8, [.ref (ad 0), .ref (bd 0)]))] ++ (wT E ad V)) (kc' := kc) (ks' := ks) C (wT E bd H ++ ([(n5, ca E 5 fw), (n6, ca E 5 fh), (n10, ca E 4 fs)])) (k_X9_refuge l E o (bd 0) ad V (0) (4) JV.2.1.1 (by omega) (by omega) ⟨by omega, by omega⟩ ⟨by omega, by omega⟩) mX9_refuge iX9_refuge wp182 0 8 rfl rfl rfl rfl rfl (Nat.le_of_ble_eq_true rfl) ⟨Nat.le_of_ble_eq_true rfl, Nat.le_of_ble_eq_true rfl⟩ ⟨by show kc + 0 ≤ 600104; omega, by show ks + 0 ≤ 7301314; omega⟩ rfl rfl (by simp only [List.append_assoc]) dL_law_370 rfl ?_
  refine g_ws (ws1 := [(o, .inr (8, [.ref (ad 0), .ref (bd 0)]))] ++ (wT E ad V ++ (wT E bd H ++ ([(n5, ca E 5 fw), (n6, ca E 5 fh), (n10, ca E 4 fs)])))) (by simp only [List.append_assoc]) ?_
  refine g_icmp_ge C dL_law_373 378 (by decide) rfl (by omega) (by omega) (fun c373 => ?_) (fun c373 => ?_)
  rotate_left
  · exfalso; omega
  refine g_iinc (lv' := [(13, .int (iI ((0) + 1))), (12, .int (iI ((0) + (V.1 19 (0))))), (10, .ref n10), (9, .int (iI (n : Int))), (6, .ref n6), (5, .ref n5), (3, .int (iI (j : Int))), (2, .int (iI all)), (1, .ref o), (0, .ref b)]) C dL_law_378 rfl 1 rfl (by decide) rfl ?_
  refine g_goto C dL_law_381 312 (by decide) ?_
  refine g_to (lv1 := [(13, .int (iI (1))), (12, .int (iI ((0) + (V.1 19 (0))))), (10, .ref n10), (9, .int (iI (n : Int))), (6, .ref n6), (5, .ref n5), (3, .int (iI (j : Int))), (2, .int (iI all)), (1, .ref o), (0, .ref b)]) [0, 1, 2, 3, 4, 5, 6, 7, 8, 9] ?_ rfl rfl rfl
  refine g_iload C dL_law_312 rfl 0 rfl ?_
  refine g_iconst C dL_law_314 rfl ?_
  refine g_icmp_ge C dL_law_315 384 (by decide) rfl (by omega) (by omega) (fun c315 => ?_) (fun c315 => ?_)
  · exfalso; omega
  refine g_aload_n C dL_law_318 rfl 8 rfl ?_
  refine g_iload C dL_law_319 rfl 0 rfl ?_
  have jk321_1 := j_ref JV (k := (1)) ⟨by omega, by omega⟩
  refine g_isRef (ad := ad) (bd := bd) (wr := wT E bd H ++ ([(n5, ca E 5 fw), (n6, ca E 5 fh), (n10, ca E 4 fs)])) C SX JV.2.1.1 ⟨by omega, by omega⟩ (by omega) (Nat.le_of_ble_eq_true rfl) ⟨Nat.le_of_ble_eq_true rfl, Nat.le_of_ble_eq_true rfl⟩ ⟨by show kc + 0 ≤ 600104; omega, by show ks + 0 ≤ 7301314; omega⟩ dL_law_321 rfl (by simp only [List.append_assoc]) ?_
  refine g_if_ne C dL_law_324 330 (by decide) rfl (by omega) (fun c324 => ?_) (fun c324 => ?_)
  rotate_left
  · exfalso; omega
  refine g_iload C dL_law_330 rfl 1 rfl ?_
  refine g_aload_n C dL_law_332 rfl 8 rfl ?_
  refine g_iload C dL_law_333 rfl 0 rfl ?_
  refine g_iconst C dL_law_335 rfl ?_
  refine g_callVf (As := [.int (iI (1)), .int (iI (3))]) (rv := some (.int (iI (V.1 19 (1))))) (w1 := [(o, .inr (8, [.ref (ad 0), .ref (bd 0)]))] ++ (wT E ad V)) (kc' := kc) (ks' := ks) C (wT E bd H ++ ([(n5, ca E 5 fw), (n6, ca E 5 fh), (n10, ca E 4 fs)])) (k_X9_refuge l E o (bd 0) ad V (1) (3) JV.2.1.1 (by omega) (by omega) ⟨by omega, by omega⟩ ⟨by omega, by omega⟩) mX9_refuge iX9_refuge wp182 0 8 rfl rfl rfl rfl rfl (Nat.le_of_ble_eq_true rfl) ⟨Nat.le_of_ble_eq_true rfl, Nat.le_of_ble_eq_true rfl⟩ ⟨by show kc + 0 ≤ 600104; omega, by show ks + 0 ≤ 7301314; omega⟩ rfl rfl (by simp only [List.append_assoc]) dL_law_336 rfl ?_
  refine g_ws (ws1 := [(o, .inr (8, [.ref (ad 0), .ref (bd 0)]))] ++ (wT E ad V ++ (wT E bd H ++ ([(n5, ca E 5 fw), (n6, ca E 5 fh), (n10, ca E 4 fs)])))) (by simp only [List.append_assoc]) ?_
  refine g_iadd C dL_law_339 rfl ?_
  refine g_istore (lv' := [(12, .int (iI (((0) + (V.1 19 (0))) + (V.1 19 (1))))), (13, .int (iI (1))), (10, .ref n10), (9, .int (iI (n : Int))), (6, .ref n6), (5, .ref n5), (3, .int (iI (j : Int))), (2, .int (iI all)), (1, .ref o), (0, .ref b)]) C dL_law_340 rfl (by decide) rfl ?_
  refine g_aload_n C dL_law_342 rfl 8 rfl ?_
  refine g_iload C dL_law_343 rfl 1 rfl ?_
  refine g_iconst C dL_law_345 rfl ?_
  refine g_callVf (As := [.int (iI (1)), .int (iI (3))]) (rv := some (.int (iI (V.1 19 (1))))) (w1 := [(o, .inr (8, [.ref (ad 0), .ref (bd 0)]))] ++ (wT E ad V)) (kc' := kc) (ks' := ks) C (wT E bd H ++ ([(n5, ca E 5 fw), (n6, ca E 5 fh), (n10, ca E 4 fs)])) (k_X9_refuge l E o (bd 0) ad V (1) (3) JV.2.1.1 (by omega) (by omega) ⟨by omega, by omega⟩ ⟨by omega, by omega⟩) mX9_refuge iX9_refuge wp182 0 8 rfl rfl rfl rfl rfl (Nat.le_of_ble_eq_true rfl) ⟨Nat.le_of_ble_eq_true rfl, Nat.le_of_ble_eq_true rfl⟩ ⟨by show kc + 0 ≤ 600104; omega, by show ks + 0 ≤ 7301314; omega⟩ rfl rfl (by simp only [List.append_assoc]) dL_law_346 rfl ?_
  refine g_ws (ws1 := [(o, .inr (8, [.ref (ad 0), .ref (bd 0)]))] ++ (wT E ad V ++ (wT E bd H ++ ([(n5, ca E 5 fw), (n6, ca E 5 fh), (n10, ca E 4 fs)])))) (by simp only [List.append_assoc]) ?_
  refine g_aload_n C dL_law_349 rfl 8 rfl ?_
  refine g_iload C dL_law_350 rfl 1 rfl ?_
  refine g_iconst C dL_law_352 rfl ?_
  refine g_callVf (As := [.int (iI (1)), .int (iI (2))]) (rv := some (.int (iI (V.1 18 (1))))) (w1 := [(o, .inr (8, [.ref (ad 0), .ref (bd 0)]))] ++ (wT E ad V)) (kc' := kc) (ks' := ks) C (wT E bd H ++ ([(n5, ca E 5 fw), (n6, ca E 5 fh), (n10, ca E 4 fs)])) (k_X9_refuge l E o (bd 0) ad V (1) (2) JV.2.1.1 (by omega) (by omega) ⟨by omega, by omega⟩ ⟨by omega, by omega⟩) mX9_refuge iX9_refuge wp182 0 8 rfl rfl rfl rfl rfl (Nat.le_of_ble_eq_true rfl) ⟨Nat.le_of_ble_eq_true rfl, Nat.le_of_ble_eq_true rfl⟩ ⟨by show kc + 0 ≤ 600104; omega, by show ks + 0 ≤ 7301314; omega⟩ rfl rfl (by simp only [List.append_assoc]) dL_law_353 rfl ?_
  refine g_ws (ws1 := [(o, .inr (8, [.ref (ad 0), .ref (bd 0)]))] ++ (wT E ad V ++ (wT E bd H ++ ([(n5, ca E 5 fw), (n6, ca E 5 fh), (n10, ca E 4 fs)])))) (by simp only [List.append_assoc]) ?_
  refine g_icmp_gt C dL_law_356 376 (by decide) rfl (by omega) (by omega) (fun c356 => ?_) (fun c356 => ?_)
  · exfalso; omega
  refine g_aload_n C dL_law_359 rfl 8 rfl ?_
  refine g_iload C dL_law_360 rfl 1 rfl ?_
  refine g_iconst C dL_law_362 rfl ?_
  refine g_callVf (As := [.int (iI (1)), .int (iI (3))]) (rv := some (.int (iI (V.1 19 (1))))) (w1 := [(o, .inr (8, [.ref (ad 0), .ref (bd 0)]))] ++ (wT E ad V)) (kc' := kc) (ks' := ks) C (wT E bd H ++ ([(n5, ca E 5 fw), (n6, ca E 5 fh), (n10, ca E 4 fs)])) (k_X9_refuge l E o (bd 0) ad V (1) (3) JV.2.1.1 (by omega) (by omega) ⟨by omega, by omega⟩ ⟨by omega, by omega⟩) mX9_refuge iX9_refuge wp182 0 8 rfl rfl rfl rfl rfl (Nat.le_of_ble_eq_true rfl) ⟨Nat.le_of_ble_eq_true rfl, Nat.le_of_ble_eq_true rfl⟩ ⟨by show kc + 0 ≤ 600104; omega, by show ks + 0 ≤ 7301314; omega⟩ rfl rfl (by simp only [List.append_assoc]) dL_law_363 rfl ?_
  refine g_ws (ws1 := [(o, .inr (8, [.ref (ad 0), .ref (bd 0)]))] ++ (wT E ad V ++ (wT E bd H ++ ([(n5, ca E 5 fw), (n6, ca E 5 fh), (n10, ca E 4 fs)])))) (by simp only [List.append_assoc]) ?_
  refine g_aload_n C dL_law_366 rfl 8 rfl ?_
  refine g_iload C dL_law_367 rfl 1 rfl ?_
  refine g_iconst C dL_law_369 rfl ?_
  refine g_callVf (As := [.int (iI (1)), .int (iI (4))]) (rv := some (.int (iI (V.1 20 (1))))) (w1 := [(o, .inr (8, [.ref (ad 0), .ref (bd 0)]))] ++ (wT E ad V)) (kc' := kc) (ks' := ks) C (wT E bd H ++ ([(n5, ca E 5 fw), (n6, ca E 5 fh), (n10, ca E 4 fs)])) (k_X9_refuge l E o (bd 0) ad V (1) (4) JV.2.1.1 (by omega) (by omega) ⟨by omega, by omega⟩ ⟨by omega, by omega⟩) mX9_refuge iX9_refuge wp182 0 8 rfl rfl rfl rfl rfl (Nat.le_of_ble_eq_true rfl) ⟨Nat.le_of_ble_eq_true rfl, Nat.le_of_ble_eq_true rfl⟩ ⟨by show kc + 0 ≤ 600104; omega, by show ks + 0 ≤ 7301314; omega⟩ rfl rfl (by simp only [List.append_assoc]) dL_law_370 rfl ?_
  refine g_ws (ws1 := [(o, .inr (8, [.ref (ad 0), .ref (bd 0)]))] ++ (wT E ad V ++ (wT E bd H ++ ([(n5, ca E 5 fw), (n6, ca E 5 fh), (n10, ca E 4 fs)])))) (by simp only [List.append_assoc]) ?_
  refine g_icmp_ge C dL_law_373 378 (by decide) rfl (by omega) (by omega) (fun c373 => ?_) (fun c373 => ?_)
  rotate_left
  · exfalso; omega
  refine g_iinc (lv' := [(13, .int (iI ((1) + 1))), (12, .int (iI (((0) + (V.1 19 (0))) + (V.1 19 (1))))), (10, .ref n10), (9, .int (iI (n : Int))), (6, .ref n6), (5, .ref n5), (3, .int (iI (j : Int))), (2, .int (iI all)), (1, .ref o), (0, .ref b)]) C dL_law_378 rfl 1 rfl (by decide) rfl ?_
  refine g_goto C dL_law_381 312 (by decide) ?_
  refine g_to (lv1 := [(13, .int (iI (2))), (12, .int (iI (((0) + (V.1 19 (0))) + (V.1 19 (1))))), (10, .ref n10), (9, .int (iI (n : Int))), (6, .ref n6), (5, .ref n5), (3, .int (iI (j : Int))), (2, .int (iI all)), (1, .ref o), (0, .ref b)]) [0, 1, 2, 3, 4, 5, 6, 7, 8, 9] ?_ rfl rfl rfl
  refine g_iload C dL_law_312 rfl 0 rfl ?_
  refine g_iconst C dL_law_314 rfl ?_
  refine g_icmp_ge C dL_law_315 384 (by decide) rfl (by omega) (by omega) (fun c315 => ?_) (fun c315 => ?_)
  rotate_left
  · exfalso; omega
  rw [show (((0) + (V.1 19 (0))) + (V.1 19 (1))) = V.1 19 0 + V.1 19 1 from by omega]
  exact g_to [1, 4, 5, 6, 7, 8, 9] (kk V JV mV) rfl rfl rfl
