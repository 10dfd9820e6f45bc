/-! the households, the counts -/
set_option maxHeartbeats 8000000 in
set_option maxRecDepth 100000 in
theorem law_d1 {E : gE} {zp : Program} {l : Launch} {ze : Env} {zs : State} {zm : MethodId} {za : Array Value} {zb : List Frame} {zh : Method} {zc : Code} {zA : Nat → Prop} {zQ : State → Prop} {sa : gTx} {b L : Nat} {xs : Nat → Int32} {o : Nat} {ad bd : Nat → Nat} {kc ks : Nat} {T V H : gS} {all t t2 : Int} {j k n5 n6 n10 n13 : Nat} {fw fh fs : Int → Int} (C : gC E zp zs zm za zh zc cL_law 16 RL (some .boolean) zA) (SX : gSX sa b L xs zA zs) (hL : L ≤ 260) (hkc : kc ≤ 1000) (hks : ks ≤ 10000) (hk : k < 5) (J : jl all t T) (JV : jl all t2 V) (mV : mono T V) (vfw : ∀ i : Int, 0 ≤ i → i < 5 → fw i = T.1 24 i) (vfh : ∀ i : Int, 0 ≤ i → i < 5 → fh i = T.1 23 i) (hT4 : T.2 4 = 5) (kk : gG E zp l ze room_1 zs zm za zb zh zc zA 16 kc ks zQ ([(o, .inr (8, [.ref (ad 0), .ref (bd 0)]))] ++ (wT E ad V ++ (wT E bd H ++ ([(n5, ca E 5 fw), (n6, ca E 5 fh), (n10, ca E 4 fs), (n13, ca E 4 (arI V (k + 1)))])))) 392 [(14, .int (iI ((k : Int) + 1))), (13, .ref n13), (12, .int (iI (V.1 19 0 + V.1 19 1))), (6, .ref n6), (5, .ref n5), (3, .int (iI (j : Int))), (2, .int (iI all)), (1, .ref o), (0, .ref b)] []) : gG E zp l ze room_1 zs zm za zb zh zc zA 16 kc ks zQ ([(o, .inr (8, [.ref (ad 0), .ref (bd 0)]))] ++ (wT E ad V ++ (wT E bd H ++ ([(n5, ca E 5 fw), (n6, ca E 5 fh), (n10, ca E 4 fs), (n13, ca E 4 (arI V k))])))) 392 [(14, .int (iI (k : Int))), (13, .ref n13), (12, .int (iI (V.1 19 0 + V.1 19 1))), (6, .ref n6), (5, .ref n5), (3, .int (iI (j : Int))), (2, .int (iI all)), (1, .ref o), (0, .ref b)] [] := by
  have nV := JV.2.2.1
  have jw := j_who JV (k := (k : Int)) ⟨by omega, by omega⟩
  have mk := mV (k : Int) (by omega) (by omega)
  have vw := vfw (k : Int) (by omega) (by omega)
  have vh := vfh (k : Int) (by omega) (by omega)
  have bT := okT_24 J.2.1.1 (k : Int)
  have bP := okT_23 J.2.1.1 (k : Int)
  obtain ⟨m1, m2, m3⟩ := mk
  obtain ⟨jw1, jw2, jw3⟩ := jw
  refine g_iload C dL_law_392 rfl 0 rfl ?_
  refine g_iconst C dL_law_394 rfl ?_
  refine g_icmp_ge C dL_law_395 524 (by decide) rfl (by omega) (by omega) (fun c395 => ?_) (fun c395 => ?_)
  · exfalso; omega
  refine g_aload_n C dL_law_398 rfl 7 rfl ?_
  refine g_iload C dL_law_399 rfl 0 rfl ?_
  refine g_iconst C dL_law_401 rfl ?_
  refine g_callVf (As := [.int (iI (k : Int)), .int (iI (3))]) (rv := some (.int (iI (V.1 24 (k : Int))))) (w1 := [(o, .inr (8, [.ref (ad 0), .ref (bd 0)]))] ++ (wT E ad V)) (kc' := kc) (ks' := ks) C (wT E bd H ++ ([(n5, ca E 5 fw), (n6, ca E 5 fh), (n10, ca E 4 fs), (n13, ca E 4 (arI V k))])) (k_X9_household l E o (bd 0) ad V (k : Int) (3) JV.2.1.1 (by omega) (by omega) ⟨by omega, by omega⟩ ⟨by omega, by omega⟩) mX9_household iX9_household wp199 0 8 rfl rfl rfl rfl rfl (Nat.le_of_ble_eq_true rfl) ⟨Nat.le_of_ble_eq_true rfl, Nat.le_of_ble_eq_true rfl⟩ ⟨by show kc + 0 ≤ 600104; omega, by show ks + 0 ≤ 7301314; omega⟩ rfl rfl (by simp only [List.append_assoc]) dL_law_402 rfl ?_
  refine g_ws (ws1 := [(o, .inr (8, [.ref (ad 0), .ref (bd 0)]))] ++ (wT E ad V ++ (wT E bd H ++ ([(n5, ca E 5 fw), (n6, ca E 5 fh), (n10, ca E 4 fs), (n13, ca E 4 (arI V k))])))) (by simp only [List.append_assoc]) ?_
  refine g_istore (lv' := [(15, .int (iI (V.1 24 (k : Int)))), (14, .int (iI (k : Int))), (13, .ref n13), (12, .int (iI (V.1 19 0 + V.1 19 1))), (6, .ref n6), (5, .ref n5), (3, .int (iI (j : Int))), (2, .int (iI all)), (1, .ref o), (0, .ref b)]) C dL_law_405 rfl (by decide) rfl ?_
  refine g_aload C dL_law_407 rfl 2 rfl ?_
  refine g_iload C dL_law_409 rfl 0 rfl ?_
  refine g_dup2 C dL_law_411 rfl rfl rfl ?_
  refine g_iald (f := (arI V k)) C dL_law_412 rfl 68 rfl (by omega) (by decide) ?_
  refine g_aload_n C dL_law_413 rfl 8 rfl ?_
  refine g_iload C dL_law_414 rfl 1 rfl ?_
  refine g_iconst C dL_law_416 rfl ?_
  refine g_callVf (As := [.int (iI (k : Int)), .int (iI (2))]) (rv := some (.int (iI (V.1 23 (k : Int))))) (w1 := [(o, .inr (8, [.ref (ad 0), .ref (bd 0)]))] ++ (wT E ad V)) (kc' := kc) (ks' := ks) C (wT E bd H ++ ([(n5, ca E 5 fw), (n6, ca E 5 fh), (n10, ca E 4 fs), (n13, ca E 4 (arI V k))])) (k_X9_household l E o (bd 0) ad V (k : Int) (2) JV.2.1.1 (by omega) (by omega) ⟨by omega, by omega⟩ ⟨by omega, by omega⟩) mX9_household iX9_household wp199 0 8 rfl rfl rfl rfl rfl (Nat.le_of_ble_eq_true rfl) ⟨Nat.le_of_ble_eq_true rfl, Nat.le_of_ble_eq_true rfl⟩ ⟨by show kc + 0 ≤ 600104; omega, by show ks + 0 ≤ 7301314; omega⟩ rfl rfl (by simp only [List.append_assoc]) dL_law_417 rfl ?_
  refine g_ws (ws1 := [(o, .inr (8, [.ref (ad 0), .ref (bd 0)]))] ++ (wT E ad V ++ (wT E bd H ++ ([(n5, ca E 5 fw), (n6, ca E 5 fh), (n10, ca E 4 fs), (n13, ca E 4 (arI V k))])))) (by simp only [List.append_assoc]) ?_
  refine g_iadd C dL_law_420 rfl ?_
  refine g_iast (f := (arI V k)) (ws' := [(o, .inr (8, [.ref (ad 0), .ref (bd 0)]))] ++ (wT E ad V ++ (wT E bd H ++ ([(n5, ca E 5 fw), (n6, ca E 5 fh), (n10, ca E 4 fs), (n13, ca E 4 (fset (arI V k) (V.1 24 (k : Int)) (((arI V k) (V.1 24 (k : Int))) + (V.1 23 (k : Int)))))])))) C dL_law_421 rfl 68 rfl (by omega) (by decide) rfl ?_
  refine g_iload C dL_law_422 rfl 0 rfl ?_
  refine g_aload C dL_law_424 rfl 5 rfl ?_
  refine g_iload C dL_law_426 rfl 1 rfl ?_
  refine g_iald (f := fw) C dL_law_428 rfl 65 rfl (by omega) (by decide) ?_
  refine g_icmp_lt C dL_law_429 516 (by decide) rfl (by omega) (by omega) (fun c429 => ?_) (fun c429 => ?_)
  · exfalso; omega
  refine g_aload C dL_law_432 rfl 5 rfl ?_
  refine g_iload C dL_law_434 rfl 1 rfl ?_
  refine g_iald (f := fw) C dL_law_436 rfl 65 rfl (by omega) (by decide) ?_
  refine g_iconst C dL_law_437 rfl ?_
  refine g_icmp_ne C dL_law_438 462 (by decide) rfl (by omega) (by omega) (fun c438 => ?_) (fun c438 => ?_)
  · skip
    refine g_aload_n C dL_law_462 rfl 8 rfl ?_
    refine g_iload C dL_law_463 rfl 1 rfl ?_
    refine g_iconst C dL_law_465 rfl ?_
    refine g_callVf (As := [.int (iI (k : Int)), .int (iI (2))]) (rv := some (.int (iI (V.1 23 (k : Int))))) (w1 := [(o, .inr (8, [.ref (ad 0), .ref (bd 0)]))] ++ (wT E ad V)) (kc' := kc) (ks' := ks) C (wT E bd H ++ ([(n5, ca E 5 fw), (n6, ca E 5 fh), (n10, ca E 4 fs), (n13, ca E 4 (fset (arI V k) (V.1 24 (k : Int)) (((arI V k) (V.1 24 (k : Int))) + (V.1 23 (k : Int)))))])) (k_X9_household l E o (bd 0) ad V (k : Int) (2) JV.2.1.1 (by omega) (by omega) ⟨by omega, by omega⟩ ⟨by omega, by omega⟩) mX9_household iX9_household wp199 0 8 rfl rfl rfl rfl rfl (Nat.le_of_ble_eq_true rfl) ⟨Nat.le_of_ble_eq_true rfl, Nat.le_of_ble_eq_true rfl⟩ ⟨by show kc + 0 ≤ 600104; omega, by show ks + 0 ≤ 7301314; omega⟩ rfl rfl (by simp only [List.append_assoc]) dL_law_466 rfl ?_
    refine g_ws (ws1 := [(o, .inr (8, [.ref (ad 0), .ref (bd 0)]))] ++ (wT E ad V ++ (wT E bd H ++ ([(n5, ca E 5 fw), (n6, ca E 5 fh), (n10, ca E 4 fs), (n13, ca E 4 (fset (arI V k) (V.1 24 (k : Int)) (((arI V k) (V.1 24 (k : Int))) + (V.1 23 (k : Int)))))])))) (by simp only [List.append_assoc]) ?_
    refine g_aload C dL_law_469 rfl 4 rfl ?_
    refine g_iload C dL_law_471 rfl 1 rfl ?_
    refine g_iald (f := fh) C dL_law_473 rfl 66 rfl (by omega) (by decide) ?_
    refine g_icmp_gt C dL_law_474 516 (by decide) rfl (by omega) (by omega) (fun c474 => ?_) (fun c474 => ?_)
    · exfalso; omega
    refine g_aload_n C dL_law_477 rfl 8 rfl ?_
    refine g_iload C dL_law_478 rfl 1 rfl ?_
    refine g_iconst C dL_law_480 rfl ?_
    refine g_callVf (As := [.int (iI (k : Int)), .int (iI (2))]) (rv := some (.int (iI (V.1 23 (k : Int))))) (w1 := [(o, .inr (8, [.ref (ad 0), .ref (bd 0)]))] ++ (wT E ad V)) (kc' := kc) (ks' := ks) C (wT E bd H ++ ([(n5, ca E 5 fw), (n6, ca E 5 fh), (n10, ca E 4 fs), (n13, ca E 4 (fset (arI V k) (V.1 24 (k : Int)) (((arI V k) (V.1 24 (k : Int))) + (V.1 23 (k : Int)))))])) (k_X9_household l E o (bd 0) ad V (k : Int) (2) JV.2.1.1 (by omega) (by omega) ⟨by omega, by omega⟩ ⟨by omega, by omega⟩) mX9_household iX9_household wp199 0 8 rfl rfl rfl rfl rfl (Nat.le_of_ble_eq_true rfl) ⟨Nat.le_of_ble_eq_true rfl, Nat.le_of_ble_eq_true rfl⟩ ⟨by show kc + 0 ≤ 600104; omega, by show ks + 0 ≤ 7301314; omega⟩ rfl rfl (by simp only [List.append_assoc]) dL_law_481 rfl ?_
    refine g_ws (ws1 := [(o, .inr (8, [.ref (ad 0), .ref (bd 0)]))] ++ (wT E ad V ++ (wT E bd H ++ ([(n5, ca E 5 fw), (n6, ca E 5 fh), (n10, ca E 4 fs), (n13, ca E 4 (fset (arI V k) (V.1 24 (k : Int)) (((arI V k) (V.1 24 (k : Int))) + (V.1 23 (k : Int)))))])))) (by simp only [List.append_assoc]) ?_
    refine g_if_lt C dL_law_484 516 (by decide) rfl (by omega) (fun c484 => ?_) (fun c484 => ?_)
    · exfalso; omega
    refine g_iload C dL_law_487 rfl 0 rfl ?_
    refine g_iconst C dL_law_489 rfl ?_
    refine g_icmp_ne C dL_law_490 497 (by decide) rfl (by omega) (by omega) (fun c490 => ?_) (fun c490 => ?_)
    · skip
      refine g_iconst C dL_law_497 rfl ?_
      refine g_aload_n C dL_law_498 rfl 8 rfl ?_
      refine g_iload C dL_law_499 rfl 1 rfl ?_
      refine g_iconst C dL_law_501 rfl ?_
      refine g_callVf (As := [.int (iI (k : Int)), .int (iI (2))]) (rv := some (.int (iI (V.1 23 (k : Int))))) (w1 := [(o, .inr (8, [.ref (ad 0), .ref (bd 0)]))] ++ (wT E ad V)) (kc' := kc) (ks' := ks) C (wT E bd H ++ ([(n5, ca E 5 fw), (n6, ca E 5 fh), (n10, ca E 4 fs), (n13, ca E 4 (fset (arI V k) (V.1 24 (k : Int)) (((arI V k) (V.1 24 (k : Int))) + (V.1 23 (k : Int)))))])) (k_X9_household l E o (bd 0) ad V (k : Int) (2) JV.2.1.1 (by omega) (by omega) ⟨by omega, by omega⟩ ⟨by omega, by omega⟩) mX9_household iX9_household wp199 0 8 rfl rfl rfl rfl rfl (Nat.le_of_ble_eq_true rfl) ⟨Nat.le_of_ble_eq_true rfl, Nat.le_of_ble_eq_true rfl⟩ ⟨by show kc + 0 ≤ 600104; omega, by show ks + 0 ≤ 7301314; omega⟩ rfl rfl (by simp only [List.append_assoc]) dL_law_502 rfl ?_
      refine g_ws (ws1 := [(o, .inr (8, [.ref (ad 0), .ref (bd 0)]))] ++ (wT E ad V ++ (wT E bd H ++ ([(n5, ca E 5 fw), (n6, ca E 5 fh), (n10, ca E 4 fs), (n13, ca E 4 (fset (arI V k) (V.1 24 (k : Int)) (((arI V k) (V.1 24 (k : Int))) + (V.1 23 (k : Int)))))])))) (by simp only [List.append_assoc]) ?_
      refine g_if_ne C dL_law_505 512 (by decide) rfl (by omega) (fun c505 => ?_) (fun c505 => ?_)
      · skip
        refine g_iconst C dL_law_512 rfl ?_
        refine g_icmp_eq C dL_law_513 518 (by decide) rfl (by omega) (by omega) (fun c513 => ?_) (fun c513 => ?_)
        rotate_left
        · exfalso; omega
        refine g_iinc (lv' := [(14, .int (iI ((k : Int) + 1))), (15, .int (iI (V.1 24 (k : Int)))), (13, .ref n13), (12, .int (iI (V.1 19 0 + V.1 19 1))), (6, .ref n6), (5, .ref n5), (3, .int (iI (j : Int))), (2, .int (iI all)), (1, .ref o), (0, .ref b)]) C dL_law_518 rfl 1 rfl (by decide) rfl ?_
        refine g_goto C dL_law_521 392 (by decide) ?_
        exact g_to [0, 2, 3, 4, 5, 6, 7, 8, 9] kk rfl rfl rfl
      · skip
        refine g_iconst C dL_law_508 rfl ?_
        refine g_goto C dL_law_509 513 (by decide) ?_
        refine g_icmp_eq C dL_law_513 518 (by decide) rfl (by omega) (by omega) (fun c513 => ?_) (fun c513 => ?_)
        · exfalso; omega
        exfalso; omega
    · skip
      refine g_iconst C dL_law_493 rfl ?_
      refine g_goto C dL_law_494 498 (by decide) ?_
      refine g_aload_n C dL_law_498 rfl 8 rfl ?_
      refine g_iload C dL_law_499 rfl 1 rfl ?_
      refine g_iconst C dL_law_501 rfl ?_
      refine g_callVf (As := [.int (iI (k : Int)), .int (iI (2))]) (rv := some (.int (iI (V.1 23 (k : Int))))) (w1 := [(o, .inr (8, [.ref (ad 0), .ref (bd 0)]))] ++ (wT E ad V)) (kc' := kc) (ks' := ks) C (wT E bd H ++ ([(n5, ca E 5 fw), (n6, ca E 5 fh), (n10, ca E 4 fs), (n13, ca E 4 (fset (arI V k) (V.1 24 (k : Int)) (((arI V k) (V.1 24 (k : Int))) + (V.1 23 (k : Int)))))])) (k_X9_household l E o (bd 0) ad V (k : Int) (2) JV.2.1.1 (by omega) (by omega) ⟨by omega, by omega⟩ ⟨by omega, by omega⟩) mX9_household iX9_household wp199 0 8 rfl rfl rfl rfl rfl (Nat.le_of_ble_eq_true rfl) ⟨Nat.le_of_ble_eq_true rfl, Nat.le_of_ble_eq_true rfl⟩ ⟨by show kc + 0 ≤ 600104; omega, by show ks + 0 ≤ 7301314; omega⟩ rfl rfl (by simp only [List.append_assoc]) dL_law_502 rfl ?_
      refine g_ws (ws1 := [(o, .inr (8, [.ref (ad 0), .ref (bd 0)]))] ++ (wT E ad V ++ (wT E bd H ++ ([(n5, ca E 5 fw), (n6, ca E 5 fh), (n10, ca E 4 fs), (n13, ca E 4 (fset (arI V k) (V.1 24 (k : Int)) (((arI V k) (V.1 24 (k : Int))) + (V.1 23 (k : Int)))))])))) (by simp only [List.append_assoc]) ?_
      refine g_if_ne C dL_law_505 512 (by decide) rfl (by omega) (fun c505 => ?_) (fun c505 => ?_)
      · skip
        refine g_iconst C dL_law_512 rfl ?_
        refine g_icmp_eq C dL_law_513 518 (by decide) rfl (by omega) (by omega) (fun c513 => ?_) (fun c513 => ?_)
        · exfalso; omega
        exfalso; omega
      · skip
        refine g_iconst C dL_law_508 rfl ?_
        refine g_goto C dL_law_509 513 (by decide) ?_
        refine g_icmp_eq C dL_law_513 518 (by decide) rfl (by omega) (by omega) (fun c513 => ?_) (fun c513 => ?_)
        rotate_left
        · exfalso; omega
        refine g_iinc (lv' := [(14, .int (iI ((k : Int) + 1))), (15, .int (iI (V.1 24 (k : Int)))), (13, .ref n13), (12, .int (iI (V.1 19 0 + V.1 19 1))), (6, .ref n6), (5, .ref n5), (3, .int (iI (j : Int))), (2, .int (iI all)), (1, .ref o), (0, .ref b)]) C dL_law_518 rfl 1 rfl (by decide) rfl ?_
        refine g_goto C dL_law_521 392 (by decide) ?_
        exact g_to [0, 2, 3, 4, 5, 6, 7, 8, 9] kk rfl rfl rfl
  · skip
    have m4 := m2 (by omega)
    refine g_iload C dL_law_441 rfl 0 rfl ?_
    refine g_iconst C dL_law_443 rfl ?_
    refine g_icmp_ne C dL_law_444 516 (by decide) rfl (by omega) (by omega) (fun c444 => ?_) (fun c444 => ?_)
    · skip
      exfalso; omega
    · skip
      refine g_aload_n C dL_law_447 rfl 8 rfl ?_
      refine g_iload C dL_law_448 rfl 1 rfl ?_
      refine g_iconst C dL_law_450 rfl ?_
      refine g_callVf (As := [.int (iI (k : Int)), .int (iI (2))]) (rv := some (.int (iI (V.1 23 (k : Int))))) (w1 := [(o, .inr (8, [.ref (ad 0), .ref (bd 0)]))] ++ (wT E ad V)) (kc' := kc) (ks' := ks) C (wT E bd H ++ ([(n5, ca E 5 fw), (n6, ca E 5 fh), (n10, ca E 4 fs), (n13, ca E 4 (fset (arI V k) (V.1 24 (k : Int)) (((arI V k) (V.1 24 (k : Int))) + (V.1 23 (k : Int)))))])) (k_X9_household l E o (bd 0) ad V (k : Int) (2) JV.2.1.1 (by omega) (by omega) ⟨by omega, by omega⟩ ⟨by omega, by omega⟩) mX9_household iX9_household wp199 0 8 rfl rfl rfl rfl rfl (Nat.le_of_ble_eq_true rfl) ⟨Nat.le_of_ble_eq_true rfl, Nat.le_of_ble_eq_true rfl⟩ ⟨by show kc + 0 ≤ 600104; omega, by show ks + 0 ≤ 7301314; omega⟩ rfl rfl (by simp only [List.append_assoc]) dL_law_451 rfl ?_
      refine g_ws (ws1 := [(o, .inr (8, [.ref (ad 0), .ref (bd 0)]))] ++ (wT E ad V ++ (wT E bd H ++ ([(n5, ca E 5 fw), (n6, ca E 5 fh), (n10, ca E 4 fs), (n13, ca E 4 (fset (arI V k) (V.1 24 (k : Int)) (((arI V k) (V.1 24 (k : Int))) + (V.1 23 (k : Int)))))])))) (by simp only [List.append_assoc]) ?_
      refine g_aload C dL_law_454 rfl 4 rfl ?_
      refine g_iload C dL_law_456 rfl 1 rfl ?_
      refine g_iald (f := fh) C dL_law_458 rfl 66 rfl (by omega) (by decide) ?_
      refine g_icmp_ne C dL_law_459 516 (by decide) rfl (by omega) (by omega) (fun c459 => ?_) (fun c459 => ?_)
      · exfalso; omega
      refine g_aload_n C dL_law_462 rfl 8 rfl ?_
      refine g_iload C dL_law_463 rfl 1 rfl ?_
      refine g_iconst C dL_law_465 rfl ?_
      refine g_callVf (As := [.int (iI (k : Int)), .int (iI (2))]) (rv := some (.int (iI (V.1 23 (k : Int))))) (w1 := [(o, .inr (8, [.ref (ad 0), .ref (bd 0)]))] ++ (wT E ad V)) (kc' := kc) (ks' := ks) C (wT E bd H ++ ([(n5, ca E 5 fw), (n6, ca E 5 fh), (n10, ca E 4 fs), (n13, ca E 4 (fset (arI V k) (V.1 24 (k : Int)) (((arI V k) (V.1 24 (k : Int))) + (V.1 23 (k : Int)))))])) (k_X9_household l E o (bd 0) ad V (k : Int) (2) JV.2.1.1 (by omega) (by omega) ⟨by omega, by omega⟩ ⟨by omega, by omega⟩) mX9_household iX9_household wp199 0 8 rfl rfl rfl rfl rfl (Nat.le_of_ble_eq_true rfl) ⟨Nat.le_of_ble_eq_true rfl, Nat.le_of_ble_eq_true rfl⟩ ⟨by show kc + 0 ≤ 600104; omega, by show ks + 0 ≤ 7301314; omega⟩ rfl rfl (by simp only [List.append_assoc]) dL_law_466 rfl ?_
      refine g_ws (ws1 := [(o, .inr (8, [.ref (ad 0), .ref (bd 0)]))] ++ (wT E ad V ++ (wT E bd H ++ ([(n5, ca E 5 fw), (n6, ca E 5 fh), (n10, ca E 4 fs), (n13, ca E 4 (fset (arI V k) (V.1 24 (k : Int)) (((arI V k) (V.1 24 (k : Int))) + (V.1 23 (k : Int)))))])))) (by simp only [List.append_assoc]) ?_
      refine g_aload C dL_law_469 rfl 4 rfl ?_
      refine g_iload C dL_law_471 rfl 1 rfl ?_
      refine g_iald (f := fh) C dL_law_473 rfl 66 rfl (by omega) (by decide) ?_
      refine g_icmp_gt C dL_law_474 516 (by decide) rfl (by omega) (by omega) (fun c474 => ?_) (fun c474 => ?_)
      · exfalso; omega
      refine g_aload_n C dL_law_477 rfl 8 rfl ?_
      refine g_iload C dL_law_478 rfl 1 rfl ?_
      refine g_iconst C dL_law_480 rfl ?_
      refine g_callVf (As := [.int (iI (k : Int)), .int (iI (2))]) (rv := some (.int (iI (V.1 23 (k : Int))))) (w1 := [(o, .inr (8, [.ref (ad 0), .ref (bd 0)]))] ++ (wT E ad V)) (kc' := kc) (ks' := ks) C (wT E bd H ++ ([(n5, ca E 5 fw), (n6, ca E 5 fh), (n10, ca E 4 fs), (n13, ca E 4 (fset (arI V k) (V.1 24 (k : Int)) (((arI V k) (V.1 24 (k : Int))) + (V.1 23 (k : Int)))))])) (k_X9_household l E o (bd 0) ad V (k : Int) (2) JV.2.1.1 (by omega) (by omega) ⟨by omega, by omega⟩ ⟨by omega, by omega⟩) mX9_household iX9_household wp199 0 8 rfl rfl rfl rfl rfl (Nat.le_of_ble_eq_true rfl) ⟨Nat.le_of_ble_eq_true rfl, Nat.le_of_ble_eq_true rfl⟩ ⟨by show kc + 0 ≤ 600104; omega, by show ks + 0 ≤ 7301314; omega⟩ rfl rfl (by simp only [List.append_assoc]) dL_law_481 rfl ?_
      refine g_ws (ws1 := [(o, .inr (8, [.ref (ad 0), .ref (bd 0)]))] ++ (wT E ad V ++ (wT E bd H ++ ([(n5, ca E 5 fw), (n6, ca E 5 fh), (n10, ca E 4 fs), (n13, ca E 4 (fset (arI V k) (V.1 24 (k : Int)) (((arI V k) (V.1 24 (k : Int))) + (V.1 23 (k : Int)))))])))) (by simp only [List.append_assoc]) ?_
      refine g_if_lt C dL_law_484 516 (by decide) rfl (by omega) (fun c484 => ?_) (fun c484 => ?_)
      · exfalso; omega
      refine g_iload C dL_law_487 rfl 0 rfl ?_
      refine g_iconst C dL_law_489 rfl ?_
      refine g_icmp_ne C dL_law_490 497 (by decide) rfl (by omega) (by omega) (fun c490 => ?_) (fun c490 => ?_)
      · skip
        refine g_iconst C dL_law_497 rfl ?_
        refine g_aload_n C dL_law_498 rfl 8 rfl ?_
        refine g_iload C dL_law_499 rfl 1 rfl ?_
        refine g_iconst C dL_law_501 rfl ?_
        refine g_callVf (As := [.int (iI (k : Int)), .int (iI (2))]) (rv := some (.int (iI (V.1 23 (k : Int))))) (w1 := [(o, .inr (8, [.ref (ad 0), .ref (bd 0)]))] ++ (wT E ad V)) (kc' := kc) (ks' := ks) C (wT E bd H ++ ([(n5, ca E 5 fw), (n6, ca E 5 fh), (n10, ca E 4 fs), (n13, ca E 4 (fset (arI V k) (V.1 24 (k : Int)) (((arI V k) (V.1 24 (k : Int))) + (V.1 23 (k : Int)))))])) (k_X9_household l E o (bd 0) ad V (k : Int) (2) JV.2.1.1 (by omega) (by omega) ⟨by omega, by omega⟩ ⟨by omega, by omega⟩) mX9_household iX9_household wp199 0 8 rfl rfl rfl rfl rfl (Nat.le_of_ble_eq_true rfl) ⟨Nat.le_of_ble_eq_true rfl, Nat.le_of_ble_eq_true rfl⟩ ⟨by show kc + 0 ≤ 600104; omega, by show ks + 0 ≤ 7301314; omega⟩ rfl rfl (by simp only [List.append_assoc]) dL_law_502 rfl ?_
        refine g_ws (ws1 := [(o, .inr (8, [.ref (ad 0), .ref (bd 0)]))] ++ (wT E ad V ++ (wT E bd H ++ ([(n5, ca E 5 fw), (n6, ca E 5 fh), (n10, ca E 4 fs), (n13, ca E 4 (fset (arI V k) (V.1 24 (k : Int)) (((arI V k) (V.1 24 (k : Int))) + (V.1 23 (k : Int)))))])))) (by simp only [List.append_assoc]) ?_
        refine g_if_ne C dL_law_505 512 (by decide) rfl (by omega) (fun c505 => ?_) (fun c505 => ?_)
        · skip
          refine g_iconst C dL_law_512 rfl ?_
          refine g_icmp_eq C dL_law_513 518 (by decide) rfl (by omega) (by omega) (fun c513 => ?_) (fun c513 => ?_)
          rotate_left
          · exfalso; omega
          refine g_iinc (lv' := [(14, .int (iI ((k : Int) + 1))), (15, .int (iI (V.1 24 (k : Int)))), (13, .ref n13), (12, .int (iI (V.1 19 0 + V.1 19 1))), (6, .ref n6), (5, .ref n5), (3, .int (iI (j : Int))), (2, .int (iI all)), (1, .ref o), (0, .ref b)]) C dL_law_518 rfl 1 rfl (by decide) rfl ?_
          refine g_goto C dL_law_521 392 (by decide) ?_
          exact g_to [0, 2, 3, 4, 5, 6, 7, 8, 9] kk rfl rfl rfl
        · skip
          refine g_iconst C dL_law_508 rfl ?_
          refine g_goto C dL_law_509 513 (by decide) ?_
          refine g_icmp_eq C dL_law_513 518 (by decide) rfl (by omega) (by omega) (fun c513 => ?_) (fun c513 => ?_)
          · exfalso; omega
          exfalso; omega
      · skip
        refine g_iconst C dL_law_493 rfl ?_
        refine g_goto C dL_law_494 498 (by decide) ?_
        refine g_aload_n C dL_law_498 rfl 8 rfl ?_
        refine g_iload C dL_law_499 rfl 1 rfl ?_
        refine g_iconst C dL_law_501 rfl ?_
        refine g_callVf (As := [.int (iI (k : Int)), .int (iI (2))]) (rv := some (.int (iI (V.1 23 (k : Int))))) (w1 := [(o, .inr (8, [.ref (ad 0), .ref (bd 0)]))] ++ (wT E ad V)) (kc' := kc) (ks' := ks) C (wT E bd H ++ ([(n5, ca E 5 fw), (n6, ca E 5 fh), (n10, ca E 4 fs), (n13, ca E 4 (fset (arI V k) (V.1 24 (k : Int)) (((arI V k) (V.1 24 (k : Int))) + (V.1 23 (k : Int)))))])) (k_X9_household l E o (bd 0) ad V (k : Int) (2) JV.2.1.1 (by omega) (by omega) ⟨by omega, by omega⟩ ⟨by omega, by omega⟩) mX9_household iX9_household wp199 0 8 rfl rfl rfl rfl rfl (Nat.le_of_ble_eq_true rfl) ⟨Nat.le_of_ble_eq_true rfl, Nat.le_of_ble_eq_true rfl⟩ ⟨by show kc + 0 ≤ 600104; omega, by show ks + 0 ≤ 7301314; omega⟩ rfl rfl (by simp only [List.append_assoc]) dL_law_502 rfl ?_
        refine g_ws (ws1 := [(o, .inr (8, [.ref (ad 0), .ref (bd 0)]))] ++ (wT E ad V ++ (wT E bd H ++ ([(n5, ca E 5 fw), (n6, ca E 5 fh), (n10, ca E 4 fs), (n13, ca E 4 (fset (arI V k) (V.1 24 (k : Int)) (((arI V k) (V.1 24 (k : Int))) + (V.1 23 (k : Int)))))])))) (by simp only [List.append_assoc]) ?_
        refine g_if_ne C dL_law_505 512 (by decide) rfl (by omega) (fun c505 => ?_) (fun c505 => ?_)
        · skip
          refine g_iconst C dL_law_512 rfl ?_
          refine g_icmp_eq C dL_law_513 518 (by decide) rfl (by omega) (by omega) (fun c513 => ?_) (fun c513 => ?_)
          · exfalso; omega
          exfalso; omega
        · skip
          refine g_iconst C dL_law_508 rfl ?_
          refine g_goto C dL_law_509 513 (by decide) ?_
          refine g_icmp_eq C dL_law_513 518 (by decide) rfl (by omega) (by omega) (fun c513 => ?_) (fun c513 => ?_)
          rotate_left
          · exfalso; omega
          refine g_iinc (lv' := [(14, .int (iI ((k : Int) + 1))), (15, .int (iI (V.1 24 (k : Int)))), (13, .ref n13), (12, .int (iI (V.1 19 0 + V.1 19 1))), (6, .ref n6), (5, .ref n5), (3, .int (iI (j : Int))), (2, .int (iI all)), (1, .ref o), (0, .ref b)]) C dL_law_518 rfl 1 rfl (by decide) rfl ?_
          refine g_goto C dL_law_521 392 (by decide) ?_
          exact g_to [0, 2, 3, 4, 5, 6, 7, 8, 9] kk rfl rfl rfl
set_option maxHeartbeats 8000000 in
set_option maxRecDepth 100000 in
theorem law_d2 {E : gE} {zp : Program} {l : Launch} {ze : Env} {zs : State} {zm : MethodId} {za : Array Value} {zb : List Frame} {zh : Method} {zc : Code} {zA : Nat → Prop} {zQ : State → Prop} {sa : gTx} {b L : Nat} {xs : Nat → Int32} {o : Nat} {ad bd : Nat → Nat} {kc ks : Nat} {V H : gS} {all t2 : Int} {j n5 n6 n10 n13 : Nat} {fw fh fs : Int → Int} (C : gC E zp zs zm za zh zc cL_law 16 RL (some .boolean) zA) (SX : gSX sa b L xs zA zs) (hL : L ≤ 260) (hkc : kc ≤ 1000) (hks : ks ≤ 10000) (ha : -1000 ≤ all ∧ all ≤ 1000) (JV : jl all t2 V) (kk : gG E zp l ze room_1 zs zm za zb zh zc zA 16 kc ks zQ ([(o, .inr (8, [.ref (ad 0), .ref (bd 0)]))] ++ (wT E ad V ++ (wT E bd H ++ ([(n5, ca E 5 fw), (n6, ca E 5 fh), (n10, ca E 4 fs), (n13, ca E 4 (arI V 5))])))) 595 [(3, .int (iI (j : Int))), (2, .int (iI all)), (1, .ref o), (0, .ref b)] []) : gG E zp l ze room_1 zs zm za zb zh zc zA 16 kc ks zQ ([(o, .inr (8, [.ref (ad 0), .ref (bd 0)]))] ++ (wT E ad V ++ (wT E bd H ++ ([(n5, ca E 5 fw), (n6, ca E 5 fh), (n10, ca E 4 fs), (n13, ca E 4 (arI V 5))])))) 392 [(14, .int (iI ((5 : Nat) : Int))), (13, .ref n13), (12, .int (iI (V.1 19 0 + V.1 19 1))), (6, .ref n6), (5, .ref n5), (3, .int (iI (j : Int))), (2, .int (iI all)), (1, .ref o), (0, .ref b)] [] := by
  have je := j_end JV
  have cV := j_cnt JV
  have jr0 := j_ref JV (k := 0) ⟨by omega, by omega⟩
  have jr1 := j_ref JV (k := 1) ⟨by omega, by omega⟩
  obtain ⟨ar, har⟩ : ∃ z, z = arI V 5 := ⟨_, rfl⟩
  rw [← har] at je kk ⊢
  refine g_iload C dL_law_392 rfl 0 rfl ?_
  refine g_iconst C dL_law_394 rfl ?_
  refine g_icmp_ge C dL_law_395 524 (by decide) rfl (by omega) (by omega) (fun c395 => ?_) (fun c395 => ?_)
  rotate_left
  · exfalso; omega
  refine g_aload C dL_law_524 rfl 1 rfl ?_
  refine g_iconst C dL_law_526 rfl ?_
  refine g_iald (f := ar) C dL_law_527 rfl 68 rfl (by omega) (by decide) ?_
  refine g_aload_n C dL_law_528 rfl 7 rfl ?_
  refine g_iconst C dL_law_529 rfl ?_
  refine g_callVf (As := [.int (iI (2))]) (rv := some (.int (iI (nTell V (2))))) (w1 := [(o, .inr (8, [.ref (ad 0), .ref (bd 0)]))] ++ (wT E ad V)) (kc' := kc) (ks' := ks) C (wT E bd H ++ ([(n5, ca E 5 fw), (n6, ca E 5 fh), (n10, ca E 4 fs), (n13, ca E 4 ar)])) (k_X9_count l E o (bd 0) ad V (2) JV.2.1.1 (by omega) ⟨by omega, by omega⟩) mX9_count iX9_count wp244 0 8 rfl rfl rfl rfl rfl (Nat.le_of_ble_eq_true rfl) ⟨Nat.le_of_ble_eq_true rfl, Nat.le_of_ble_eq_true rfl⟩ ⟨by show kc + 0 ≤ 600104; omega, by show ks + 0 ≤ 7301314; omega⟩ rfl rfl (by simp only [List.append_assoc]) dL_law_530 rfl ?_
  refine g_ws (ws1 := [(o, .inr (8, [.ref (ad 0), .ref (bd 0)]))] ++ (wT E ad V ++ (wT E bd H ++ ([(n5, ca E 5 fw), (n6, ca E 5 fh), (n10, ca E 4 fs), (n13, ca E 4 ar)])))) (by simp only [List.append_assoc]) ?_
  refine g_icmp_ne C dL_law_533 593 (by decide) rfl (by omega) (by omega) (fun c533 => ?_) (fun c533 => ?_)
  · exfalso; omega
  refine g_aload C dL_law_536 rfl 1 rfl ?_
  refine g_iconst C dL_law_538 rfl ?_
  refine g_iald (f := ar) C dL_law_539 rfl 68 rfl (by omega) (by decide) ?_
  refine g_aload_n C dL_law_540 rfl 7 rfl ?_
  refine g_iconst C dL_law_541 rfl ?_
  refine g_callVf (As := [.int (iI (3))]) (rv := some (.int (iI (nTell V (3))))) (w1 := [(o, .inr (8, [.ref (ad 0), .ref (bd 0)]))] ++ (wT E ad V)) (kc' := kc) (ks' := ks) C (wT E bd H ++ ([(n5, ca E 5 fw), (n6, ca E 5 fh), (n10, ca E 4 fs), (n13, ca E 4 ar)])) (k_X9_count l E o (bd 0) ad V (3) JV.2.1.1 (by omega) ⟨by omega, by omega⟩) mX9_count iX9_count wp244 0 8 rfl rfl rfl rfl rfl (Nat.le_of_ble_eq_true rfl) ⟨Nat.le_of_ble_eq_true rfl, Nat.le_of_ble_eq_true rfl⟩ ⟨by show kc + 0 ≤ 600104; omega, by show ks + 0 ≤ 7301314; omega⟩ rfl rfl (by simp only [List.append_assoc]) dL_law_542 rfl ?_
  refine g_ws (ws1 := [(o, .inr (8, [.ref (ad 0), .ref (bd 0)]))] ++ (wT E ad V ++ (wT E bd H ++ ([(n5, ca E 5 fw), (n6, ca E 5 fh), (n10, ca E 4 fs), (n13, ca E 4 ar)])))) (by simp only [List.append_assoc]) ?_
  refine g_icmp_ne C dL_law_545 593 (by decide) rfl (by omega) (by omega) (fun c545 => ?_) (fun c545 => ?_)
  · exfalso; omega
  refine g_aload C dL_law_548 rfl 1 rfl ?_
  refine g_iconst C dL_law_550 rfl ?_
  refine g_iald (f := ar) C dL_law_551 rfl 68 rfl (by omega) (by decide) ?_
  refine g_aload_n C dL_law_552 rfl 7 rfl ?_
  refine g_iconst C dL_law_553 rfl ?_
  refine g_callVf (As := [.int (iI (4))]) (rv := some (.int (iI (nTell V (4))))) (w1 := [(o, .inr (8, [.ref (ad 0), .ref (bd 0)]))] ++ (wT E ad V)) (kc' := kc) (ks' := ks) C (wT E bd H ++ ([(n5, ca E 5 fw), (n6, ca E 5 fh), (n10, ca E 4 fs), (n13, ca E 4 ar)])) (k_X9_count l E o (bd 0) ad V (4) JV.2.1.1 (by omega) ⟨by omega, by omega⟩) mX9_count iX9_count wp244 0 8 rfl rfl rfl rfl rfl (Nat.le_of_ble_eq_true rfl) ⟨Nat.le_of_ble_eq_true rfl, Nat.le_of_ble_eq_true rfl⟩ ⟨by show kc + 0 ≤ 600104; omega, by show ks + 0 ≤ 7301314; omega⟩ rfl rfl (by simp only [List.append_assoc]) dL_law_554 rfl ?_
  refine g_ws (ws1 := [(o, .inr (8, [.ref (ad 0), .ref (bd 0)]))] ++ (wT E ad V ++ (wT E bd H ++ ([(n5, ca E 5 fw), (n6, ca E 5 fh), (n10, ca E 4 fs), (n13, ca E 4 ar)])))) (by simp only [List.append_assoc]) ?_
  refine g_icmp_ne C dL_law_557 593 (by decide) rfl (by omega) (by omega) (fun c557 => ?_) (fun c557 => ?_)
  · exfalso; omega
  refine g_aload C dL_law_560 rfl 1 rfl ?_
  refine g_iconst C dL_law_562 rfl ?_
  refine g_iald (f := ar) C dL_law_563 rfl 68 rfl (by omega) (by decide) ?_
  refine g_iload C dL_law_564 rfl 2 rfl ?_
  refine g_icmp_ne C dL_law_566 593 (by decide) rfl (by omega) (by omega) (fun c566 => ?_) (fun c566 => ?_)
  · exfalso; omega
  refine g_iload_n C dL_law_569 rfl 6 rfl ?_
  refine g_aload C dL_law_570 rfl 1 rfl ?_
  refine g_iconst C dL_law_572 rfl ?_
  refine g_iald (f := ar) C dL_law_573 rfl 68 rfl (by omega) (by decide) ?_
  refine g_isub C dL_law_574 rfl ?_
  refine g_aload C dL_law_575 rfl 1 rfl ?_
  refine g_iconst C dL_law_577 rfl ?_
  refine g_iald (f := ar) C dL_law_578 rfl 68 rfl (by omega) (by decide) ?_
  refine g_isub C dL_law_579 rfl ?_
  refine g_aload C dL_law_580 rfl 1 rfl ?_
  refine g_iconst C dL_law_582 rfl ?_
  refine g_iald (f := ar) C dL_law_583 rfl 68 rfl (by omega) (by decide) ?_
  refine g_isub C dL_law_584 rfl ?_
  refine g_aload_n C dL_law_585 rfl 7 rfl ?_
  refine g_iconst C dL_law_586 rfl ?_
  refine g_callVf (As := [.int (iI (5))]) (rv := some (.int (iI (nTell V (5))))) (w1 := [(o, .inr (8, [.ref (ad 0), .ref (bd 0)]))] ++ (wT E ad V)) (kc' := kc) (ks' := ks) C (wT E bd H ++ ([(n5, ca E 5 fw), (n6, ca E 5 fh), (n10, ca E 4 fs), (n13, ca E 4 ar)])) (k_X9_count l E o (bd 0) ad V (5) JV.2.1.1 (by omega) ⟨by omega, by omega⟩) mX9_count iX9_count wp244 0 8 rfl rfl rfl rfl rfl (Nat.le_of_ble_eq_true rfl) ⟨Nat.le_of_ble_eq_true rfl, Nat.le_of_ble_eq_true rfl⟩ ⟨by show kc + 0 ≤ 600104; omega, by show ks + 0 ≤ 7301314; omega⟩ rfl rfl (by simp only [List.append_assoc]) dL_law_587 rfl ?_
  refine g_ws (ws1 := [(o, .inr (8, [.ref (ad 0), .ref (bd 0)]))] ++ (wT E ad V ++ (wT E bd H ++ ([(n5, ca E 5 fw), (n6, ca E 5 fh), (n10, ca E 4 fs), (n13, ca E 4 ar)])))) (by simp only [List.append_assoc]) ?_
  refine g_icmp_eq C dL_law_590 595 (by decide) rfl (by omega) (by omega) (fun c590 => ?_) (fun c590 => ?_)
  rotate_left
  · exfalso; omega
  exact g_to [5, 6, 7, 8] kk rfl rfl rfl
