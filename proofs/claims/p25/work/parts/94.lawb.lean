/-! what was, what is foreseen, what is told -/
set_option maxHeartbeats 8000000 in
set_option maxRecDepth 100000 in
theorem law_b {E : gE} {zp : Program} {l : Launch} {ze : Env} {zs : State} {zm : MethodId} {za : Array Value} {zb : List Frame} {zh : Method} {zc : Code} {zA : Nat → Prop} {zQ : State → Prop} {sa : gTx} {b L : Nat} {xs : Nat → Int32} {o : Nat} {ad bd : Nat → Nat} {kc ks : Nat} {T H : gS} {all t x : Int} {j : Nat} (C : gC E zp zs zm za zh zc cL_law 16 RL (some .boolean) zA) (SX : gSX sa b L xs zA zs) (hL : L ≤ 260) (hkc : kc ≤ 1000) (hks : ks ≤ 10000) (ht : t ≤ 100) (J : jl all t T) (okH : okT H) (kk : ∀ (n5 n6 n10 n : Nat) (fw fh fs : Int → Int) (U H2 : gS), 1 ≤ n ∧ n ≤ 4 → jl all t U → okT H2 → (∀ i : Int, 0 ≤ i → i < 5 → fw i = U.1 24 i) → (∀ i : Int, 0 ≤ i → i < 5 → fh i = U.1 23 i) → fs 0 = nTell (hoursI U n) 4 → fs 1 = (hoursI U n).2 5 - U.2 5 → fs 2 = nTell (hoursI U n) 6 → gG E zp l ze room_1 zs zm za zb zh zc zA 16 (kc + 1 + 1 + 1) (ks + 5 + 5 + 4) zQ ([(o, .inr (8, [.ref (ad 0), .ref (bd 0)]))] ++ (wT E ad U ++ (wT E bd H2 ++ ([(n5, ca E 5 fw), (n6, ca E 5 fh), (n10, ca E 4 fs)])))) 266 [(10, .ref n10), (9, .int (iI (n : Int))), (6, .ref n6), (5, .ref n5), (3, .int (iI (j : Int))), (2, .int (iI all)), (1, .ref o), (0, .ref b)] []) : gG E zp l ze room_1 zs zm za zb zh zc zA 16 kc ks zQ ([(o, .inr (8, [.ref (ad 0), .ref (bd 0)]))] ++ (wT E ad T ++ (wT E bd H))) 104 [(4, .int (iI x)), (3, .int (iI (j : Int))), (2, .int (iI all)), (1, .ref o), (0, .ref b)] [] := by
  have hh := J.2.2.2.1
  have nT := J.2.2.1
  refine g_iconst C dL_law_104 rfl ?_
  refine g_newa (N := 5) C wd66 rfl (by decide) ⟨by show kc + 1 ≤ 600104; omega, by show ks + 5 ≤ 7301314; omega⟩ dL_law_105 rfl (fun na105 => ?_)
  refine g_ws (ws1 := [(o, .inr (8, [.ref (ad 0), .ref (bd 0)]))] ++ (wT E ad T ++ (wT E bd H ++ ([(na105, ca E 5 (fun _ => 0))])))) (by simp only [List.append_assoc, List.cons_append, List.nil_append]) ?_
  refine g_astore (lv' := [(5, .ref na105), (4, .int (iI x)), (3, .int (iI (j : Int))), (2, .int (iI all)), (1, .ref o), (0, .ref b)]) C dL_law_107 rfl (by decide) rfl ?_
  refine g_iconst C dL_law_109 rfl ?_
  refine g_istore (lv' := [(6, .int (iI (0))), (5, .ref na105), (4, .int (iI x)), (3, .int (iI (j : Int))), (2, .int (iI all)), (1, .ref o), (0, .ref b)]) C dL_law_110 rfl (by decide) rfl ?_
  refine g_iload C dL_law_112 rfl 0 rfl ?_
  refine g_iconst C dL_law_114 rfl ?_
  refine g_icmp_ge C dL_law_115 136 (by decide) rfl (by omega) (by omega) (fun c115 => ?_) (fun c115 => ?_)
  · exfalso; omega
  refine g_aload C dL_law_118 rfl 1 rfl ?_
  refine g_iload C dL_law_120 rfl 0 rfl ?_
  refine g_aload_n C dL_law_122 rfl 5 rfl ?_
  refine g_iload C dL_law_123 rfl 0 rfl ?_
  refine g_iconst C dL_law_125 rfl ?_
  refine g_callVf (As := [.int (iI (0)), .int (iI (3))]) (rv := some (.int (iI (T.1 24 (0))))) (w1 := [(o, .inr (8, [.ref (ad 0), .ref (bd 0)]))] ++ (wT E ad T)) (kc' := (kc + 1)) (ks' := (ks + 5)) C (wT E bd H ++ ([(na105, ca E 5 (fun _ => 0))])) (k_X9_household l E o (bd 0) ad T (0) (3) J.2.1.1 (by omega) (by omega) ⟨by omega, by omega⟩ ⟨by omega, by omega⟩) mX9_household iX9_household wp199 0 8 rfl rfl rfl rfl rfl (Nat.le_of_ble_eq_true rfl) ⟨Nat.le_of_ble_eq_true rfl, Nat.le_of_ble_eq_true rfl⟩ ⟨by show (kc + 1) + 0 ≤ 600104; omega, by show (ks + 5) + 0 ≤ 7301314; omega⟩ rfl rfl (by simp only [List.append_assoc]) dL_law_126 rfl ?_
  refine g_ws (ws1 := [(o, .inr (8, [.ref (ad 0), .ref (bd 0)]))] ++ (wT E ad T ++ (wT E bd H ++ ([(na105, ca E 5 (fun _ => 0))])))) (by simp only [List.append_assoc]) ?_
  refine g_iast (f := (fun _ => 0)) (ws' := [(o, .inr (8, [.ref (ad 0), .ref (bd 0)]))] ++ (wT E ad T ++ (wT E bd H ++ ([(na105, ca E 5 (fset (fun _ => 0) (0) (T.1 24 (0))))])))) C dL_law_129 rfl 65 rfl (by omega) (by decide) rfl ?_
  refine g_iinc (lv' := [(6, .int (iI ((0) + 1))), (5, .ref na105), (4, .int (iI x)), (3, .int (iI (j : Int))), (2, .int (iI all)), (1, .ref o), (0, .ref b)]) C dL_law_130 rfl 0 rfl (by decide) rfl ?_
  refine g_goto C dL_law_133 112 (by decide) ?_
  refine g_to (lv1 := [(6, .int (iI (1))), (5, .ref na105), (4, .int (iI x)), (3, .int (iI (j : Int))), (2, .int (iI all)), (1, .ref o), (0, .ref b)]) [0, 1, 2, 3, 4, 5, 6] ?_ rfl rfl rfl
  refine g_iload C dL_law_112 rfl 0 rfl ?_
  refine g_iconst C dL_law_114 rfl ?_
  refine g_icmp_ge C dL_law_115 136 (by decide) rfl (by omega) (by omega) (fun c115 => ?_) (fun c115 => ?_)
  · exfalso; omega
  refine g_aload C dL_law_118 rfl 1 rfl ?_
  refine g_iload C dL_law_120 rfl 0 rfl ?_
  refine g_aload_n C dL_law_122 rfl 5 rfl ?_
  refine g_iload C dL_law_123 rfl 0 rfl ?_
  refine g_iconst C dL_law_125 rfl ?_
  refine g_callVf (As := [.int (iI (1)), .int (iI (3))]) (rv := some (.int (iI (T.1 24 (1))))) (w1 := [(o, .inr (8, [.ref (ad 0), .ref (bd 0)]))] ++ (wT E ad T)) (kc' := (kc + 1)) (ks' := (ks + 5)) C (wT E bd H ++ ([(na105, ca E 5 (fset (fun _ => 0) (0) (T.1 24 (0))))])) (k_X9_household l E o (bd 0) ad T (1) (3) J.2.1.1 (by omega) (by omega) ⟨by omega, by omega⟩ ⟨by omega, by omega⟩) mX9_household iX9_household wp199 0 8 rfl rfl rfl rfl rfl (Nat.le_of_ble_eq_true rfl) ⟨Nat.le_of_ble_eq_true rfl, Nat.le_of_ble_eq_true rfl⟩ ⟨by show (kc + 1) + 0 ≤ 600104; omega, by show (ks + 5) + 0 ≤ 7301314; omega⟩ rfl rfl (by simp only [List.append_assoc]) dL_law_126 rfl ?_
  refine g_ws (ws1 := [(o, .inr (8, [.ref (ad 0), .ref (bd 0)]))] ++ (wT E ad T ++ (wT E bd H ++ ([(na105, ca E 5 (fset (fun _ => 0) (0) (T.1 24 (0))))])))) (by simp only [List.append_assoc]) ?_
  refine g_iast (f := (fset (fun _ => 0) (0) (T.1 24 (0)))) (ws' := [(o, .inr (8, [.ref (ad 0), .ref (bd 0)]))] ++ (wT E ad T ++ (wT E bd H ++ ([(na105, ca E 5 (fset (fset (fun _ => 0) (0) (T.1 24 (0))) (1) (T.1 24 (1))))])))) C dL_law_129 rfl 65 rfl (by omega) (by decide) rfl ?_
  refine g_iinc (lv' := [(6, .int (iI ((1) + 1))), (5, .ref na105), (4, .int (iI x)), (3, .int (iI (j : Int))), (2, .int (iI all)), (1, .ref o), (0, .ref b)]) C dL_law_130 rfl 0 rfl (by decide) rfl ?_
  refine g_goto C dL_law_133 112 (by decide) ?_
  refine g_to (lv1 := [(6, .int (iI (2))), (5, .ref na105), (4, .int (iI x)), (3, .int (iI (j : Int))), (2, .int (iI all)), (1, .ref o), (0, .ref b)]) [0, 1, 2, 3, 4, 5, 6] ?_ rfl rfl rfl
  refine g_iload C dL_law_112 rfl 0 rfl ?_
  refine g_iconst C dL_law_114 rfl ?_
  refine g_icmp_ge C dL_law_115 136 (by decide) rfl (by omega) (by omega) (fun c115 => ?_) (fun c115 => ?_)
  · exfalso; omega
  refine g_aload C dL_law_118 rfl 1 rfl ?_
  refine g_iload C dL_law_120 rfl 0 rfl ?_
  refine g_aload_n C dL_law_122 rfl 5 rfl ?_
  refine g_iload C dL_law_123 rfl 0 rfl ?_
  refine g_iconst C dL_law_125 rfl ?_
  refine g_callVf (As := [.int (iI (2)), .int (iI (3))]) (rv := some (.int (iI (T.1 24 (2))))) (w1 := [(o, .inr (8, [.ref (ad 0), .ref (bd 0)]))] ++ (wT E ad T)) (kc' := (kc + 1)) (ks' := (ks + 5)) C (wT E bd H ++ ([(na105, ca E 5 (fset (fset (fun _ => 0) (0) (T.1 24 (0))) (1) (T.1 24 (1))))])) (k_X9_household l E o (bd 0) ad T (2) (3) J.2.1.1 (by omega) (by omega) ⟨by omega, by omega⟩ ⟨by omega, by omega⟩) mX9_household iX9_household wp199 0 8 rfl rfl rfl rfl rfl (Nat.le_of_ble_eq_true rfl) ⟨Nat.le_of_ble_eq_true rfl, Nat.le_of_ble_eq_true rfl⟩ ⟨by show (kc + 1) + 0 ≤ 600104; omega, by show (ks + 5) + 0 ≤ 7301314; omega⟩ rfl rfl (by simp only [List.append_assoc]) dL_law_126 rfl ?_
  refine g_ws (ws1 := [(o, .inr (8, [.ref (ad 0), .ref (bd 0)]))] ++ (wT E ad T ++ (wT E bd H ++ ([(na105, ca E 5 (fset (fset (fun _ => 0) (0) (T.1 24 (0))) (1) (T.1 24 (1))))])))) (by simp only [List.append_assoc]) ?_
  refine g_iast (f := (fset (fset (fun _ => 0) (0) (T.1 24 (0))) (1) (T.1 24 (1)))) (ws' := [(o, .inr (8, [.ref (ad 0), .ref (bd 0)]))] ++ (wT E ad T ++ (wT E bd H ++ ([(na105, ca E 5 (fset (fset (fset (fun _ => 0) (0) (T.1 24 (0))) (1) (T.1 24 (1))) (2) (T.1 24 (2))))])))) C dL_law_129 rfl 65 rfl (by omega) (by decide) rfl ?_
  refine g_iinc (lv' := [(6, .int (iI ((2) + 1))), (5, .ref na105), (4, .int (iI x)), (3, .int (iI (j : Int))), (2, .int (iI all)), (1, .ref o), (0, .ref b)]) C dL_law_130 rfl 0 rfl (by decide) rfl ?_
  refine g_goto C dL_law_133 112 (by decide) ?_
  refine g_to (lv1 := [(6, .int (iI (3))), (5, .ref na105), (4, .int (iI x)), (3, .int (iI (j : Int))), (2, .int (iI all)), (1, .ref o), (0, .ref b)]) [0, 1, 2, 3, 4, 5, 6] ?_ rfl rfl rfl
  refine g_iload C dL_law_112 rfl 0 rfl ?_
  refine g_iconst C dL_law_114 rfl ?_
  refine g_icmp_ge C dL_law_115 136 (by decide) rfl (by omega) (by omega) (fun c115 => ?_) (fun c115 => ?_)
  · exfalso; omega
  refine g_aload C dL_law_118 rfl 1 rfl ?_
  refine g_iload C dL_law_120 rfl 0 rfl ?_
  refine g_aload_n C dL_law_122 rfl 5 rfl ?_
  refine g_iload C dL_law_123 rfl 0 rfl ?_
  refine g_iconst C dL_law_125 rfl ?_
  refine g_callVf (As := [.int (iI (3)), .int (iI (3))]) (rv := some (.int (iI (T.1 24 (3))))) (w1 := [(o, .inr (8, [.ref (ad 0), .ref (bd 0)]))] ++ (wT E ad T)) (kc' := (kc + 1)) (ks' := (ks + 5)) C (wT E bd H ++ ([(na105, ca E 5 (fset (fset (fset (fun _ => 0) (0) (T.1 24 (0))) (1) (T.1 24 (1))) (2) (T.1 24 (2))))])) (k_X9_household l E o (bd 0) ad T (3) (3) J.2.1.1 (by omega) (by omega) ⟨by omega, by omega⟩ ⟨by omega, by omega⟩) mX9_household iX9_household wp199 0 8 rfl rfl rfl rfl rfl (Nat.le_of_ble_eq_true rfl) ⟨Nat.le_of_ble_eq_true rfl, Nat.le_of_ble_eq_true rfl⟩ ⟨by show (kc + 1) + 0 ≤ 600104; omega, by show (ks + 5) + 0 ≤ 7301314; omega⟩ rfl rfl (by simp only [List.append_assoc]) dL_law_126 rfl ?_
  refine g_ws (ws1 := [(o, .inr (8, [.ref (ad 0), .ref (bd 0)]))] ++ (wT E ad T ++ (wT E bd H ++ ([(na105, ca E 5 (fset (fset (fset (fun _ => 0) (0) (T.1 24 (0))) (1) (T.1 24 (1))) (2) (T.1 24 (2))))])))) (by simp only [List.append_assoc]) ?_
  refine g_iast (f := (fset (fset (fset (fun _ => 0) (0) (T.1 24 (0))) (1) (T.1 24 (1))) (2) (T.1 24 (2)))) (ws' := [(o, .inr (8, [.ref (ad 0), .ref (bd 0)]))] ++ (wT E ad T ++ (wT E bd H ++ ([(na105, ca E 5 (fset (fset (fset (fset (fun _ => 0) (0) (T.1 24 (0))) (1) (T.1 24 (1))) (2) (T.1 24 (2))) (3) (T.1 24 (3))))])))) C dL_law_129 rfl 65 rfl (by omega) (by decide) rfl ?_
  refine g_iinc (lv' := [(6, .int (iI ((3) + 1))), (5, .ref na105), (4, .int (iI x)), (3, .int (iI (j : Int))), (2, .int (iI all)), (1, .ref o), (0, .ref b)]) C dL_law_130 rfl 0 rfl (by decide) rfl ?_
  refine g_goto C dL_law_133 112 (by decide) ?_
  refine g_to (lv1 := [(6, .int (iI (4))), (5, .ref na105), (4, .int (iI x)), (3, .int (iI (j : Int))), (2, .int (iI all)), (1, .ref o), (0, .ref b)]) [0, 1, 2, 3, 4, 5, 6] ?_ rfl rfl rfl
  refine g_iload C dL_law_112 rfl 0 rfl ?_
  refine g_iconst C dL_law_114 rfl ?_
  refine g_icmp_ge C dL_law_115 136 (by decide) rfl (by omega) (by omega) (fun c115 => ?_) (fun c115 => ?_)
  · exfalso; omega
  refine g_aload C dL_law_118 rfl 1 rfl ?_
  refine g_iload C dL_law_120 rfl 0 rfl ?_
  refine g_aload_n C dL_law_122 rfl 5 rfl ?_
  refine g_iload C dL_law_123 rfl 0 rfl ?_
  refine g_iconst C dL_law_125 rfl ?_
  refine g_callVf (As := [.int (iI (4)), .int (iI (3))]) (rv := some (.int (iI (T.1 24 (4))))) (w1 := [(o, .inr (8, [.ref (ad 0), .ref (bd 0)]))] ++ (wT E ad T)) (kc' := (kc + 1)) (ks' := (ks + 5)) C (wT E bd H ++ ([(na105, ca E 5 (fset (fset (fset (fset (fun _ => 0) (0) (T.1 24 (0))) (1) (T.1 24 (1))) (2) (T.1 24 (2))) (3) (T.1 24 (3))))])) (k_X9_household l E o (bd 0) ad T (4) (3) J.2.1.1 (by omega) (by omega) ⟨by omega, by omega⟩ ⟨by omega, by omega⟩) mX9_household iX9_household wp199 0 8 rfl rfl rfl rfl rfl (Nat.le_of_ble_eq_true rfl) ⟨Nat.le_of_ble_eq_true rfl, Nat.le_of_ble_eq_true rfl⟩ ⟨by show (kc + 1) + 0 ≤ 600104; omega, by show (ks + 5) + 0 ≤ 7301314; omega⟩ rfl rfl (by simp only [List.append_assoc]) dL_law_126 rfl ?_
  refine g_ws (ws1 := [(o, .inr (8, [.ref (ad 0), .ref (bd 0)]))] ++ (wT E ad T ++ (wT E bd H ++ ([(na105, ca E 5 (fset (fset (fset (fset (fun _ => 0) (0) (T.1 24 (0))) (1) (T.1 24 (1))) (2) (T.1 24 (2))) (3) (T.1 24 (3))))])))) (by simp only [List.append_assoc]) ?_
  refine g_iast (f := (fset (fset (fset (fset (fun _ => 0) (0) (T.1 24 (0))) (1) (T.1 24 (1))) (2) (T.1 24 (2))) (3) (T.1 24 (3)))) (ws' := [(o, .inr (8, [.ref (ad 0), .ref (bd 0)]))] ++ (wT E ad T ++ (wT E bd H ++ ([(na105, ca E 5 (fset (fset (fset (fset (fset (fun _ => 0) (0) (T.1 24 (0))) (1) (T.1 24 (1))) (2) (T.1 24 (2))) (3) (T.1 24 (3))) (4) (T.1 24 (4))))])))) C dL_law_129 rfl 65 rfl (by omega) (by decide) rfl ?_
  refine g_iinc (lv' := [(6, .int (iI ((4) + 1))), (5, .ref na105), (4, .int (iI x)), (3, .int (iI (j : Int))), (2, .int (iI all)), (1, .ref o), (0, .ref b)]) C dL_law_130 rfl 0 rfl (by decide) rfl ?_
  refine g_goto C dL_law_133 112 (by decide) ?_
  refine g_to (lv1 := [(6, .int (iI (5))), (5, .ref na105), (4, .int (iI x)), (3, .int (iI (j : Int))), (2, .int (iI all)), (1, .ref o), (0, .ref b)]) [0, 1, 2, 3, 4, 5, 6] ?_ rfl rfl rfl
  refine g_iload C dL_law_112 rfl 0 rfl ?_
  refine g_iconst C dL_law_114 rfl ?_
  refine g_icmp_ge C dL_law_115 136 (by decide) rfl (by omega) (by omega) (fun c115 => ?_) (fun c115 => ?_)
  rotate_left
  · exfalso; omega
  obtain ⟨fw, hfw⟩ : ∃ z, z = (fset (fset (fset (fset (fset (fun _ => 0) (0) (T.1 24 (0))) (1) (T.1 24 (1))) (2) (T.1 24 (2))) (3) (T.1 24 (3))) (4) (T.1 24 (4))) := ⟨_, rfl⟩
  rw [← hfw]
  have vfw : ∀ i : Int, 0 ≤ i → i < 5 → fw i = T.1 24 i := by
    intro i a9 b9
    have h9 : i = 0 ∨ i = 1 ∨ i = 2 ∨ i = 3 ∨ i = 4 := by omega
    rw [hfw]
    rcases h9 with e | e | e | e | e <;> subst e <;> rfl
  refine g_iconst C dL_law_136 rfl ?_
  refine g_newa (N := 5) C wd66 rfl (by decide) ⟨by show (kc + 1) + 1 ≤ 600104; omega, by show (ks + 5) + 5 ≤ 7301314; omega⟩ dL_law_137 rfl (fun na137 => ?_)
  refine g_ws (ws1 := [(o, .inr (8, [.ref (ad 0), .ref (bd 0)]))] ++ (wT E ad T ++ (wT E bd H ++ ([(na105, ca E 5 fw), (na137, ca E 5 (fun _ => 0))])))) (by simp only [List.append_assoc, List.cons_append, List.nil_append]) ?_
  refine g_astore (lv' := [(6, .ref na137), (5, .ref na105), (4, .int (iI x)), (3, .int (iI (j : Int))), (2, .int (iI all)), (1, .ref o), (0, .ref b)]) C dL_law_139 rfl (by decide) rfl ?_
  refine g_iconst C dL_law_141 rfl ?_
  refine g_istore (lv' := [(7, .int (iI (0))), (6, .ref na137), (5, .ref na105), (4, .int (iI x)), (3, .int (iI (j : Int))), (2, .int (iI all)), (1, .ref o), (0, .ref b)]) C dL_law_142 rfl (by decide) rfl ?_
  refine g_iload C dL_law_144 rfl 0 rfl ?_
  refine g_iconst C dL_law_146 rfl ?_
  refine g_icmp_ge C dL_law_147 168 (by decide) rfl (by omega) (by omega) (fun c147 => ?_) (fun c147 => ?_)
  · exfalso; omega
  refine g_aload C dL_law_150 rfl 1 rfl ?_
  refine g_iload C dL_law_152 rfl 0 rfl ?_
  refine g_aload_n C dL_law_154 rfl 6 rfl ?_
  refine g_iload C dL_law_155 rfl 0 rfl ?_
  refine g_iconst C dL_law_157 rfl ?_
  refine g_callVf (As := [.int (iI (0)), .int (iI (2))]) (rv := some (.int (iI (T.1 23 (0))))) (w1 := [(o, .inr (8, [.ref (ad 0), .ref (bd 0)]))] ++ (wT E ad T)) (kc' := ((kc + 1) + 1)) (ks' := ((ks + 5) + 5)) C (wT E bd H ++ ([(na105, ca E 5 fw), (na137, ca E 5 (fun _ => 0))])) (k_X9_household l E o (bd 0) ad T (0) (2) J.2.1.1 (by omega) (by omega) ⟨by omega, by omega⟩ ⟨by omega, by omega⟩) mX9_household iX9_household wp199 0 8 rfl rfl rfl rfl rfl (Nat.le_of_ble_eq_true rfl) ⟨Nat.le_of_ble_eq_true rfl, Nat.le_of_ble_eq_true rfl⟩ ⟨by show ((kc + 1) + 1) + 0 ≤ 600104; omega, by show ((ks + 5) + 5) + 0 ≤ 7301314; omega⟩ rfl rfl (by simp only [List.append_assoc]) dL_law_158 rfl ?_
  refine g_ws (ws1 := [(o, .inr (8, [.ref (ad 0), .ref (bd 0)]))] ++ (wT E ad T ++ (wT E bd H ++ ([(na105, ca E 5 fw), (na137, ca E 5 (fun _ => 0))])))) (by simp only [List.append_assoc]) ?_
  refine g_iast (f := (fun _ => 0)) (ws' := [(o, .inr (8, [.ref (ad 0), .ref (bd 0)]))] ++ (wT E ad T ++ (wT E bd H ++ ([(na105, ca E 5 fw), (na137, ca E 5 (fset (fun _ => 0) (0) (T.1 23 (0))))])))) C dL_law_161 rfl 66 rfl (by omega) (by decide) rfl ?_
  refine g_iinc (lv' := [(7, .int (iI ((0) + 1))), (6, .ref na137), (5, .ref na105), (4, .int (iI x)), (3, .int (iI (j : Int))), (2, .int (iI all)), (1, .ref o), (0, .ref b)]) C dL_law_162 rfl 0 rfl (by decide) rfl ?_
  refine g_goto C dL_law_165 144 (by decide) ?_
  refine g_to (lv1 := [(7, .int (iI (1))), (6, .ref na137), (5, .ref na105), (4, .int (iI x)), (3, .int (iI (j : Int))), (2, .int (iI all)), (1, .ref o), (0, .ref b)]) [0, 1, 2, 3, 4, 5, 6, 7] ?_ rfl rfl rfl
  refine g_iload C dL_law_144 rfl 0 rfl ?_
  refine g_iconst C dL_law_146 rfl ?_
  refine g_icmp_ge C dL_law_147 168 (by decide) rfl (by omega) (by omega) (fun c147 => ?_) (fun c147 => ?_)
  · exfalso; omega
  refine g_aload C dL_law_150 rfl 1 rfl ?_
  refine g_iload C dL_law_152 rfl 0 rfl ?_
  refine g_aload_n C dL_law_154 rfl 6 rfl ?_
  refine g_iload C dL_law_155 rfl 0 rfl ?_
  refine g_iconst C dL_law_157 rfl ?_
  refine g_callVf (As := [.int (iI (1)), .int (iI (2))]) (rv := some (.int (iI (T.1 23 (1))))) (w1 := [(o, .inr (8, [.ref (ad 0), .ref (bd 0)]))] ++ (wT E ad T)) (kc' := ((kc + 1) + 1)) (ks' := ((ks + 5) + 5)) C (wT E bd H ++ ([(na105, ca E 5 fw), (na137, ca E 5 (fset (fun _ => 0) (0) (T.1 23 (0))))])) (k_X9_household l E o (bd 0) ad T (1) (2) J.2.1.1 (by omega) (by omega) ⟨by omega, by omega⟩ ⟨by omega, by omega⟩) mX9_household iX9_household wp199 0 8 rfl rfl rfl rfl rfl (Nat.le_of_ble_eq_true rfl) ⟨Nat.le_of_ble_eq_true rfl, Nat.le_of_ble_eq_true rfl⟩ ⟨by show ((kc + 1) + 1) + 0 ≤ 600104; omega, by show ((ks + 5) + 5) + 0 ≤ 7301314; omega⟩ rfl rfl (by simp only [List.append_assoc]) dL_law_158 rfl ?_
  refine g_ws (ws1 := [(o, .inr (8, [.ref (ad 0), .ref (bd 0)]))] ++ (wT E ad T ++ (wT E bd H ++ ([(na105, ca E 5 fw), (na137, ca E 5 (fset (fun _ => 0) (0) (T.1 23 (0))))])))) (by simp only [List.append_assoc]) ?_
  refine g_iast (f := (fset (fun _ => 0) (0) (T.1 23 (0)))) (ws' := [(o, .inr (8, [.ref (ad 0), .ref (bd 0)]))] ++ (wT E ad T ++ (wT E bd H ++ ([(na105, ca E 5 fw), (na137, ca E 5 (fset (fset (fun _ => 0) (0) (T.1 23 (0))) (1) (T.1 23 (1))))])))) C dL_law_161 rfl 66 rfl (by omega) (by decide) rfl ?_
  refine g_iinc (lv' := [(7, .int (iI ((1) + 1))), (6, .ref na137), (5, .ref na105), (4, .int (iI x)), (3, .int (iI (j : Int))), (2, .int (iI all)), (1, .ref o), (0, .ref b)]) C dL_law_162 rfl 0 rfl (by decide) rfl ?_
  refine g_goto C dL_law_165 144 (by decide) ?_
  refine g_to (lv1 := [(7, .int (iI (2))), (6, .ref na137), (5, .ref na105), (4, .int (iI x)), (3, .int (iI (j : Int))), (2, .int (iI all)), (1, .ref o), (0, .ref b)]) [0, 1, 2, 3, 4, 5, 6, 7] ?_ rfl rfl rfl
  refine g_iload C dL_law_144 rfl 0 rfl ?_
  refine g_iconst C dL_law_146 rfl ?_
  refine g_icmp_ge C dL_law_147 168 (by decide) rfl (by omega) (by omega) (fun c147 => ?_) (fun c147 => ?_)
  · exfalso; omega
  refine g_aload C dL_law_150 rfl 1 rfl ?_
  refine g_iload C dL_law_152 rfl 0 rfl ?_
  refine g_aload_n C dL_law_154 rfl 6 rfl ?_
  refine g_iload C dL_law_155 rfl 0 rfl ?_
  refine g_iconst C dL_law_157 rfl ?_
  refine g_callVf (As := [.int (iI (2)), .int (iI (2))]) (rv := some (.int (iI (T.1 23 (2))))) (w1 := [(o, .inr (8, [.ref (ad 0), .ref (bd 0)]))] ++ (wT E ad T)) (kc' := ((kc + 1) + 1)) (ks' := ((ks + 5) + 5)) C (wT E bd H ++ ([(na105, ca E 5 fw), (na137, ca E 5 (fset (fset (fun _ => 0) (0) (T.1 23 (0))) (1) (T.1 23 (1))))])) (k_X9_household l E o (bd 0) ad T (2) (2) J.2.1.1 (by omega) (by omega) ⟨by omega, by omega⟩ ⟨by omega, by omega⟩) mX9_household iX9_household wp199 0 8 rfl rfl rfl rfl rfl (Nat.le_of_ble_eq_true rfl) ⟨Nat.le_of_ble_eq_true rfl, Nat.le_of_ble_eq_true rfl⟩ ⟨by show ((kc + 1) + 1) + 0 ≤ 600104; omega, by show ((ks + 5) + 5) + 0 ≤ 7301314; omega⟩ rfl rfl (by simp only [List.append_assoc]) dL_law_158 rfl ?_
  refine g_ws (ws1 := [(o, .inr (8, [.ref (ad 0), .ref (bd 0)]))] ++ (wT E ad T ++ (wT E bd H ++ ([(na105, ca E 5 fw), (na137, ca E 5 (fset (fset (fun _ => 0) (0) (T.1 23 (0))) (1) (T.1 23 (1))))])))) (by simp only [List.append_assoc]) ?_
  refine g_iast (f := (fset (fset (fun _ => 0) (0) (T.1 23 (0))) (1) (T.1 23 (1)))) (ws' := [(o, .inr (8, [.ref (ad 0), .ref (bd 0)]))] ++ (wT E ad T ++ (wT E bd H ++ ([(na105, ca E 5 fw), (na137, ca E 5 (fset (fset (fset (fun _ => 0) (0) (T.1 23 (0))) (1) (T.1 23 (1))) (2) (T.1 23 (2))))])))) C dL_law_161 rfl 66 rfl (by omega) (by decide) rfl ?_
  refine g_iinc (lv' := [(7, .int (iI ((2) + 1))), (6, .ref na137), (5, .ref na105), (4, .int (iI x)), (3, .int (iI (j : Int))), (2, .int (iI all)), (1, .ref o), (0, .ref b)]) C dL_law_162 rfl 0 rfl (by decide) rfl ?_
  refine g_goto C dL_law_165 144 (by decide) ?_
  refine g_to (lv1 := [(7, .int (iI (3))), (6, .ref na137), (5, .ref na105), (4, .int (iI x)), (3, .int (iI (j : Int))), (2, .int (iI all)), (1, .ref o), (0, .ref b)]) [0, 1, 2, 3, 4, 5, 6, 7] ?_ rfl rfl rfl
  refine g_iload C dL_law_144 rfl 0 rfl ?_
  refine g_iconst C dL_law_146 rfl ?_
  refine g_icmp_ge C dL_law_147 168 (by decide) rfl (by omega) (by omega) (fun c147 => ?_) (fun c147 => ?_)
  · exfalso; omega
  refine g_aload C dL_law_150 rfl 1 rfl ?_
  refine g_iload C dL_law_152 rfl 0 rfl ?_
  refine g_aload_n C dL_law_154 rfl 6 rfl ?_
  refine g_iload C dL_law_155 rfl 0 rfl ?_
  refine g_iconst C dL_law_157 rfl ?_
  refine g_callVf (As := [.int (iI (3)), .int (iI (2))]) (rv := some (.int (iI (T.1 23 (3))))) (w1 := [(o, .inr (8, [.ref (ad 0), .ref (bd 0)]))] ++ (wT E ad T)) (kc' := ((kc + 1) + 1)) (ks' := ((ks + 5) + 5)) C (wT E bd H ++ ([(na105, ca E 5 fw), (na137, ca E 5 (fset (fset (fset (fun _ => 0) (0) (T.1 23 (0))) (1) (T.1 23 (1))) (2) (T.1 23 (2))))])) (k_X9_household l E o (bd 0) ad T (3) (2) J.2.1.1 (by omega) (by omega) ⟨by omega, by omega⟩ ⟨by omega, by omega⟩) mX9_household iX9_household wp199 0 8 rfl rfl rfl rfl rfl (Nat.le_of_ble_eq_true rfl) ⟨Nat.le_of_ble_eq_true rfl, Nat.le_of_ble_eq_true rfl⟩ ⟨by show ((kc + 1) + 1) + 0 ≤ 600104; omega, by show ((ks + 5) + 5) + 0 ≤ 7301314; omega⟩ rfl rfl (by simp only [List.append_assoc]) dL_law_158 rfl ?_
  refine g_ws (ws1 := [(o, .inr (8, [.ref (ad 0), .ref (bd 0)]))] ++ (wT E ad T ++ (wT E bd H ++ ([(na105, ca E 5 fw), (na137, ca E 5 (fset (fset (fset (fun _ => 0) (0) (T.1 23 (0))) (1) (T.1 23 (1))) (2) (T.1 23 (2))))])))) (by simp only [List.append_assoc]) ?_
  refine g_iast (f := (fset (fset (fset (fun _ => 0) (0) (T.1 23 (0))) (1) (T.1 23 (1))) (2) (T.1 23 (2)))) (ws' := [(o, .inr (8, [.ref (ad 0), .ref (bd 0)]))] ++ (wT E ad T ++ (wT E bd H ++ ([(na105, ca E 5 fw), (na137, ca E 5 (fset (fset (fset (fset (fun _ => 0) (0) (T.1 23 (0))) (1) (T.1 23 (1))) (2) (T.1 23 (2))) (3) (T.1 23 (3))))])))) C dL_law_161 rfl 66 rfl (by omega) (by decide) rfl ?_
  refine g_iinc (lv' := [(7, .int (iI ((3) + 1))), (6, .ref na137), (5, .ref na105), (4, .int (iI x)), (3, .int (iI (j : Int))), (2, .int (iI all)), (1, .ref o), (0, .ref b)]) C dL_law_162 rfl 0 rfl (by decide) rfl ?_
  refine g_goto C dL_law_165 144 (by decide) ?_
  refine g_to (lv1 := [(7, .int (iI (4))), (6, .ref na137), (5, .ref na105), (4, .int (iI x)), (3, .int (iI (j : Int))), (2, .int (iI all)), (1, .ref o), (0, .ref b)]) [0, 1, 2, 3, 4, 5, 6, 7] ?_ rfl rfl rfl
  refine g_iload C dL_law_144 rfl 0 rfl ?_
  refine g_iconst C dL_law_146 rfl ?_
  refine g_icmp_ge C dL_law_147 168 (by decide) rfl (by omega) (by omega) (fun c147 => ?_) (fun c147 => ?_)
  · exfalso; omega
  refine g_aload C dL_law_150 rfl 1 rfl ?_
  refine g_iload C dL_law_152 rfl 0 rfl ?_
  refine g_aload_n C dL_law_154 rfl 6 rfl ?_
  refine g_iload C dL_law_155 rfl 0 rfl ?_
  refine g_iconst C dL_law_157 rfl ?_
  refine g_callVf (As := [.int (iI (4)), .int (iI (2))]) (rv := some (.int (iI (T.1 23 (4))))) (w1 := [(o, .inr (8, [.ref (ad 0), .ref (bd 0)]))] ++ (wT E ad T)) (kc' := ((kc + 1) + 1)) (ks' := ((ks + 5) + 5)) C (wT E bd H ++ ([(na105, ca E 5 fw), (na137, ca E 5 (fset (fset (fset (fset (fun _ => 0) (0) (T.1 23 (0))) (1) (T.1 23 (1))) (2) (T.1 23 (2))) (3) (T.1 23 (3))))])) (k_X9_household l E o (bd 0) ad T (4) (2) J.2.1.1 (by omega) (by omega) ⟨by omega, by omega⟩ ⟨by omega, by omega⟩) mX9_household iX9_household wp199 0 8 rfl rfl rfl rfl rfl (Nat.le_of_ble_eq_true rfl) ⟨Nat.le_of_ble_eq_true rfl, Nat.le_of_ble_eq_true rfl⟩ ⟨by show ((kc + 1) + 1) + 0 ≤ 600104; omega, by show ((ks + 5) + 5) + 0 ≤ 7301314; omega⟩ rfl rfl (by simp only [List.append_assoc]) dL_law_158 rfl ?_
  refine g_ws (ws1 := [(o, .inr (8, [.ref (ad 0), .ref (bd 0)]))] ++ (wT E ad T ++ (wT E bd H ++ ([(na105, ca E 5 fw), (na137, ca E 5 (fset (fset (fset (fset (fun _ => 0) (0) (T.1 23 (0))) (1) (T.1 23 (1))) (2) (T.1 23 (2))) (3) (T.1 23 (3))))])))) (by simp only [List.append_assoc]) ?_
  refine g_iast (f := (fset (fset (fset (fset (fun _ => 0) (0) (T.1 23 (0))) (1) (T.1 23 (1))) (2) (T.1 23 (2))) (3) (T.1 23 (3)))) (ws' := [(o, .inr (8, [.ref (ad 0), .ref (bd 0)]))] ++ (wT E ad T ++ (wT E bd H ++ ([(na105, ca E 5 fw), (na137, ca E 5 (fset (fset (fset (fset (fset (fun _ => 0) (0) (T.1 23 (0))) (1) (T.1 23 (1))) (2) (T.1 23 (2))) (3) (T.1 23 (3))) (4) (T.1 23 (4))))])))) C dL_law_161 rfl 66 rfl (by omega) (by decide) rfl ?_
  refine g_iinc (lv' := [(7, .int (iI ((4) + 1))), (6, .ref na137), (5, .ref na105), (4, .int (iI x)), (3, .int (iI (j : Int))), (2, .int (iI all)), (1, .ref o), (0, .ref b)]) C dL_law_162 rfl 0 rfl (by decide) rfl ?_
  refine g_goto C dL_law_165 144 (by decide) ?_
  refine g_to (lv1 := [(7, .int (iI (5))), (6, .ref na137), (5, .ref na105), (4, .int (iI x)), (3, .int (iI (j : Int))), (2, .int (iI all)), (1, .ref o), (0, .ref b)]) [0, 1, 2, 3, 4, 5, 6, 7] ?_ rfl rfl rfl
  refine g_iload C dL_law_144 rfl 0 rfl ?_
  refine g_iconst C dL_law_146 rfl ?_
  refine g_icmp_ge C dL_law_147 168 (by decide) rfl (by omega) (by omega) (fun c147 => ?_) (fun c147 => ?_)
  rotate_left
  · exfalso; omega
  obtain ⟨fh, hfh⟩ : ∃ z, z = (fset (fset (fset (fset (fset (fun _ => 0) (0) (T.1 23 (0))) (1) (T.1 23 (1))) (2) (T.1 23 (2))) (3) (T.1 23 (3))) (4) (T.1 23 (4))) := ⟨_, rfl⟩
  rw [← hfh]
  have vfh : ∀ i : Int, 0 ≤ i → i < 5 → fh i = T.1 23 i := by
    intro i a9 b9
    have h9 : i = 0 ∨ i = 1 ∨ i = 2 ∨ i = 3 ∨ i = 4 := by omega
    rw [hfh]
    rcases h9 with e | e | e | e | e <;> subst e <;> rfl
  refine g_aload_n C dL_law_168 rfl 6 rfl ?_
  refine g_callVf (As := []) (rv := some (.long (ceP T (ceD T)))) (w1 := [(o, .inr (8, [.ref (ad 0), .ref (bd 0)]))] ++ (wT E ad (ce7 T (ceD T)).2)) (kc' := ((kc + 1) + 1)) (ks' := ((ks + 5) + 5)) C (wT E bd H ++ ([(na105, ca E 5 fw), (na137, ca E 5 fh)])) (k_X9_digest l E o (bd 0) ad T J.2.1.1) mX9_digest iX9_digest wp424 0 8 rfl rfl rfl rfl rfl (Nat.le_of_ble_eq_true rfl) ⟨Nat.le_of_ble_eq_true rfl, Nat.le_of_ble_eq_true rfl⟩ ⟨by show ((kc + 1) + 1) + 0 ≤ 600104; omega, by show ((ks + 5) + 5) + 0 ≤ 7301314; omega⟩ rfl rfl (by simp only [List.append_assoc]) dL_law_169 rfl ?_
  refine g_ws (ws1 := [(o, .inr (8, [.ref (ad 0), .ref (bd 0)]))] ++ (wT E ad (ce7 T (ceD T)).2 ++ (wT E bd H ++ ([(na105, ca E 5 fw), (na137, ca E 5 fh)])))) (by simp only [List.append_assoc]) ?_
  have jd169 := j_dig J
  obtain ⟨T1, hT1⟩ : ∃ z, z = (ce7 T (ceD T)).2 := ⟨_, rfl⟩
  rw [← hT1] at jd169 ⊢
  have JT1 := jd169.1
  refine g_lstore (lv' := [(7, .long (ceP T (ceD T))), (6, .ref na137), (5, .ref na105), (4, .int (iI x)), (3, .int (iI (j : Int))), (2, .int (iI all)), (1, .ref o), (0, .ref b)]) C dL_law_172 rfl (by decide) rfl ?_
  have hh1 := JT1.2.2.2.1
  refine g_iconst C dL_law_174 rfl ?_
  refine g_iload C dL_law_175 rfl 3 rfl ?_
  refine g_iconst C dL_law_177 rfl ?_
  refine g_ishr C dL_law_178 rfl (fun z178 hz178 => ?_)
  refine g_iconst C dL_law_179 rfl ?_
  refine g_below C (by omega) (Nat.le_of_ble_eq_true rfl) ⟨Nat.le_of_ble_eq_true rfl, Nat.le_of_ble_eq_true rfl⟩ ⟨by show ((kc + 1) + 1) + 0 ≤ 600104; omega, by show ((ks + 5) + 5) + 0 ≤ 7301314; omega⟩ dL_law_180 rfl (fun z180 hz180 => ?_)
  refine g_iadd C dL_law_183 rfl ?_
  obtain ⟨n, hn⟩ : ∃ n : Nat, ((1) + z180) = (n : Int) := ⟨(((1) + z180)).toNat, by omega⟩
  rw [hn]
  have hn14 : 1 ≤ n ∧ n ≤ 4 := by omega
  refine g_istore (lv' := [(9, .int (iI (n : Int))), (7, .long (ceP T (ceD T))), (6, .ref na137), (5, .ref na105), (4, .int (iI x)), (3, .int (iI (j : Int))), (2, .int (iI all)), (1, .ref o), (0, .ref b)]) C dL_law_184 rfl (by decide) rfl ?_
  refine g_iconst C dL_law_186 rfl ?_
  refine g_newa (N := 4) C wd66 rfl (by decide) ⟨by show ((kc + 1) + 1) + 1 ≤ 600104; omega, by show ((ks + 5) + 5) + 4 ≤ 7301314; omega⟩ dL_law_187 rfl (fun na187 => ?_)
  refine g_ws (ws1 := [(o, .inr (8, [.ref (ad 0), .ref (bd 0)]))] ++ (wT E ad T1 ++ (wT E bd H ++ ([(na105, ca E 5 fw), (na137, ca E 5 fh), (na187, ca E 4 (fun _ => 0))])))) (by simp only [List.append_assoc, List.cons_append, List.nil_append]) ?_
  refine g_astore (lv' := [(10, .ref na187), (9, .int (iI (n : Int))), (7, .long (ceP T (ceD T))), (6, .ref na137), (5, .ref na105), (4, .int (iI x)), (3, .int (iI (j : Int))), (2, .int (iI all)), (1, .ref o), (0, .ref b)]) C dL_law_189 rfl (by decide) rfl ?_
  refine g_iconst C dL_law_191 rfl ?_
  refine g_istore (lv' := [(11, .int (iI (0))), (10, .ref na187), (9, .int (iI (n : Int))), (7, .long (ceP T (ceD T))), (6, .ref na137), (5, .ref na105), (4, .int (iI x)), (3, .int (iI (j : Int))), (2, .int (iI all)), (1, .ref o), (0, .ref b)]) C dL_law_192 rfl (by decide) rfl ?_
  refine g_iload C dL_law_194 rfl 0 rfl ?_
  refine g_iconst C dL_law_196 rfl ?_
  refine g_icmp_ge C dL_law_197 219 (by decide) rfl (by omega) (by omega) (fun c197 => ?_) (fun c197 => ?_)
  · exfalso; omega
  refine g_aload C dL_law_200 rfl 1 rfl ?_
  refine g_iload C dL_law_202 rfl 0 rfl ?_
  refine g_aload_n C dL_law_204 rfl 9 rfl ?_
  refine g_iload C dL_law_205 rfl 2 rfl ?_
  refine g_iload C dL_law_207 rfl 0 rfl ?_
  refine g_callVf (As := [.int (iI (n : Int)), .int (iI (0))]) (rv := some (.int (iI (cForV T1 (hoursI (copyS H T1) n) (0))))) (w1 := [(o, .inr (8, [.ref (ad 0), .ref (bd 0)]))] ++ (wT E ad T1 ++ (wT E bd (hoursI (copyS H T1) n)))) (kc' := (((kc + 1) + 1) + 1)) (ks' := (((ks + 5) + 5) + 4)) C ([(na105, ca E 5 fw), (na137, ca E 5 fh), (na187, ca E 4 (fun _ => 0))]) (k_X9_foresee l E o ad bd T1 H n (0) JT1.2.1.1 okH ⟨by omega, by omega⟩ JT1.2.1.2.1 ⟨by omega, by omega⟩ ⟨by omega, by omega⟩) mX9_foresee iX9_foresee wp362 0 8 rfl rfl rfl rfl rfl (Nat.le_of_ble_eq_true rfl) ⟨Nat.le_of_ble_eq_true rfl, Nat.le_of_ble_eq_true rfl⟩ ⟨by show (((kc + 1) + 1) + 1) + 0 ≤ 600104; omega, by show (((ks + 5) + 5) + 4) + 0 ≤ 7301314; omega⟩ rfl rfl (by simp only [List.append_assoc]) dL_law_209 rfl ?_
  refine g_ws (ws1 := [(o, .inr (8, [.ref (ad 0), .ref (bd 0)]))] ++ (wT E ad T1 ++ (wT E bd (hoursI (copyS H T1) n) ++ ([(na105, ca E 5 fw), (na137, ca E 5 fh), (na187, ca E 4 (fun _ => 0))])))) (by simp only [List.append_assoc]) ?_
  obtain ⟨H0_, hH0_⟩ : ∃ z, z = (hoursI (copyS H T1) n) := ⟨_, rfl⟩
  rw [← hH0_]
  have okH0_ : okT H0_ := by rw [hH0_]; exact okT_fore JT1 okH n
  have jf0 := j_fore2 JT1 okH n
  rw [← hH0_] at jf0
  refine g_iast (f := (fun _ => 0)) (ws' := [(o, .inr (8, [.ref (ad 0), .ref (bd 0)]))] ++ (wT E ad T1 ++ (wT E bd H0_ ++ ([(na105, ca E 5 fw), (na137, ca E 5 fh), (na187, ca E 4 (fset (fun _ => 0) (0) (cForV T1 H0_ (0))))])))) C dL_law_212 rfl 67 rfl (by omega) (by decide) rfl ?_
  refine g_iinc (lv' := [(11, .int (iI ((0) + 1))), (10, .ref na187), (9, .int (iI (n : Int))), (7, .long (ceP T (ceD T))), (6, .ref na137), (5, .ref na105), (4, .int (iI x)), (3, .int (iI (j : Int))), (2, .int (iI all)), (1, .ref o), (0, .ref b)]) C dL_law_213 rfl 0 rfl (by decide) rfl ?_
  refine g_goto C dL_law_216 194 (by decide) ?_
  refine g_to (lv1 := [(11, .int (iI (1))), (10, .ref na187), (9, .int (iI (n : Int))), (7, .long (ceP T (ceD T))), (6, .ref na137), (5, .ref na105), (4, .int (iI x)), (3, .int (iI (j : Int))), (2, .int (iI all)), (1, .ref o), (0, .ref b)]) [0, 1, 2, 3, 4, 5, 6, 7, 8, 9, 10] ?_ rfl rfl rfl
  refine g_iload C dL_law_194 rfl 0 rfl ?_
  refine g_iconst C dL_law_196 rfl ?_
  refine g_icmp_ge C dL_law_197 219 (by decide) rfl (by omega) (by omega) (fun c197 => ?_) (fun c197 => ?_)
  · exfalso; omega
  refine g_aload C dL_law_200 rfl 1 rfl ?_
  refine g_iload C dL_law_202 rfl 0 rfl ?_
  refine g_aload_n C dL_law_204 rfl 9 rfl ?_
  refine g_iload C dL_law_205 rfl 2 rfl ?_
  refine g_iload C dL_law_207 rfl 0 rfl ?_
  refine g_callVf (As := [.int (iI (n : Int)), .int (iI (1))]) (rv := some (.int (iI (cForV T1 (hoursI (copyS H0_ T1) n) (1))))) (w1 := [(o, .inr (8, [.ref (ad 0), .ref (bd 0)]))] ++ (wT E ad T1 ++ (wT E bd (hoursI (copyS H0_ T1) n)))) (kc' := (((kc + 1) + 1) + 1)) (ks' := (((ks + 5) + 5) + 4)) C ([(na105, ca E 5 fw), (na137, ca E 5 fh), (na187, ca E 4 (fset (fun _ => 0) (0) (cForV T1 H0_ (0))))]) (k_X9_foresee l E o ad bd T1 H0_ n (1) JT1.2.1.1 okH0_ ⟨by omega, by omega⟩ JT1.2.1.2.1 ⟨by omega, by omega⟩ ⟨by omega, by omega⟩) mX9_foresee iX9_foresee wp362 0 8 rfl rfl rfl rfl rfl (Nat.le_of_ble_eq_true rfl) ⟨Nat.le_of_ble_eq_true rfl, Nat.le_of_ble_eq_true rfl⟩ ⟨by show (((kc + 1) + 1) + 1) + 0 ≤ 600104; omega, by show (((ks + 5) + 5) + 4) + 0 ≤ 7301314; omega⟩ rfl rfl (by simp only [List.append_assoc]) dL_law_209 rfl ?_
  refine g_ws (ws1 := [(o, .inr (8, [.ref (ad 0), .ref (bd 0)]))] ++ (wT E ad T1 ++ (wT E bd (hoursI (copyS H0_ T1) n) ++ ([(na105, ca E 5 fw), (na137, ca E 5 fh), (na187, ca E 4 (fset (fun _ => 0) (0) (cForV T1 H0_ (0))))])))) (by simp only [List.append_assoc]) ?_
  obtain ⟨H1_, hH1_⟩ : ∃ z, z = (hoursI (copyS H0_ T1) n) := ⟨_, rfl⟩
  rw [← hH1_]
  have okH1_ : okT H1_ := by rw [hH1_]; exact okT_fore JT1 okH0_ n
  have jf1 := j_fore2 JT1 okH0_ n
  rw [← hH1_] at jf1
  refine g_iast (f := (fset (fun _ => 0) (0) (cForV T1 H0_ (0)))) (ws' := [(o, .inr (8, [.ref (ad 0), .ref (bd 0)]))] ++ (wT E ad T1 ++ (wT E bd H1_ ++ ([(na105, ca E 5 fw), (na137, ca E 5 fh), (na187, ca E 4 (fset (fset (fun _ => 0) (0) (cForV T1 H0_ (0))) (1) (cForV T1 H1_ (1))))])))) C dL_law_212 rfl 67 rfl (by omega) (by decide) rfl ?_
  refine g_iinc (lv' := [(11, .int (iI ((1) + 1))), (10, .ref na187), (9, .int (iI (n : Int))), (7, .long (ceP T (ceD T))), (6, .ref na137), (5, .ref na105), (4, .int (iI x)), (3, .int (iI (j : Int))), (2, .int (iI all)), (1, .ref o), (0, .ref b)]) C dL_law_213 rfl 0 rfl (by decide) rfl ?_
  refine g_goto C dL_law_216 194 (by decide) ?_
  refine g_to (lv1 := [(11, .int (iI (2))), (10, .ref na187), (9, .int (iI (n : Int))), (7, .long (ceP T (ceD T))), (6, .ref na137), (5, .ref na105), (4, .int (iI x)), (3, .int (iI (j : Int))), (2, .int (iI all)), (1, .ref o), (0, .ref b)]) [0, 1, 2, 3, 4, 5, 6, 7, 8, 9, 10] ?_ rfl rfl rfl
  refine g_iload C dL_law_194 rfl 0 rfl ?_
  refine g_iconst C dL_law_196 rfl ?_
  refine g_icmp_ge C dL_law_197 219 (by decide) rfl (by omega) (by omega) (fun c197 => ?_) (fun c197 => ?_)
  · exfalso; omega
  refine g_aload C dL_law_200 rfl 1 rfl ?_
  refine g_iload C dL_law_202 rfl 0 rfl ?_
  refine g_aload_n C dL_law_204 rfl 9 rfl ?_
  refine g_iload C dL_law_205 rfl 2 rfl ?_
  refine g_iload C dL_law_207 rfl 0 rfl ?_
  refine g_callVf (As := [.int (iI (n : Int)), .int (iI (2))]) (rv := some (.int (iI (cForV T1 (hoursI (copyS H1_ T1) n) (2))))) (w1 := [(o, .inr (8, [.ref (ad 0), .ref (bd 0)]))] ++ (wT E ad T1 ++ (wT E bd (hoursI (copyS H1_ T1) n)))) (kc' := (((kc + 1) + 1) + 1)) (ks' := (((ks + 5) + 5) + 4)) C ([(na105, ca E 5 fw), (na137, ca E 5 fh), (na187, ca E 4 (fset (fset (fun _ => 0) (0) (cForV T1 H0_ (0))) (1) (cForV T1 H1_ (1))))]) (k_X9_foresee l E o ad bd T1 H1_ n (2) JT1.2.1.1 okH1_ ⟨by omega, by omega⟩ JT1.2.1.2.1 ⟨by omega, by omega⟩ ⟨by omega, by omega⟩) mX9_foresee iX9_foresee wp362 0 8 rfl rfl rfl rfl rfl (Nat.le_of_ble_eq_true rfl) ⟨Nat.le_of_ble_eq_true rfl, Nat.le_of_ble_eq_true rfl⟩ ⟨by show (((kc + 1) + 1) + 1) + 0 ≤ 600104; omega, by show (((ks + 5) + 5) + 4) + 0 ≤ 7301314; omega⟩ rfl rfl (by simp only [List.append_assoc]) dL_law_209 rfl ?_
  refine g_ws (ws1 := [(o, .inr (8, [.ref (ad 0), .ref (bd 0)]))] ++ (wT E ad T1 ++ (wT E bd (hoursI (copyS H1_ T1) n) ++ ([(na105, ca E 5 fw), (na137, ca E 5 fh), (na187, ca E 4 (fset (fset (fun _ => 0) (0) (cForV T1 H0_ (0))) (1) (cForV T1 H1_ (1))))])))) (by simp only [List.append_assoc]) ?_
  obtain ⟨H2_, hH2_⟩ : ∃ z, z = (hoursI (copyS H1_ T1) n) := ⟨_, rfl⟩
  rw [← hH2_]
  have okH2_ : okT H2_ := by rw [hH2_]; exact okT_fore JT1 okH1_ n
  have jf2 := j_fore2 JT1 okH1_ n
  rw [← hH2_] at jf2
  refine g_iast (f := (fset (fset (fun _ => 0) (0) (cForV T1 H0_ (0))) (1) (cForV T1 H1_ (1)))) (ws' := [(o, .inr (8, [.ref (ad 0), .ref (bd 0)]))] ++ (wT E ad T1 ++ (wT E bd H2_ ++ ([(na105, ca E 5 fw), (na137, ca E 5 fh), (na187, ca E 4 (fset (fset (fset (fun _ => 0) (0) (cForV T1 H0_ (0))) (1) (cForV T1 H1_ (1))) (2) (cForV T1 H2_ (2))))])))) C dL_law_212 rfl 67 rfl (by omega) (by decide) rfl ?_
  refine g_iinc (lv' := [(11, .int (iI ((2) + 1))), (10, .ref na187), (9, .int (iI (n : Int))), (7, .long (ceP T (ceD T))), (6, .ref na137), (5, .ref na105), (4, .int (iI x)), (3, .int (iI (j : Int))), (2, .int (iI all)), (1, .ref o), (0, .ref b)]) C dL_law_213 rfl 0 rfl (by decide) rfl ?_
  refine g_goto C dL_law_216 194 (by decide) ?_
  refine g_to (lv1 := [(11, .int (iI (3))), (10, .ref na187), (9, .int (iI (n : Int))), (7, .long (ceP T (ceD T))), (6, .ref na137), (5, .ref na105), (4, .int (iI x)), (3, .int (iI (j : Int))), (2, .int (iI all)), (1, .ref o), (0, .ref b)]) [0, 1, 2, 3, 4, 5, 6, 7, 8, 9, 10] ?_ rfl rfl rfl
  refine g_iload C dL_law_194 rfl 0 rfl ?_
  refine g_iconst C dL_law_196 rfl ?_
  refine g_icmp_ge C dL_law_197 219 (by decide) rfl (by omega) (by omega) (fun c197 => ?_) (fun c197 => ?_)
  · exfalso; omega
  refine g_aload C dL_law_200 rfl 1 rfl ?_
  refine g_iload C dL_law_202 rfl 0 rfl ?_
  refine g_aload_n C dL_law_204 rfl 9 rfl ?_
  refine g_iload C dL_law_205 rfl 2 rfl ?_
  refine g_iload C dL_law_207 rfl 0 rfl ?_
  refine g_callVf (As := [.int (iI (n : Int)), .int (iI (3))]) (rv := some (.int (iI (cForV T1 (hoursI (copyS H2_ T1) n) (3))))) (w1 := [(o, .inr (8, [.ref (ad 0), .ref (bd 0)]))] ++ (wT E ad T1 ++ (wT E bd (hoursI (copyS H2_ T1) n)))) (kc' := (((kc + 1) + 1) + 1)) (ks' := (((ks + 5) + 5) + 4)) C ([(na105, ca E 5 fw), (na137, ca E 5 fh), (na187, ca E 4 (fset (fset (fset (fun _ => 0) (0) (cForV T1 H0_ (0))) (1) (cForV T1 H1_ (1))) (2) (cForV T1 H2_ (2))))]) (k_X9_foresee l E o ad bd T1 H2_ n (3) JT1.2.1.1 okH2_ ⟨by omega, by omega⟩ JT1.2.1.2.1 ⟨by omega, by omega⟩ ⟨by omega, by omega⟩) mX9_foresee iX9_foresee wp362 0 8 rfl rfl rfl rfl rfl (Nat.le_of_ble_eq_true rfl) ⟨Nat.le_of_ble_eq_true rfl, Nat.le_of_ble_eq_true rfl⟩ ⟨by show (((kc + 1) + 1) + 1) + 0 ≤ 600104; omega, by show (((ks + 5) + 5) + 4) + 0 ≤ 7301314; omega⟩ rfl rfl (by simp only [List.append_assoc]) dL_law_209 rfl ?_
  refine g_ws (ws1 := [(o, .inr (8, [.ref (ad 0), .ref (bd 0)]))] ++ (wT E ad T1 ++ (wT E bd (hoursI (copyS H2_ T1) n) ++ ([(na105, ca E 5 fw), (na137, ca E 5 fh), (na187, ca E 4 (fset (fset (fset (fun _ => 0) (0) (cForV T1 H0_ (0))) (1) (cForV T1 H1_ (1))) (2) (cForV T1 H2_ (2))))])))) (by simp only [List.append_assoc]) ?_
  obtain ⟨H3_, hH3_⟩ : ∃ z, z = (hoursI (copyS H2_ T1) n) := ⟨_, rfl⟩
  rw [← hH3_]
  have okH3_ : okT H3_ := by rw [hH3_]; exact okT_fore JT1 okH2_ n
  have jf3 := j_fore2 JT1 okH2_ n
  rw [← hH3_] at jf3
  refine g_iast (f := (fset (fset (fset (fun _ => 0) (0) (cForV T1 H0_ (0))) (1) (cForV T1 H1_ (1))) (2) (cForV T1 H2_ (2)))) (ws' := [(o, .inr (8, [.ref (ad 0), .ref (bd 0)]))] ++ (wT E ad T1 ++ (wT E bd H3_ ++ ([(na105, ca E 5 fw), (na137, ca E 5 fh), (na187, ca E 4 (fset (fset (fset (fset (fun _ => 0) (0) (cForV T1 H0_ (0))) (1) (cForV T1 H1_ (1))) (2) (cForV T1 H2_ (2))) (3) (cForV T1 H3_ (3))))])))) C dL_law_212 rfl 67 rfl (by omega) (by decide) rfl ?_
  refine g_iinc (lv' := [(11, .int (iI ((3) + 1))), (10, .ref na187), (9, .int (iI (n : Int))), (7, .long (ceP T (ceD T))), (6, .ref na137), (5, .ref na105), (4, .int (iI x)), (3, .int (iI (j : Int))), (2, .int (iI all)), (1, .ref o), (0, .ref b)]) C dL_law_213 rfl 0 rfl (by decide) rfl ?_
  refine g_goto C dL_law_216 194 (by decide) ?_
  refine g_to (lv1 := [(11, .int (iI (4))), (10, .ref na187), (9, .int (iI (n : Int))), (7, .long (ceP T (ceD T))), (6, .ref na137), (5, .ref na105), (4, .int (iI x)), (3, .int (iI (j : Int))), (2, .int (iI all)), (1, .ref o), (0, .ref b)]) [0, 1, 2, 3, 4, 5, 6, 7, 8, 9, 10] ?_ rfl rfl rfl
  refine g_iload C dL_law_194 rfl 0 rfl ?_
  refine g_iconst C dL_law_196 rfl ?_
  refine g_icmp_ge C dL_law_197 219 (by decide) rfl (by omega) (by omega) (fun c197 => ?_) (fun c197 => ?_)
  rotate_left
  · exfalso; omega
  obtain ⟨fs, hfs⟩ : ∃ z, z = (fset (fset (fset (fset (fun _ => 0) (0) (cForV T1 H0_ (0))) (1) (cForV T1 H1_ (1))) (2) (cForV T1 H2_ (2))) (3) (cForV T1 H3_ (3))) := ⟨_, rfl⟩
  rw [← hfs]
  have s0 : fs 0 = cForV T1 H0_ 0 := by rw [hfs]; rfl
  have s1 : fs 1 = cForV T1 H1_ 1 := by rw [hfs]; rfl
  have s2 : fs 2 = cForV T1 H2_ 2 := by rw [hfs]; rfl
  refine g_aload_n C dL_law_219 rfl 9 rfl ?_
  refine g_iconst C dL_law_220 rfl ?_
  refine g_callVf (As := [.int (iI (1))]) (rv := some (.int (iI (cgR (copyS H3_ T1) (1))))) (w1 := [(o, .inr (8, [.ref (ad 0), .ref (bd 0)]))] ++ (wT E ad T1 ++ (wT E bd (hWI (copyS H3_ T1) (cgN (copyS H3_ T1) (1)))))) (kc' := (((kc + 1) + 1) + 1)) (ks' := (((ks + 5) + 5) + 4)) C ([(na105, ca E 5 fw), (na137, ca E 5 fh), (na187, ca E 4 fs)]) (k_X9_rings l E o ad bd T1 H3_ (1) JT1.2.1.1 okH3_ ⟨by omega, by omega⟩ ⟨by omega, by rw [JT1.2.2.1.1]; decide⟩) mX9_rings iX9_rings wp418 0 8 rfl rfl rfl rfl rfl (Nat.le_of_ble_eq_true rfl) ⟨Nat.le_of_ble_eq_true rfl, Nat.le_of_ble_eq_true rfl⟩ ⟨by show (((kc + 1) + 1) + 1) + 0 ≤ 600104; omega, by show (((ks + 5) + 5) + 4) + 0 ≤ 7301314; omega⟩ rfl rfl (by simp only [List.append_assoc]) dL_law_221 rfl ?_
  refine g_ws (ws1 := [(o, .inr (8, [.ref (ad 0), .ref (bd 0)]))] ++ (wT E ad T1 ++ (wT E bd (hWI (copyS H3_ T1) (cgN (copyS H3_ T1) (1))) ++ ([(na105, ca E 5 fw), (na137, ca E 5 fh), (na187, ca E 4 fs)])))) (by simp only [List.append_assoc]) ?_
  obtain ⟨HR, hHR⟩ : ∃ z, z = (hWI (copyS H3_ T1) (cgN (copyS H3_ T1) (1))) := ⟨_, rfl⟩
  rw [← hHR]
  have okHR : okT HR := by rw [hHR]; exact okT_ring JT1 okH3_ _
  have jr := j_ring (H := H3_) JT1
  obtain ⟨rg, hrg⟩ : ∃ z, z = cgR (copyS H3_ T1) 1 := ⟨_, rfl⟩
  rw [← hrg] at jr ⊢
  refine g_istore (lv' := [(11, .int (iI rg)), (10, .ref na187), (9, .int (iI (n : Int))), (7, .long (ceP T (ceD T))), (6, .ref na137), (5, .ref na105), (4, .int (iI x)), (3, .int (iI (j : Int))), (2, .int (iI all)), (1, .ref o), (0, .ref b)]) C dL_law_224 rfl (by decide) rfl ?_
  refine g_aload_n C dL_law_226 rfl 9 rfl ?_
  refine g_callVf (As := []) (rv := some (.long (ceP T1 (ceD T1)))) (w1 := [(o, .inr (8, [.ref (ad 0), .ref (bd 0)]))] ++ (wT E ad (ce7 T1 (ceD T1)).2)) (kc' := (((kc + 1) + 1) + 1)) (ks' := (((ks + 5) + 5) + 4)) C (wT E bd HR ++ ([(na105, ca E 5 fw), (na137, ca E 5 fh), (na187, ca E 4 fs)])) (k_X9_digest l E o (bd 0) ad T1 JT1.2.1.1) mX9_digest iX9_digest wp424 0 8 rfl rfl rfl rfl rfl (Nat.le_of_ble_eq_true rfl) ⟨Nat.le_of_ble_eq_true rfl, Nat.le_of_ble_eq_true rfl⟩ ⟨by show (((kc + 1) + 1) + 1) + 0 ≤ 600104; omega, by show (((ks + 5) + 5) + 4) + 0 ≤ 7301314; omega⟩ rfl rfl (by simp only [List.append_assoc]) dL_law_227 rfl ?_
  refine g_ws (ws1 := [(o, .inr (8, [.ref (ad 0), .ref (bd 0)]))] ++ (wT E ad (ce7 T1 (ceD T1)).2 ++ (wT E bd HR ++ ([(na105, ca E 5 fw), (na137, ca E 5 fh), (na187, ca E 4 fs)])))) (by simp only [List.append_assoc]) ?_
  have jd227 := j_dig JT1
  obtain ⟨T2, hT2⟩ : ∃ z, z = (ce7 T1 (ceD T1)).2 := ⟨_, rfl⟩
  rw [← hT2] at jd227 ⊢
  have JT2 := jd227.1
  refine g_lload C dL_law_230 rfl 3 rfl ?_
  refine g_lcmpE C jd169.2.2.2 dL_law_232 rfl ?_
  refine g_if_ne C dL_law_233 264 (by decide) rfl (by omega) (fun c233 => ?_) (fun c233 => ?_)
  · exfalso; omega
  rw [← hT2] at jr
  refine g_iload C dL_law_236 rfl 0 rfl ?_
  refine g_if_ne C dL_law_238 245 (by decide) rfl (by omega) (fun c238 => ?_) (fun c238 => ?_)
  · skip
    refine g_iconst C dL_law_245 rfl ?_
    refine g_aload_n C dL_law_246 rfl 9 rfl ?_
    refine g_iconst C dL_law_247 rfl ?_
    refine g_iconst C dL_law_248 rfl ?_
    refine g_callVf (As := [.int (iI (1)), .int (iI (4))]) (rv := some (.int (iI (gTell T2 (1) (4))))) (w1 := [(o, .inr (8, [.ref (ad 0), .ref (bd 0)]))] ++ (wT E ad T2)) (kc' := (((kc + 1) + 1) + 1)) (ks' := (((ks + 5) + 5) + 4)) C (wT E bd HR ++ ([(na105, ca E 5 fw), (na137, ca E 5 fh), (na187, ca E 4 fs)])) (k_X9_gauge l E o (bd 0) ad T2 (1) (4) JT2.2.1.1 (by omega) (by omega) ⟨by omega, by rw [JT2.2.2.1.1]; decide⟩ ⟨by omega, by omega⟩) mX9_gauge iX9_gauge wp152 0 8 rfl rfl rfl rfl rfl (Nat.le_of_ble_eq_true rfl) ⟨Nat.le_of_ble_eq_true rfl, Nat.le_of_ble_eq_true rfl⟩ ⟨by show (((kc + 1) + 1) + 1) + 0 ≤ 600104; omega, by show (((ks + 5) + 5) + 4) + 0 ≤ 7301314; omega⟩ rfl rfl (by simp only [List.append_assoc]) dL_law_249 rfl ?_
    refine g_ws (ws1 := [(o, .inr (8, [.ref (ad 0), .ref (bd 0)]))] ++ (wT E ad T2 ++ (wT E bd HR ++ ([(na105, ca E 5 fw), (na137, ca E 5 fh), (na187, ca E 4 fs)])))) (by simp only [List.append_assoc]) ?_
    refine g_iconst C dL_law_252 rfl ?_
    refine g_icmp_ne C dL_law_253 260 (by decide) rfl (by omega) (by omega) (fun c253 => ?_) (fun c253 => ?_)
    · skip
      refine g_iconst C dL_law_260 rfl ?_
      refine g_icmp_eq C dL_law_261 266 (by decide) rfl (by omega) (by omega) (fun c261 => ?_) (fun c261 => ?_)
      rotate_left
      · exfalso; omega
      refine g_to [1, 2, 4, 5, 7, 8, 9, 10] (kk _ _ _ n fw fh fs T2 HR hn14 JT2 okHR ?_ ?_ ?_ ?_ ?_) rfl rfl rfl
      · intro i a9 b9; rw [vfw i a9 b9, jd227.2.1 24 (by decide), jd169.2.1 24 (by decide)]
      · intro i a9 b9; rw [vfh i a9 b9, jd227.2.1 23 (by decide), jd169.2.1 23 (by decide)]
      · rw [s0, jf0.1, hT2]
      · rw [s1, jf1.2.1, hT2]
      · rw [s2, jf2.2.2, hT2]
    · skip
      refine g_iconst C dL_law_256 rfl ?_
      refine g_goto C dL_law_257 261 (by decide) ?_
      refine g_icmp_eq C dL_law_261 266 (by decide) rfl (by omega) (by omega) (fun c261 => ?_) (fun c261 => ?_)
      · exfalso; omega
      exfalso; omega
  · skip
    refine g_iconst C dL_law_241 rfl ?_
    refine g_goto C dL_law_242 246 (by decide) ?_
    refine g_aload_n C dL_law_246 rfl 9 rfl ?_
    refine g_iconst C dL_law_247 rfl ?_
    refine g_iconst C dL_law_248 rfl ?_
    refine g_callVf (As := [.int (iI (1)), .int (iI (4))]) (rv := some (.int (iI (gTell T2 (1) (4))))) (w1 := [(o, .inr (8, [.ref (ad 0), .ref (bd 0)]))] ++ (wT E ad T2)) (kc' := (((kc + 1) + 1) + 1)) (ks' := (((ks + 5) + 5) + 4)) C (wT E bd HR ++ ([(na105, ca E 5 fw), (na137, ca E 5 fh), (na187, ca E 4 fs)])) (k_X9_gauge l E o (bd 0) ad T2 (1) (4) JT2.2.1.1 (by omega) (by omega) ⟨by omega, by rw [JT2.2.2.1.1]; decide⟩ ⟨by omega, by omega⟩) mX9_gauge iX9_gauge wp152 0 8 rfl rfl rfl rfl rfl (Nat.le_of_ble_eq_true rfl) ⟨Nat.le_of_ble_eq_true rfl, Nat.le_of_ble_eq_true rfl⟩ ⟨by show (((kc + 1) + 1) + 1) + 0 ≤ 600104; omega, by show (((ks + 5) + 5) + 4) + 0 ≤ 7301314; omega⟩ rfl rfl (by simp only [List.append_assoc]) dL_law_249 rfl ?_
    refine g_ws (ws1 := [(o, .inr (8, [.ref (ad 0), .ref (bd 0)]))] ++ (wT E ad T2 ++ (wT E bd HR ++ ([(na105, ca E 5 fw), (na137, ca E 5 fh), (na187, ca E 4 fs)])))) (by simp only [List.append_assoc]) ?_
    refine g_iconst C dL_law_252 rfl ?_
    refine g_icmp_ne C dL_law_253 260 (by decide) rfl (by omega) (by omega) (fun c253 => ?_) (fun c253 => ?_)
    · skip
      refine g_iconst C dL_law_260 rfl ?_
      refine g_icmp_eq C dL_law_261 266 (by decide) rfl (by omega) (by omega) (fun c261 => ?_) (fun c261 => ?_)
      · exfalso; omega
      exfalso; omega
    · skip
      refine g_iconst C dL_law_256 rfl ?_
      refine g_goto C dL_law_257 261 (by decide) ?_
      refine g_icmp_eq C dL_law_261 266 (by decide) rfl (by omega) (by omega) (fun c261 => ?_) (fun c261 => ?_)
      rotate_left
      · exfalso; omega
      refine g_to [1, 2, 4, 5, 7, 8, 9, 10] (kk _ _ _ n fw fh fs T2 HR hn14 JT2 okHR ?_ ?_ ?_ ?_ ?_) rfl rfl rfl
      · intro i a9 b9; rw [vfw i a9 b9, jd227.2.1 24 (by decide), jd169.2.1 24 (by decide)]
      · intro i a9 b9; rw [vfh i a9 b9, jd227.2.1 23 (by decide), jd169.2.1 23 (by decide)]
      · rw [s0, jf0.1, hT2]
      · rw [s1, jf1.2.1, hT2]
      · rw [s2, jf2.2.2, hT2]
