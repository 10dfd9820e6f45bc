/-! the pieces put together -/
theorem law_dl {E : gE} {zp : Program} {l : Launch} {ze : Env} {zs : State} {zm : MethodId} {za : Array Value} {zb : List Frame} {zh : Method} {zc : Code} {zA : Nat → Prop} {zQ : State → Prop} {sa : gTx} {b L : Nat} {xs : Nat → Int32} {o : Nat} {ad bd : Nat → Nat} {kc ks : Nat} {T V H : gS} {all t t2 : Int} {j n5 n6 n10 n13 : Nat} {fw fh fs : Int → Int} (C : gC E zp zs zm za zh zc cL_law 16 RL (some .boolean) zA) (SX : gSX sa b L xs zA zs) (hL : L ≤ 260) (hkc : kc ≤ 1000) (hks : ks ≤ 10000) (ha : -1000 ≤ all ∧ all ≤ 1000) (J : jl all t T) (JV : jl all t2 V) (mV : mono T V) (vfw : ∀ i : Int, 0 ≤ i → i < 5 → fw i = T.1 24 i) (vfh : ∀ i : Int, 0 ≤ i → i < 5 → fh i = T.1 23 i) (kk : gG E zp l ze room_1 zs zm za zb zh zc zA 16 kc ks zQ ([(o, .inr (8, [.ref (ad 0), .ref (bd 0)]))] ++ (wT E ad V ++ (wT E bd H ++ ([(n5, ca E 5 fw), (n6, ca E 5 fh), (n10, ca E 4 fs), (n13, ca E 4 (arI V 5))])))) 595 [(3, .int (iI (j : Int))), (2, .int (iI all)), (1, .ref o), (0, .ref b)] []) : ∀ r k : Nat, k + r = 5 → gG E zp l ze room_1 zs zm za zb zh zc zA 16 kc ks zQ ([(o, .inr (8, [.ref (ad 0), .ref (bd 0)]))] ++ (wT E ad V ++ (wT E bd H ++ ([(n5, ca E 5 fw), (n6, ca E 5 fh), (n10, ca E 4 fs), (n13, ca E 4 (arI V k))])))) 392 [(14, .int (iI (k : Int))), (13, .ref n13), (12, .int (iI (V.1 19 0 + V.1 19 1))), (6, .ref n6), (5, .ref n5), (3, .int (iI (j : Int))), (2, .int (iI all)), (1, .ref o), (0, .ref b)] [] := by
  intro r
  induction r with
  | zero =>
    intro k hk
    have hk : k = 5 := by omega
    subst hk
    exact law_d2 C SX hL hkc hks ha JV kk
  | succ r ih =>
    intro k hk
    exact law_d1 C SX hL hkc hks (by omega) J JV mV vfw vfh J.2.2.1.2.2 (ih (k + 1) (by omega))
set_option maxHeartbeats 4000000 in
theorem law_d {E : gE} {zp : Program} {l : Launch} {ze : Env} {zs : State} {zm : MethodId} {za : Array Value} {zb : List Frame} {zh : Method} {zc : Code} {zA : Nat → Prop} {zQ : State → Prop} {sa : gTx} {b L : Nat} {xs : Nat → Int32} {o : Nat} {ad bd : Nat → Nat} {kc ks : Nat} {T V H : gS} {all t t2 : Int} {j n5 n6 n10 : Nat} {fw fh fs : Int → Int} (C : gC E zp zs zm za zh zc cL_law 16 RL (some .boolean) zA) (SX : gSX sa b L xs zA zs) (hL : L ≤ 260) (hkc : kc ≤ 1000) (hks : ks ≤ 10000) (hk2 : kc + 1 ≤ 1000 ∧ ks + 4 ≤ 10000) (ha : -1000 ≤ all ∧ all ≤ 1000) (J : jl all t T) (JV : jl all t2 V) (mV : mono T V) (vfw : ∀ i : Int, 0 ≤ i → i < 5 → fw i = T.1 24 i) (vfh : ∀ i : Int, 0 ≤ i → i < 5 → fh i = T.1 23 i) (kk : ∀ n13 : Nat, gG E zp l ze room_1 zs zm za zb zh zc zA 16 (kc + 1) (ks + 4) zQ ([(o, .inr (8, [.ref (ad 0), .ref (bd 0)]))] ++ (wT E ad V ++ (wT E bd H ++ ([(n5, ca E 5 fw), (n6, ca E 5 fh), (n10, ca E 4 fs), (n13, ca E 4 (arI V 5))])))) 595 [(3, .int (iI (j : Int))), (2, .int (iI all)), (1, .ref o), (0, .ref b)] []) : gG E zp l ze room_1 zs zm za zb zh zc zA 16 kc ks zQ ([(o, .inr (8, [.ref (ad 0), .ref (bd 0)]))] ++ (wT E ad V ++ (wT E bd H ++ ([(n5, ca E 5 fw), (n6, ca E 5 fh), (n10, ca E 4 fs)])))) 384 [(12, .int (iI (V.1 19 0 + V.1 19 1))), (6, .ref n6), (5, .ref n5), (3, .int (iI (j : Int))), (2, .int (iI all)), (1, .ref o), (0, .ref b)] [] := by
  refine g_iconst C dL_law_384 rfl ?_
  refine g_newa (N := 4) C wd66 rfl (by decide) ⟨by show kc + 1 ≤ 600104; omega, by show ks + 4 ≤ 7301314; omega⟩ dL_law_385 rfl (fun na385 => ?_)
  refine g_ws (ws1 := [(o, .inr (8, [.ref (ad 0), .ref (bd 0)]))] ++ (wT E ad V ++ (wT E bd H ++ ([(n5, ca E 5 fw), (n6, ca E 5 fh), (n10, ca E 4 fs), (na385, ca E 4 (fun _ => 0))])))) (by simp only [List.append_assoc, List.cons_append, List.nil_append]) ?_
  refine g_astore (lv' := [(13, .ref na385), (12, .int (iI (V.1 19 0 + V.1 19 1))), (6, .ref n6), (5, .ref n5), (3, .int (iI (j : Int))), (2, .int (iI all)), (1, .ref o), (0, .ref b)]) C dL_law_387 rfl (by decide) rfl ?_
  refine g_iconst C dL_law_389 rfl ?_
  refine g_istore (lv' := [(14, .int (iI (0))), (13, .ref na385), (12, .int (iI (V.1 19 0 + V.1 19 1))), (6, .ref n6), (5, .ref n5), (3, .int (iI (j : Int))), (2, .int (iI all)), (1, .ref o), (0, .ref b)]) C dL_law_390 rfl (by decide) rfl ?_
  have h := law_dl (kc := kc + 1) (ks := ks + 4) (j := j) (n5 := n5) (n6 := n6) (n10 := n10) (n13 := na385) (fw := fw) (fh := fh) (fs := fs) (H := H) C SX hL (by omega) (by omega) ha J JV mV vfw vfh (kk na385) 5 0 (by omega)
  exact g_to [0, 1, 2, 3, 4, 5, 6, 7, 8] h rfl rfl rfl
theorem law_el {E : gE} {zp : Program} {l : Launch} {ze : Env} {zs : State} {zm : MethodId} {za : Array Value} {zb : List Frame} {zh : Method} {zc : Code} {zA : Nat → Prop} {zQ : State → Prop} {sa : gTx} {b L : Nat} {xs : Nat → Int32} {o : Nat} {ad bd : Nat → Nat} {kc ks : Nat} {V H : gS} {all t2 : Int} {j : Nat} (C : gC E zp zs zm za zh zc cL_law 16 RL (some .boolean) zA) (SX : gSX sa b L xs zA zs) (hL : L ≤ 260) (hkc : kc ≤ 1000) (hks : ks ≤ 10000) (JV : jl all t2 V) (kk : gG E zp l ze room_1 zs zm za zb zh zc zA 16 kc ks zQ ([(o, .inr (8, [.ref (ad 0), .ref (bd 0)]))] ++ (wT E ad V ++ (wT E bd H))) 716 [(3, .int (iI (j : Int))), (2, .int (iI all)), (1, .ref o), (0, .ref b)] []) : ∀ r k : Nat, k + r = 80 → gG E zp l ze room_1 zs zm za zb zh zc zA 16 kc ks zQ ([(o, .inr (8, [.ref (ad 0), .ref (bd 0)]))] ++ (wT E ad V ++ (wT E bd H))) 598 [(14, .int (iI (k : Int))), (3, .int (iI (j : Int))), (2, .int (iI all)), (1, .ref o), (0, .ref b)] [] := by
  intro r
  induction r with
  | zero =>
    intro k hk
    refine g_iload C dL_law_598 rfl 0 rfl ?_
    refine g_bipush C dL_law_600 rfl rfl ?_
    refine g_icmp_ge C dL_law_602 716 (by decide) rfl (by omega) (by omega) (fun c602 => ?_) (fun c602 => ?_)
    rotate_left
    · exfalso; omega
    exact g_to [1, 2, 3, 4] kk rfl rfl rfl
  | succ r ih =>
    intro k hk
    exact law_e C SX hL hkc hks (by omega) JV (ih (k + 1) (by omega))
theorem jl_mono {all t t2 : Int} {T : gS} (h : jl all t T) (ht : t ≤ t2) : jl all t2 T := by
  obtain ⟨h0, hp, h1, h2, h3, h4⟩ := h
  exact ⟨h0, hp, h1, ⟨h2.1, by omega⟩, h3, h4⟩
theorem law_f {E : gE} {zp : Program} {l : Launch} {ze : Env} {zs : State} {zm : MethodId} {za : Array Value} {zb : List Frame} {zh : Method} {zc : Code} {zA : Nat → Prop} {zQ : State → Prop} {sa : gTx} {b L : Nat} {xs : Nat → Int32} {o : Nat} {ad bd : Nat → Nat} {kc ks : Nat} {V H : gS} {all t2 : Int} {j n5 n6 n10 n13 : Nat} {fw fh fs ar : Int → Int} (C : gC E zp zs zm za zh zc cL_law 16 RL (some .boolean) zA) (SX : gSX sa b L xs zA zs) (hL : L ≤ 260) (hkc : kc ≤ 1000) (hks : ks ≤ 10000) (JV : jl all t2 V) (kk : gG E zp l ze room_1 zs zm za zb zh zc zA 16 kc ks zQ ([(o, .inr (8, [.ref (ad 0), .ref (bd 0)]))] ++ (wT E ad V ++ (wT E bd H))) 716 [(3, .int (iI (j : Int))), (2, .int (iI all)), (1, .ref o), (0, .ref b)] []) : gG E zp l ze room_1 zs zm za zb zh zc zA 16 kc ks zQ ([(o, .inr (8, [.ref (ad 0), .ref (bd 0)]))] ++ (wT E ad V ++ (wT E bd H ++ ([(n5, ca E 5 fw), (n6, ca E 5 fh), (n10, ca E 4 fs), (n13, ca E 4 ar)])))) 595 [(3, .int (iI (j : Int))), (2, .int (iI all)), (1, .ref o), (0, .ref b)] [] := by
  refine g_drop (w1 := [(o, .inr (8, [.ref (ad 0), .ref (bd 0)]))] ++ (wT E ad V ++ (wT E bd H))) [(n5, ca E 5 fw), (n6, ca E 5 fh), (n10, ca E 4 fs), (n13, ca E 4 ar)] (by simp only [List.append_assoc]) ?_
  refine g_iconst C dL_law_595 rfl ?_
  refine g_istore (lv' := [(14, .int (iI (0))), (3, .int (iI (j : Int))), (2, .int (iI all)), (1, .ref o), (0, .ref b)]) C dL_law_596 rfl (by decide) rfl ?_
  exact g_to [0, 1, 2, 3, 4] (law_el C SX hL hkc hks JV kk 80 0 (by omega)) rfl rfl rfl
set_option maxHeartbeats 4000000 in
theorem law_loop {E : gE} {zp : Program} {l : Launch} {ze : Env} {zs : State} {zm : MethodId} {za : Array Value} {zb : List Frame} {zh : Method} {zc : Code} {zA : Nat → Prop} {zQ : State → Prop} {sa : gTx} {b L : Nat} {xs : Nat → Int32} {o : Nat} {ad bd : Nat → Nat} {all : Int} (hfl : l.stackTraces = false) (C : gC E zp zs zm za zh zc cL_law 16 RL (some .boolean) zA) (SX : gSX sa b L xs zA zs) (hL : L ≤ 260) (ha : -1000 ≤ all ∧ all ≤ 1000) (hend : ∀ (kc ks : Nat) (ws : va_W) (lv : List (Nat × Value)), kc ≤ 600104 → ks ≤ 7301314 → gG E zp l ze room_1 zs zm za zb zh zc zA 16 kc ks zQ ws 722 lv []) : ∀ r j : Nat, j + r = 16 → ∀ T H : gS, jl all (4 * (j : Int)) T → okT H → gG E zp l ze room_1 zs zm za zb zh zc zA 16 (80 + 4 * j) (1500 + 18 * j) zQ ([(o, .inr (8, [.ref (ad 0), .ref (bd 0)]))] ++ (wT E ad T ++ (wT E bd H))) 14 [(3, .int (iI (j : Int))), (2, .int (iI all)), (1, .ref o), (0, .ref b)] [] := by
  intro r
  induction r with
  | zero =>
    intro j hj T H J okH
    refine g_iload_n C dL_law_14 rfl 0 rfl ?_
    refine g_bipush C dL_law_15 rfl rfl ?_
    refine g_icmp_ge C dL_law_17 722 (by decide) rfl (by omega) (by omega) (fun _ => ?_) (fun z => ?_)
    · exact hend _ _ _ _ (by omega) (by omega)
    · exfalso; omega
  | succ r ih =>
    intro j hj T H J okH
    refine law_a C SX hL (by omega) (by omega) (by omega) J ?_
    intro x U hx JU
    refine law_b C SX hL (by omega) (by omega) (by omega) JU okH ?_
    intro n5 n6 n10 n fw fh fs U2 H2 hn JU2 okH2 v5 v6 s0 s1 s2
    refine law_c C SX hL (by omega) (by omega) (by omega) ha hn JU2 okH2 s0 s1 s2 ?_
    intro V JV mV
    refine law_d C SX hL (by omega) (by omega) ⟨by omega, by omega⟩ ha JU2 JV mV v5 v6 ?_
    intro n13
    refine law_f C SX hL (by omega) (by omega) JV ?_
    refine g_iinc (lv' := [(3, .int (iI ((j : Int) + 1))), (2, .int (iI all)), (1, .ref o), (0, .ref b)]) C dL_law_716 rfl 0 rfl (by decide) rfl ?_
    refine g_goto C dL_law_719 14 (by decide) ?_
    refine g_widen (kc' := 80 + 4 * (j + 1)) (ks' := 1500 + 18 * (j + 1)) (by omega) (by omega) ?_
    exact ih (j + 1) (by omega) V H2 (jl_mono JV (by omega)) okH2
