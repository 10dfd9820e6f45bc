set_option maxHeartbeats 8000000 in
set_option maxRecDepth 100000 in
theorem law_loop {E : gE} {p : Program} {l : Launch} {e : Env} {s : State} {m : MethodId} {args : Array Value} {below : List Frame} {meth : Method} {c : Code} {A : Nat → Prop} {Q : State → Prop} {o oc b L : Nat} {xs : Nat → Int32} {ad bd am sd ed : Nat → Nat} {sa : gTx} (hfl : l.stackTraces = false) (C : gC E p s m args meth c cL_law 9 RL (some .boolean) A) (hX : gX sa A s s.heap) (hNc : gNc s) (hXs : va_X b L xs s s.heap) (hbl : b < s.heap.size) (hbA : ¬ A b) (hL : L ≤ 2560)
    (hend : ∀ (kc ks : Nat) (ws : va_W) (lv : List (Nat × Value)), kc ≤ 669734 → ks ≤ 7086902 → gG E p l e room_1 s m args below meth c A 9 kc ks Q ws 1604 lv []) :
    ∀ (r j : Nat), j + r = 513 → ∀ (T H M S K : gS) (f : Nat → Int64), okA T H M S K (36 * (j : Int)) → gG E p l e room_1 s m args below meth c A 9 (200 + 500 * j) (5000 + 3000 * j) Q (wC E o ad bd oc T H f ++ wB E am sd ed M S K) 23 (lvL (5 * (j : Int)) oc (am 0) o b) [] := by
  intro r
  induction r with
  | zero =>
    intro j hj T H M S K f iA
    refine g_iload C dL_law_23 rfl 0 rfl ?_
    refine g_aload_n C dL_law_25 rfl 4 rfl ?_
    refine g_slen C hXs hbl hbA dL_law_26 rfl ?_
    refine g_iconst C dL_law_27 rfl ?_
    refine g_isub C dL_law_28 rfl ?_
    exact g_icmp_gt C dL_law_29 1604 (by decide) rfl (by omega) (by omega) (fun z => hend _ _ _ _ (by omega) (by omega)) (fun z => by omega)
  | succ r ih =>
    intro j hj T H M S K f iA
    have knext : ∀ (T2 H2 M2 S2 K2 : gS) (f2 : Nat → Int64), okA T2 H2 M2 S2 K2 (36 * (j : Int) + 36) → gG E p l e room_1 s m args below meth c A 9 (200 + 500 * j + 500) (5000 + 3000 * j + 3000) Q (wC E o ad bd oc T2 H2 f2 ++ wB E am sd ed M2 S2 K2) 1598 (lvL (5 * (j : Int)) oc (am 0) o b) [] := by
      intro T2 H2 M2 S2 K2 f2 iA2
      have h := ih (j + 1) (by omega) T2 H2 M2 S2 K2 f2 (by rw [show 36 * ((j + 1 : Nat) : Int) = 36 * (j : Int) + 36 by omega]; exact iA2)
      rw [show 200 + 500 * (j + 1) = 200 + 500 * j + 500 by omega, show 5000 + 3000 * (j + 1) = 5000 + 3000 * j + 3000 by omega, show 5 * ((j + 1 : Nat) : Int) = 5 * (j : Int) + 5 by omega] at h
      refine g_iinc C dL_law_1598 rfl 0 rfl (by decide) rfl ?_
      refine g_goto C dL_law_1601 23 (by decide) ?_
      exact g_to [0, 1, 2, 3, 4] h rfl rfl rfl
    refine g_iload C dL_law_23 rfl 0 rfl ?_
    refine g_aload_n C dL_law_25 rfl 4 rfl ?_
    refine g_slen C hXs hbl hbA dL_law_26 rfl ?_
    refine g_iconst C dL_law_27 rfl ?_
    refine g_isub C dL_law_28 rfl ?_
    refine g_icmp_gt C dL_law_29 1604 (by decide) rfl (by omega) (by omega) (fun z => hend _ _ _ _ (by omega) (by omega)) (fun z => ?_)
    have hj5 : 5 * (j : Int) + 5 ≤ (L : Int) := by omega
    have hj9 : j ≤ 511 := by omega
    refine g_aload_n C dL_law_32 rfl 4 rfl ?_
    refine g_iload C dL_law_33 rfl 0 rfl ?_
    refine g_sld C hXs hbl hbA ⟨by omega, by omega⟩ (by omega) dL_law_35 rfl ?_
    refine g_bipush C dL_law_36 rfl rfl ?_
    refine g_iand C dL_law_38 rfl ?_
    have hw := iI_rng (iI (xv xs (5 * (j : Int))) &&& iI 31)
    generalize (iI (xv xs (5 * (j : Int))) &&& iI 31).toInt = w at hw ⊢
    by_cases c0 : w = 0
    · refine g_tableIn C dL_law_39 140 0 c0 (by omega) (by decide) (by decide) rfl (by decide) ?_
      exact lc_setGround hfl C hX hNc hXs hbl hbA hL ⟨by omega, by omega⟩ ⟨by omega, by omega⟩ ⟨by omega, by omega⟩ iA knext
    by_cases c1 : w = 1
    · refine g_tableIn C dL_law_39 220 1 c1 (by omega) (by decide) (by decide) rfl (by decide) ?_
      exact lc_lay hfl C hX hNc hXs hbl hbA hL ⟨by omega, by omega⟩ ⟨by omega, by omega⟩ ⟨by omega, by omega⟩ iA knext
    by_cases c2 : w = 2
    · refine g_tableIn C dL_law_39 300 2 c2 (by omega) (by decide) (by decide) rfl (by decide) ?_
      exact lc_setRiver hfl C hX hNc hXs hbl hbA hL ⟨by omega, by omega⟩ ⟨by omega, by omega⟩ ⟨by omega, by omega⟩ iA knext
    by_cases c3 : w = 3
    · refine g_tableIn C dL_law_39 368 3 c3 (by omega) (by decide) (by decide) rfl (by decide) ?_
      exact lc_addPump hfl C hX hNc hXs hbl hbA hL ⟨by omega, by omega⟩ ⟨by omega, by omega⟩ ⟨by omega, by omega⟩ iA knext
    by_cases c4 : w = 4
    · refine g_tableIn C dL_law_39 460 4 c4 (by omega) (by decide) (by decide) rfl (by decide) ?_
      exact lc_run hfl C hX hNc hXs hbl hbA hL ⟨by omega, by omega⟩ ⟨by omega, by omega⟩ ⟨by omega, by omega⟩ iA knext
    by_cases c5 : w = 5
    · refine g_tableIn C dL_law_39 523 5 c5 (by omega) (by decide) (by decide) rfl (by decide) ?_
      exact lc_addGauge hfl C hX hNc hXs hbl hbA hL ⟨by omega, by omega⟩ ⟨by omega, by omega⟩ ⟨by omega, by omega⟩ iA knext
    by_cases c6 : w = 6
    · refine g_tableIn C dL_law_39 603 6 c6 (by omega) (by decide) (by decide) rfl (by decide) ?_
      exact lc_addRefuge hfl C hX hNc hXs hbl hbA hL ⟨by omega, by omega⟩ ⟨by omega, by omega⟩ ⟨by omega, by omega⟩ iA knext
    by_cases c7 : w = 7
    · refine g_tableIn C dL_law_39 683 7 c7 (by omega) (by decide) (by decide) rfl (by decide) ?_
      exact lc_settle hfl C hX hNc hXs hbl hbA hL ⟨by omega, by omega⟩ ⟨by omega, by omega⟩ ⟨by omega, by omega⟩ iA knext
    by_cases c8 : w = 8
    · refine g_tableIn C dL_law_39 763 8 c8 (by omega) (by decide) (by decide) rfl (by decide) ?_
      exact lc_addCaller hfl C hX hNc hXs hbl hbA hL ⟨by omega, by omega⟩ ⟨by omega, by omega⟩ ⟨by omega, by omega⟩ iA knext
    by_cases c9 : w = 9
    · refine g_tableIn C dL_law_39 831 9 c9 (by omega) (by decide) (by decide) rfl (by decide) ?_
      exact lc_cell hfl C hX hNc hXs hbl hbA hL ⟨by omega, by omega⟩ ⟨by omega, by omega⟩ ⟨by omega, by omega⟩ iA knext
    by_cases c10 : w = 10
    · refine g_tableIn C dL_law_39 911 10 c10 (by omega) (by decide) (by decide) rfl (by decide) ?_
      exact lc_pump hfl C hX hNc hXs hbl hbA hL ⟨by omega, by omega⟩ ⟨by omega, by omega⟩ ⟨by omega, by omega⟩ iA knext
    by_cases c11 : w = 11
    · refine g_tableIn C dL_law_39 979 11 c11 (by omega) (by decide) (by decide) rfl (by decide) ?_
      exact lc_gauge hfl C hX hNc hXs hbl hbA hL ⟨by omega, by omega⟩ ⟨by omega, by omega⟩ ⟨by omega, by omega⟩ iA knext
    by_cases c12 : w = 12
    · refine g_tableIn C dL_law_39 1047 12 c12 (by omega) (by decide) (by decide) rfl (by decide) ?_
      exact lc_refuge hfl C hX hNc hXs hbl hbA hL ⟨by omega, by omega⟩ ⟨by omega, by omega⟩ ⟨by omega, by omega⟩ iA knext
    by_cases c13 : w = 13
    · refine g_tableIn C dL_law_39 1115 13 c13 (by omega) (by decide) (by decide) rfl (by decide) ?_
      exact lc_household hfl C hX hNc hXs hbl hbA hL ⟨by omega, by omega⟩ ⟨by omega, by omega⟩ ⟨by omega, by omega⟩ iA knext
    by_cases c14 : w = 14
    · refine g_tableIn C dL_law_39 1183 14 c14 (by omega) (by decide) (by decide) rfl (by decide) ?_
      exact lc_caller hfl C hX hNc hXs hbl hbA hL ⟨by omega, by omega⟩ ⟨by omega, by omega⟩ ⟨by omega, by omega⟩ iA knext
    by_cases c15 : w = 15
    · refine g_tableIn C dL_law_39 1251 15 c15 (by omega) (by decide) (by decide) rfl (by decide) ?_
      exact lc_count hfl C hX hNc hXs hbl hbA hL ⟨by omega, by omega⟩ ⟨by omega, by omega⟩ ⟨by omega, by omega⟩ iA knext
    by_cases c16 : w = 16
    · refine g_tableIn C dL_law_39 1307 16 c16 (by omega) (by decide) (by decide) rfl (by decide) ?_
      exact lc_pass hfl C hX hNc hXs hbl hbA hL ⟨by omega, by omega⟩ ⟨by omega, by omega⟩ ⟨by omega, by omega⟩ iA knext
    by_cases c17 : w = 17
    · refine g_tableIn C dL_law_39 1363 17 c17 (by omega) (by decide) (by decide) rfl (by decide) ?_
      exact lc_foresee hfl C hX hNc hXs hbl hbA hL ⟨by omega, by omega⟩ ⟨by omega, by omega⟩ ⟨by omega, by omega⟩ iA knext
    by_cases c18 : w = 18
    · refine g_tableIn C dL_law_39 1431 18 c18 (by omega) (by decide) (by decide) rfl (by decide) ?_
      exact lc_rings hfl C hX hNc hXs hbl hbA hL ⟨by omega, by omega⟩ ⟨by omega, by omega⟩ ⟨by omega, by omega⟩ iA knext
    by_cases c19 : w = 19
    · refine g_tableIn C dL_law_39 1487 19 c19 (by omega) (by decide) (by decide) rfl (by decide) ?_
      exact lc_advise hfl C hX hNc hXs hbl hbA hL ⟨by omega, by omega⟩ ⟨by omega, by omega⟩ ⟨by omega, by omega⟩ iA knext
    by_cases c20 : w = 20
    · refine g_tableIn C dL_law_39 1543 20 c20 (by omega) (by decide) (by decide) rfl (by decide) ?_
      exact lc_share C ⟨by omega, by omega⟩ iA knext
    by_cases c21 : w = 21
    · refine g_tableIn C dL_law_39 1584 21 c21 (by omega) (by decide) (by decide) rfl (by decide) ?_
      exact lc_digest C ⟨by omega, by omega⟩ iA knext
    refine g_tableOut C dL_law_39 1598 hw (by omega) (by decide) ?_
    obtain ⟨i1, i2, i3, i4, i5⟩ := iA
    exact g_widen (by omega) (by omega) (knext T H M S K f ⟨i1, i2, i3, i4, by omega⟩)
