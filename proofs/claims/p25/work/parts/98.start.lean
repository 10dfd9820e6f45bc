/-! the law from its entry -/
set_option maxHeartbeats 8000000 in
set_option maxRecDepth 100000 in
/-- YOUR PART: from the entry, for every script of at most 260 ints, the law comes to its end with true -/
theorem whole_start {p : Program} {e : Env} {s : State} {m : MethodId} {below : List Frame} {meth : Method} {c : Code} (l : Launch) (hflags : l.flags = flags0) {b L : Nat} {xs : Nat → Int32} (hL : L ≤ 260) (C0 : lw_At p s m meth c b L xs) : W p l e room_1 s m #[Value.ref b] below meth c s.heap [] 0 0 (lw_Z below #[Value.ref b] s) (entryFrame m ([Value.ref b] : List Value).toArray 16) := by
  obtain ⟨hx, hb, hr, hml, hown, hts, hX0, hbl, hlocks, hgv⟩ := id C0
  have hg : ∀ w ∈ lw_g, w.before #[Value.ref b] s = true := fun w hw => hts w (List.mem_filter.mp hw).1
  obtain ⟨E, hK⟩ := kn_at hg
  obtain ⟨sa, hX⟩ := gX_at (A := fun q : Nat => s.heap.size ≤ q) hts hgv (fun a h => Nat.not_le.mpr h)
  have C : gC E p s m #[Value.ref b] meth c cL_law 16 RL (some .boolean) (fun q : Nat => s.heap.size ≤ q) := ⟨hx, hb, hml, hown, hg, hK, gN_at hts, fun q h => h, hr, hlocks⟩
  have SX : gSX sa b L xs (fun q : Nat => s.heap.size ≤ q) s := ⟨hX, gNc_at hts, hX0, hbl, Nat.not_le.mpr hbl⟩
  have hfl : l.stackTraces = false := by
    unfold Launch.stackTraces
    rw [hflags]
    decide +kernel
  have hend : ∀ (kc ks : Nat) (ws : va_W) (lv : List (Nat × Value)), kc ≤ 600104 → ks ≤ 7301314 → gG E p l e room_1 s m #[Value.ref b] below meth c (fun q : Nat => s.heap.size ≤ q) 16 kc ks (lw_Z below #[Value.ref b] s) ws 722 lv [] := by
    intro kc ks ws lv h1 h2
    refine g_iconst C dL_law_722 rfl ?_
    intro H locs ls hP hD hS hl
    refine va_forget (fun q hq => hS.2.2 q hq) ?_
    refine W.widen h1 h2 ?_
    exact lw_ret hx hb hr hlocks dL_law_723
  have G : gG E p l e room_1 s m #[Value.ref b] below meth c (fun q : Nat => s.heap.size ≤ q) 16 0 0 (lw_Z below #[Value.ref b] s) [] 0 [(0, .ref b)] [] := by
    refine g_aload_n C dL_law_0 rfl 0 rfl ?_
    refine g_iconst C dL_law_1 rfl ?_
    refine g_callSS (As := [.ref b, .int (iI 1)]) (rest := []) C SX (k_L_town l E sa hfl b L xs hL) mL_town wp468 wp467 rfl rfl (Nat.le_of_ble_eq_true rfl) ⟨Nat.le_of_ble_eq_true rfl, Nat.le_of_ble_eq_true rfl⟩ ⟨Nat.le_of_ble_eq_true rfl, Nat.le_of_ble_eq_true rfl⟩ dL_law_2 rfl ?_
    intro rv9 w1 h
    obtain ⟨o, ad, bd, T, rfl, rfl, hB, n2, n3, n4⟩ := h
    refine g_ws (List.append_nil _) ?_
    refine g_widen (kc' := 80) (ks' := 1500) (by decide) (by decide) ?_
    have JT := j_of hB ⟨n2, n3, n4⟩
    have cT := j_cnt JT
    refine g_astore_n (lv' := [(1, .ref o), (0, .ref b)]) C dL_law_5 rfl (by decide) rfl ?_
    refine g_aload_n C dL_law_6 rfl 0 rfl ?_
    refine g_iconst C dL_law_7 rfl ?_
    refine g_callVf (As := [.int (iI (2))]) (rv := some (.int (iI (nTell T (2))))) (w1 := [(o, .inr (8, [.ref (ad 0), .ref (bd 0)]))] ++ (wT E ad T)) (kc' := 80) (ks' := 1500) C (wT E bd gT0) (k_X9_count l E o (bd 0) ad T (2) JT.2.1.1 (by omega) ⟨by omega, by omega⟩) mX9_count iX9_count wp244 0 8 rfl rfl rfl rfl rfl (Nat.le_of_ble_eq_true rfl) ⟨Nat.le_of_ble_eq_true rfl, Nat.le_of_ble_eq_true rfl⟩ ⟨Nat.le_of_ble_eq_true rfl, Nat.le_of_ble_eq_true rfl⟩ rfl rfl (by simp only [List.append_assoc]) dL_law_8 rfl ?_
    refine g_ws (ws1 := [(o, .inr (8, [.ref (ad 0), .ref (bd 0)]))] ++ (wT E ad T ++ (wT E bd gT0))) (by simp only [List.append_assoc]) ?_
    refine g_istore_n (lv' := [(2, .int (iI (nTell T (2)))), (1, .ref o), (0, .ref b)]) C dL_law_11 rfl (by decide) rfl ?_
    refine g_iconst C dL_law_12 rfl ?_
    refine g_istore_n (lv' := [(3, .int (iI (0))), (2, .int (iI (nTell T (2)))), (1, .ref o), (0, .ref b)]) C dL_law_13 rfl (by decide) rfl ?_
    exact g_to [0, 1, 2, 3] (law_loop hfl C ⟨hX, gNc_at hts, hX0, hbl, Nat.not_le.mpr hbl⟩ hL (by omega) hend 16 0 (by omega) T gT0 (by rw [show 4 * ((0 : Nat) : Int) = 0 by decide]; exact JT) okT_0) rfl rfl rfl
  have hl := lv_entry ([.ref b]) (n := 16) (Nat.le_of_ble_eq_true rfl)
  rw [lg_entry_eq]
  have hP : va_P E.1 vwCl [] s.heap := fun k q h => by simp at h
  have hD : va_D (fun q : Nat => s.heap.size ≤ q) [] := ⟨fun i j p q h => by simp at h, fun k q h => by simp at h⟩
  exact G s.heap [] _ hP hD va_S.rf hl
