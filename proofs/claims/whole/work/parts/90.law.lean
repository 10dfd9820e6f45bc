set_option maxHeartbeats 8000000 in
set_option maxRecDepth 100000 in
theorem whole_start {p : Program} {e : Env} {s : State} {m : MethodId} {below : List Frame} {meth : Method} {c : Code} (l : Launch) (hflags : l.flags = flags0) {b L : Nat} {xs : Nat → Int32} (hL : L ≤ 2560) (C0 : lw_At p s m meth c b L xs) : W p l e room_1 s m #[Value.ref b] below meth c s.heap [] 0 0 (lw_Z below #[Value.ref b] s) (entryFrame m ([Value.ref b] : List Value).toArray 9) := by
  obtain ⟨hx, hb, hr, hml, hown, hts, hX0, hbl, hlocks, hgv⟩ := id C0
  have hg : ∀ w ∈ lw_g, w.before #[Value.ref b] s = true := fun w hw => hts w (List.mem_filter.mp hw).1
  obtain ⟨E, hK⟩ := kn_at hg
  obtain ⟨sa, hX⟩ := gX_at (A := fun q : Nat => s.heap.size ≤ q) hts hgv (fun a h => Nat.not_le.mpr h)
  have hNc := gNc_at hts hgv
  have C : gC E p s m #[Value.ref b] meth c cL_law 9 RL (some .boolean) (fun q : Nat => s.heap.size ≤ q) := ⟨hx, hb, hml, hown, hg, hK, gN_at hts, fun q h => h, hr, hlocks⟩
  have hfl : l.stackTraces = false := by
    unfold Launch.stackTraces
    rw [hflags]
    decide +kernel
  have hend : ∀ (kc ks : Nat) (ws : va_W) (lv : List (Nat × Value)), kc ≤ 669734 → ks ≤ 7086902 → gG E p l e room_1 s m #[Value.ref b] below meth c (fun q : Nat => s.heap.size ≤ q) 9 kc ks (lw_Z below #[Value.ref b] s) ws 1604 lv [] := by
    intro kc ks ws lv h1 h2
    refine g_iconst C dL_law_1604 rfl ?_
    intro H locs ls hP hD hS hl
    refine va_forget (fun q hq => hS.2.2 q hq) ?_
    refine W.widen h1 h2 ?_
    exact W.base (lw_ret (d0 := s.drawn) (Drawn.sameBut.refl s.drawn lw_cs) hx hb hr hlocks dL_law_1605)
  have G : gG E p l e room_1 s m #[Value.ref b] below meth c (fun q : Nat => s.heap.size ≤ q) 9 0 0 (lw_Z below #[Value.ref b] s) [] 0 [(0, .ref b)] [] := by
    refine g_new (T := TX9) (N := 2) (ci := 8) (fs := [.null, .null]) C in_X9 tyX9 tyX9_ok ⟨wd21, wd22, wd1⟩ rfl (by intro j hj; have h9 : j = 0 ∨ j = 1 := (by omega); rcases h9 with h9 | h9 <;> subst h9 <;> rfl) ⟨Nat.le_of_ble_eq_true rfl, Nat.le_of_ble_eq_true rfl⟩ dL_law_0 rfl (fun o => ?_)
    refine g_dup C dL_law_3 rfl rfl ?_
    refine g_callIX (As := []) (kc' := 65) (ks' := 1394) C [] (k_X9_init l E o) mX9_init wd24 rfl wd23 rfl rfl (Nat.le_of_ble_eq_true rfl) ⟨Nat.le_of_ble_eq_true rfl, Nat.le_of_ble_eq_true rfl⟩ ⟨Nat.le_of_ble_eq_true rfl, Nat.le_of_ble_eq_true rfl⟩ rfl dL_law_4 rfl rfl rfl ?_
    intro w1 hw1
    obtain ⟨ad, bd, rfl⟩ := hw1
    refine g_astore_n C dL_law_7 rfl (by decide) rfl ?_
    refine g_new (T := TX11) (N := 13) (ci := 10) (fs := [.int (iI 0), .null, .int (iI 0), .int (iI 0), .int (iI 0), .int (iI 0), .int (iI 0), .null, .null, .null, .null, .null, .null]) C in_X11 tyX11 tyX11_ok ⟨wd881, wd882, wd11⟩ rfl (by intro j hj; have h9 : j = 0 ∨ j = 1 ∨ j = 2 ∨ j = 3 ∨ j = 4 ∨ j = 5 ∨ j = 6 ∨ j = 7 ∨ j = 8 ∨ j = 9 ∨ j = 10 ∨ j = 11 ∨ j = 12 := (by omega); rcases h9 with h9 | h9 | h9 | h9 | h9 | h9 | h9 | h9 | h9 | h9 | h9 | h9 | h9 <;> subst h9 <;> rfl) ⟨Nat.le_of_ble_eq_true rfl, Nat.le_of_ble_eq_true rfl⟩ dL_law_8 rfl (fun q => ?_)
    refine g_dup C dL_law_11 rfl rfl ?_
    refine g_perm (ws1 := [(q, .inr (10, [.int (iI 0), .null, .int (iI 0), .int (iI 0), .int (iI 0), .int (iI 0), .int (iI 0), .null, .null, .null, .null, .null, .null]))] ++ ([(o, .inr (8, [.ref (ad 0), .ref (bd 0)]))] ++ (wT E ad gT0 ++ wT E bd gT0))) (by rw [List.append_nil]; exact List.perm_append_comm) ?_
    refine g_callIX (As := []) (kc' := 89) (ks' := 2413) C ([(o, .inr (8, [.ref (ad 0), .ref (bd 0)]))] ++ (wT E ad gT0 ++ wT E bd gT0)) (k_X11_init l E q) mX11_init wd884 rfl wd883 rfl rfl (Nat.le_of_ble_eq_true rfl) ⟨Nat.le_of_ble_eq_true rfl, Nat.le_of_ble_eq_true rfl⟩ ⟨Nat.le_of_ble_eq_true rfl, Nat.le_of_ble_eq_true rfl⟩ rfl dL_law_12 rfl rfl rfl ?_
    intro w2 hw2
    obtain ⟨am, sd, ed, h0, rfl⟩ := hw2
    subst h0
    refine g_astore_n C dL_law_15 rfl (by decide) rfl ?_
    refine g_iconst C dL_law_16 rfl ?_
    refine g_newl (N := 1) C wd1224 rfl (by decide) ⟨Nat.le_of_ble_eq_true rfl, Nat.le_of_ble_eq_true rfl⟩ dL_law_17 rfl (fun oc => ?_)
    refine g_astore_n C dL_law_19 rfl (by decide) rfl ?_
    refine g_iconst C dL_law_20 rfl ?_
    refine g_istore C dL_law_21 rfl (by decide) rfl ?_
    refine g_perm (ws1 := wC E o ad bd oc gT0 gT0 (fun _ => 0) ++ wB E am sd ed gS0 gS1 gS0) (by
      have h : (wB E am sd ed gS0 gS1 gS0 ++ ([(o, .inr (8, [.ref (ad 0), .ref (bd 0)]))] ++ (wT E ad gT0 ++ wT E bd gT0))) ++ [(oc, cj E 1 (fun _ => 0))] = wB E am sd ed gS0 gS1 gS0 ++ wC E o ad bd oc gT0 gT0 (fun _ => 0) := by simp only [List.append_assoc]
      rw [h]
      exact List.perm_append_comm) ?_
    have h := law_loop (ad := ad) (bd := bd) (am := am) (sd := sd) (ed := ed) (o := o) (oc := oc) hfl C hX hNc hX0 hbl (Nat.not_le.mpr hbl) hL hend 513 0 rfl gT0 gT0 gS0 gS1 gS0 (fun _ => 0) (by rw [show 36 * ((0 : Nat) : Int) = 0 by decide]; exact okA_st)
    rw [show 5 * ((0 : Nat) : Int) = 0 by decide] at h
    refine g_widen (kc' := 200 + 500 * 0) (ks' := 5000 + 3000 * 0) (by decide) (by decide) ?_
    exact g_to [0, 1, 2, 3, 4] h rfl rfl rfl
  have hl := lv_entry ([.ref b]) (n := 9) (Nat.le_of_ble_eq_true rfl)
  rw [lg_entry_eq]
  have hP : va_P E.1 vwCl [] s.heap := fun k q h => by simp at h
  have hD : va_D (fun q : Nat => s.heap.size ≤ q) [] := ⟨fun i j p q h => by simp at h, fun k q h => by simp at h⟩
  exact G s.heap [] _ hP hD va_S.rf hl
