/-! the town that the law builds -/
theorem bld_0 : bld gT0 := ⟨⟨_, _, inv_st⟩, fun _ => ⟨rfl, rfl, rfl⟩, fun k a b => by
  have b : k < 0 := b
  omega, fun k a b => by
  have b : k < 0 := b
  omega, rfl, rfl⟩
def townΨ (E : gE) : Option Value → va_W → Prop := fun rv w => ∃ (o : Nat) (ad bd : Nat → Nat) (T : gS), rv = some (.ref o) ∧ w = wO E o ad bd T gT0 ∧ bld T ∧ T.2 2 = 2 ∧ T.2 3 = 2 ∧ T.2 4 = 5
abbrev r_L_town : Room := { frames := 12, cells := 80, slots := 1500, locals := 440 }
set_option maxHeartbeats 8000000 in
set_option maxRecDepth 100000 in
theorem k_L_town (l : Launch) (E : gE) (sa : gTx) (hfl : l.stackTraces = false) (b L : Nat) (xs : Nat → Int32) (hL : L ≤ 260) : gKS l E yL_town cL_town 5 (some (.object "FloodWardens")) r_L_town [.ref b, .int (iI 1)] [] sa b L xs (townΨ E) := by
  refine gKS_by RL rfl mL_town [(0, .ref b), (1, .int (iI 1))] (Nat.le_of_ble_eq_true rfl) rfl ?_
  intro zp ze zs zm za zb zh zc zA zQ C SX Z
  refine g_new (T := TX9) (N := 2) (ci := 8) (fs := [.null, .null]) C in_X9 tyX9 tyX9_ok ⟨wp470, wd22, wd1⟩ rfl (by intro j hj; have h9 : j = 0 ∨ j = 1 := (by omega); rcases h9 with h9 | h9 <;> subst h9 <;> rfl) ⟨Nat.le_of_ble_eq_true rfl, Nat.le_of_ble_eq_true rfl⟩ dL_town_0 rfl (fun o => ?_)
  refine g_dup C dL_town_3 rfl rfl ?_
  refine g_callIX (As := []) (kc' := 65) (ks' := 1394) C [] (k_X9_init l E o) mX9_init wd24 rfl wp471 rfl rfl (Nat.le_of_ble_eq_true rfl) ⟨Nat.le_of_ble_eq_true rfl, Nat.le_of_ble_eq_true rfl⟩ ⟨Nat.le_of_ble_eq_true rfl, Nat.le_of_ble_eq_true rfl⟩ rfl dL_town_4 rfl rfl rfl ?_
  intro w1 hw1
  obtain ⟨ad, bd, rfl⟩ := hw1
  refine g_ws (List.append_nil _) ?_
  have S406 : ∀ r k : Nat, k + r = 2 → ∀ T : gS, (bld T ∧ T.2 2 = 2 ∧ T.2 3 = 2 ∧ T.2 4 = 5 ∧ T.2 6 = (k : Int)) → gG E zp l ze r_L_town zs zm za zb zh zc zA 5 69 1418 zQ ([(o, .inr (8, [.ref (ad 0), .ref (bd 0)]))] ++ (wT E ad T ++ (wT E bd gT0))) 406 [(3, .int (iI (k : Int))), (2, .ref o), (0, .ref b), (1, .int (iI (1)))] [] := by
    intro r
    induction r with
    | zero =>
      intro k hk T J
      obtain ⟨hB, h2, h3, h4, h6⟩ := J
      refine g_iload_n C dL_town_406 rfl 0 rfl ?_
      refine g_iconst C dL_town_407 rfl ?_
      refine g_icmp_ge C dL_town_408 455 (by decide) rfl (by omega) (by omega) (fun c408 => ?_) (fun c408 => ?_)
      rotate_left
      · exfalso; omega
      refine g_widen (kc' := 80) (ks' := 1500) (by omega) (by omega) ?_
      refine g_aload_n C dL_town_455 rfl 1 rfl ?_
      exact z_aretS C Z ⟨o, ad, bd, T, rfl, rfl, hB, by omega, by omega, by omega⟩ dL_town_456
    | succ r ih =>
      intro k hk T J
      obtain ⟨hB, h2, h3, h4, h6⟩ := J
      refine g_iload_n C dL_town_406 rfl 0 rfl ?_
      refine g_iconst C dL_town_407 rfl ?_
      refine g_icmp_ge C dL_town_408 455 (by decide) rfl (by omega) (by omega) (fun c408 => ?_) (fun c408 => ?_)
      · exfalso; omega
      refine g_aload_n C dL_town_411 rfl 1 rfl ?_
      refine g_aload_n C dL_town_412 rfl 2 rfl ?_
      refine g_bipush C dL_town_413 rfl rfl ?_
      refine g_cell C SX hL (by omega) (Nat.le_of_ble_eq_true rfl) ⟨Nat.le_of_ble_eq_true rfl, Nat.le_of_ble_eq_true rfl⟩ ⟨Nat.le_of_ble_eq_true rfl, Nat.le_of_ble_eq_true rfl⟩ dL_town_415 rfl (fun z415 hz415 => ?_)
      refine g_iconst C dL_town_418 rfl ?_
      refine g_iload_n C dL_town_419 rfl 0 rfl ?_
      refine g_imul C dL_town_420 rfl ?_
      refine g_ishr C dL_town_421 rfl (fun z421 hz421 => ?_)
      refine g_bipush C dL_town_422 rfl rfl ?_
      refine g_below C (by omega) (Nat.le_of_ble_eq_true rfl) ⟨Nat.le_of_ble_eq_true rfl, Nat.le_of_ble_eq_true rfl⟩ ⟨Nat.le_of_ble_eq_true rfl, Nat.le_of_ble_eq_true rfl⟩ dL_town_424 rfl (fun z424 hz424 => ?_)
      refine g_aload_n C dL_town_427 rfl 2 rfl ?_
      refine g_bipush C dL_town_428 rfl rfl ?_
      refine g_cell C SX hL (by omega) (Nat.le_of_ble_eq_true rfl) ⟨Nat.le_of_ble_eq_true rfl, Nat.le_of_ble_eq_true rfl⟩ ⟨Nat.le_of_ble_eq_true rfl, Nat.le_of_ble_eq_true rfl⟩ dL_town_430 rfl (fun z430 hz430 => ?_)
      refine g_bipush C dL_town_433 rfl rfl ?_
      refine g_iload_n C dL_town_435 rfl 0 rfl ?_
      refine g_imul C dL_town_436 rfl ?_
      refine g_iconst C dL_town_437 rfl ?_
      refine g_iadd C dL_town_438 rfl ?_
      refine g_ishr C dL_town_439 rfl (fun z439 hz439 => ?_)
      refine g_bipush C dL_town_440 rfl rfl ?_
      refine g_below C (by omega) (Nat.le_of_ble_eq_true rfl) ⟨Nat.le_of_ble_eq_true rfl, Nat.le_of_ble_eq_true rfl⟩ ⟨Nat.le_of_ble_eq_true rfl, Nat.le_of_ble_eq_true rfl⟩ dL_town_442 rfl (fun z442 hz442 => ?_)
      refine g_callVf (As := [.int (iI z424), .int (iI z442)]) (rv := some (.int (iI (T.2 6)))) (w1 := [(o, .inr (8, [.ref (ad 0), .ref (bd 0)]))] ++ (wT E ad (postS T (10 * z442 + z424)))) (kc' := 69) (ks' := 1418) C (wT E bd gT0) (k_X9_addCaller l E o (bd 0) ad T z424 z442 (bld_T hB) (by omega) (by omega) ⟨⟨by omega, by omega⟩, by omega, by omega⟩ (by omega)) mX9_addCaller iX9_addCaller wp782 0 8 rfl rfl rfl rfl rfl (Nat.le_of_ble_eq_true rfl) ⟨Nat.le_of_ble_eq_true rfl, Nat.le_of_ble_eq_true rfl⟩ ⟨Nat.le_of_ble_eq_true rfl, Nat.le_of_ble_eq_true rfl⟩ rfl rfl (by simp only [List.append_assoc]) dL_town_445 rfl ?_
      refine g_ws (ws1 := [(o, .inr (8, [.ref (ad 0), .ref (bd 0)]))] ++ (wT E ad (postS T (10 * z442 + z424)) ++ (wT E bd gT0))) (by simp only [List.append_assoc]) ?_
      obtain ⟨T1, hT1⟩ : ∃ z, z = (postS T (10 * z442 + z424)) := ⟨_, rfl⟩
      rw [← hT1]
      have hBT1 : bld T1 := by rw [hT1]; exact b_caller hB ⟨⟨by omega, by omega⟩, by omega, by omega⟩ (by omega)
      have cT1 : T1.2 6 = T.2 6 + 1 := by rw [hT1]; exact rfl
      have m2T1 : T1.2 2 = T.2 2 := by rw [hT1]; exact rfl
      have m3T1 : T1.2 3 = T.2 3 := by rw [hT1]; exact rfl
      have m4T1 : T1.2 4 = T.2 4 := by rw [hT1]; exact rfl
      refine g_pop C dL_town_448 rfl rfl ?_
      refine g_iinc (lv' := [(3, .int (iI ((k : Int) + 1))), (2, .ref o), (0, .ref b), (1, .int (iI (1)))]) C dL_town_449 rfl 0 rfl (by decide) rfl ?_
      refine g_goto C dL_town_452 406 (by decide) ?_
      exact g_to [0, 1, 2, 3] (ih (k + 1) (by omega) T1 ⟨hBT1, by omega, by omega, by omega, by omega⟩) rfl rfl rfl
  have S341 : ∀ r k : Nat, k + r = 5 → ∀ T : gS, (bld T ∧ T.2 2 = 2 ∧ T.2 3 = 2 ∧ T.2 4 = (k : Int) ∧ T.2 6 = 0) → gG E zp l ze r_L_town zs zm za zb zh zc zA 5 69 1418 zQ ([(o, .inr (8, [.ref (ad 0), .ref (bd 0)]))] ++ (wT E ad T ++ (wT E bd gT0))) 341 [(3, .int (iI (k : Int))), (2, .ref o), (0, .ref b), (1, .int (iI (1)))] [] := by
    intro r
    induction r with
    | zero =>
      intro k hk T J
      obtain ⟨hB, h2, h3, h4, h6⟩ := J
      refine g_iload_n C dL_town_341 rfl 0 rfl ?_
      refine g_iconst C dL_town_342 rfl ?_
      refine g_icmp_ge C dL_town_343 404 (by decide) rfl (by omega) (by omega) (fun c343 => ?_) (fun c343 => ?_)
      rotate_left
      · exfalso; omega
      refine g_iconst C dL_town_404 rfl ?_
      refine g_istore_n (lv' := [(3, .int (iI (0))), (2, .ref o), (0, .ref b), (1, .int (iI (1)))]) C dL_town_405 rfl (by decide) rfl ?_
      refine g_widen (kc' := (69)) (ks' := (1418)) (by omega) (by omega) ?_
      exact g_to [0, 1, 2, 3] (S406 2 0 (by omega) T ⟨hB, h2, h3, by omega, h6⟩) rfl rfl rfl
    | succ r ih =>
      intro k hk T J
      obtain ⟨hB, h2, h3, h4, h6⟩ := J
      refine g_iload_n C dL_town_341 rfl 0 rfl ?_
      refine g_iconst C dL_town_342 rfl ?_
      refine g_icmp_ge C dL_town_343 404 (by decide) rfl (by omega) (by omega) (fun c343 => ?_) (fun c343 => ?_)
      · exfalso; omega
      refine g_aload_n C dL_town_346 rfl 1 rfl ?_
      refine g_aload_n C dL_town_347 rfl 2 rfl ?_
      refine g_bipush C dL_town_348 rfl rfl ?_
      refine g_cell C SX hL (by omega) (Nat.le_of_ble_eq_true rfl) ⟨Nat.le_of_ble_eq_true rfl, Nat.le_of_ble_eq_true rfl⟩ ⟨Nat.le_of_ble_eq_true rfl, Nat.le_of_ble_eq_true rfl⟩ dL_town_350 rfl (fun z350 hz350 => ?_)
      refine g_iconst C dL_town_353 rfl ?_
      refine g_iload_n C dL_town_354 rfl 0 rfl ?_
      refine g_imul C dL_town_355 rfl ?_
      refine g_ishr C dL_town_356 rfl (fun z356 hz356 => ?_)
      refine g_bipush C dL_town_357 rfl rfl ?_
      refine g_below C (by omega) (Nat.le_of_ble_eq_true rfl) ⟨Nat.le_of_ble_eq_true rfl, Nat.le_of_ble_eq_true rfl⟩ ⟨Nat.le_of_ble_eq_true rfl, Nat.le_of_ble_eq_true rfl⟩ dL_town_359 rfl (fun z359 hz359 => ?_)
      refine g_aload_n C dL_town_362 rfl 2 rfl ?_
      refine g_bipush C dL_town_363 rfl rfl ?_
      refine g_cell C SX hL (by omega) (Nat.le_of_ble_eq_true rfl) ⟨Nat.le_of_ble_eq_true rfl, Nat.le_of_ble_eq_true rfl⟩ ⟨Nat.le_of_ble_eq_true rfl, Nat.le_of_ble_eq_true rfl⟩ dL_town_365 rfl (fun z365 hz365 => ?_)
      refine g_iconst C dL_town_368 rfl ?_
      refine g_iload_n C dL_town_369 rfl 0 rfl ?_
      refine g_imul C dL_town_370 rfl ?_
      refine g_ishr C dL_town_371 rfl (fun z371 hz371 => ?_)
      refine g_bipush C dL_town_372 rfl rfl ?_
      refine g_below C (by omega) (Nat.le_of_ble_eq_true rfl) ⟨Nat.le_of_ble_eq_true rfl, Nat.le_of_ble_eq_true rfl⟩ ⟨Nat.le_of_ble_eq_true rfl, Nat.le_of_ble_eq_true rfl⟩ dL_town_374 rfl (fun z374 hz374 => ?_)
      refine g_iconst C dL_town_377 rfl ?_
      refine g_aload_n C dL_town_378 rfl 2 rfl ?_
      refine g_bipush C dL_town_379 rfl rfl ?_
      refine g_cell C SX hL (by omega) (Nat.le_of_ble_eq_true rfl) ⟨Nat.le_of_ble_eq_true rfl, Nat.le_of_ble_eq_true rfl⟩ ⟨Nat.le_of_ble_eq_true rfl, Nat.le_of_ble_eq_true rfl⟩ dL_town_381 rfl (fun z381 hz381 => ?_)
      refine g_iconst C dL_town_384 rfl ?_
      refine g_iload_n C dL_town_385 rfl 0 rfl ?_
      refine g_imul C dL_town_386 rfl ?_
      refine g_ishr C dL_town_387 rfl (fun z387 hz387 => ?_)
      refine g_bipush C dL_town_388 rfl rfl ?_
      refine g_below C (by omega) (Nat.le_of_ble_eq_true rfl) ⟨Nat.le_of_ble_eq_true rfl, Nat.le_of_ble_eq_true rfl⟩ ⟨Nat.le_of_ble_eq_true rfl, Nat.le_of_ble_eq_true rfl⟩ dL_town_390 rfl (fun z390 hz390 => ?_)
      refine g_iadd C dL_town_393 rfl ?_
      refine g_callVf (As := [.int (iI z359), .int (iI z374), .int (iI ((1) + z390))]) (rv := some (.int (iI (T.2 4)))) (w1 := [(o, .inr (8, [.ref (ad 0), .ref (bd 0)]))] ++ (wT E ad (inS T (10 * z374 + z359) ((1) + z390)))) (kc' := 69) (ks' := 1418) C (wT E bd gT0) (k_X9_settle l E o (bd 0) ad T z359 z374 ((1) + z390) (bld_T hB) (by omega) (by omega) (by omega) ⟨⟨by omega, by omega⟩, by omega, by omega⟩ ⟨by omega, by omega⟩ (by omega)) mX9_settle iX9_settle wp770 0 8 rfl rfl rfl rfl rfl (Nat.le_of_ble_eq_true rfl) ⟨Nat.le_of_ble_eq_true rfl, Nat.le_of_ble_eq_true rfl⟩ ⟨Nat.le_of_ble_eq_true rfl, Nat.le_of_ble_eq_true rfl⟩ rfl rfl (by simp only [List.append_assoc]) dL_town_394 rfl ?_
      refine g_ws (ws1 := [(o, .inr (8, [.ref (ad 0), .ref (bd 0)]))] ++ (wT E ad (inS T (10 * z374 + z359) ((1) + z390)) ++ (wT E bd gT0))) (by simp only [List.append_assoc]) ?_
      obtain ⟨T2, hT2⟩ : ∃ z, z = (inS T (10 * z374 + z359) ((1) + z390)) := ⟨_, rfl⟩
      rw [← hT2]
      have hBT2 : bld T2 := by rw [hT2]; exact b_settle hB ⟨⟨by omega, by omega⟩, by omega, by omega⟩ ⟨by omega, by omega⟩ (by omega)
      have cT2 : T2.2 4 = T.2 4 + 1 := by rw [hT2]; exact rfl
      have m2T2 : T2.2 2 = T.2 2 := by rw [hT2]; exact rfl
      have m3T2 : T2.2 3 = T.2 3 := by rw [hT2]; exact rfl
      have m6T2 : T2.2 6 = T.2 6 := by rw [hT2]; exact rfl
      refine g_pop C dL_town_397 rfl rfl ?_
      refine g_iinc (lv' := [(3, .int (iI ((k : Int) + 1))), (2, .ref o), (0, .ref b), (1, .int (iI (1)))]) C dL_town_398 rfl 0 rfl (by decide) rfl ?_
      refine g_goto C dL_town_401 341 (by decide) ?_
      exact g_to [0, 1, 2, 3] (ih (k + 1) (by omega) T2 ⟨hBT2, by omega, by omega, by omega, by omega⟩) rfl rfl rfl
  have S272 : ∀ r k : Nat, k + r = 2 → ∀ T : gS, (bld T ∧ T.2 2 = 2 ∧ T.2 3 = (k : Int) ∧ (1 ≤ k → T.1 17 0 % 10 ≤ 4) ∧ T.2 4 = 0 ∧ T.2 6 = 0) → gG E zp l ze r_L_town zs zm za zb zh zc zA 5 69 1418 zQ ([(o, .inr (8, [.ref (ad 0), .ref (bd 0)]))] ++ (wT E ad T ++ (wT E bd gT0))) 272 [(3, .int (iI (k : Int))), (2, .ref o), (0, .ref b), (1, .int (iI (1)))] [] := by
    intro r
    induction r with
    | zero =>
      intro k hk T J
      obtain ⟨hB, h2, h3, hr3, h4, h6⟩ := J
      refine g_iload_n C dL_town_272 rfl 0 rfl ?_
      refine g_iconst C dL_town_273 rfl ?_
      refine g_icmp_ge C dL_town_274 339 (by decide) rfl (by omega) (by omega) (fun c274 => ?_) (fun c274 => ?_)
      rotate_left
      · exfalso; omega
      refine g_iconst C dL_town_339 rfl ?_
      refine g_istore_n (lv' := [(3, .int (iI (0))), (2, .ref o), (0, .ref b), (1, .int (iI (1)))]) C dL_town_340 rfl (by decide) rfl ?_
      refine g_widen (kc' := (69)) (ks' := (1418)) (by omega) (by omega) ?_
      exact g_to [0, 1, 2, 3] (S341 5 0 (by omega) T ⟨hB, h2, by omega, h4, h6⟩) rfl rfl rfl
    | succ r ih =>
      intro k hk T J
      obtain ⟨hB, h2, h3, hr3, h4, h6⟩ := J
      refine g_iload_n C dL_town_272 rfl 0 rfl ?_
      refine g_iconst C dL_town_273 rfl ?_
      refine g_icmp_ge C dL_town_274 339 (by decide) rfl (by omega) (by omega) (fun c274 => ?_) (fun c274 => ?_)
      · exfalso; omega
      refine g_aload_n C dL_town_277 rfl 1 rfl ?_
      refine g_aload_n C dL_town_278 rfl 2 rfl ?_
      refine g_bipush C dL_town_279 rfl rfl ?_
      refine g_cell C SX hL (by omega) (Nat.le_of_ble_eq_true rfl) ⟨Nat.le_of_ble_eq_true rfl, Nat.le_of_ble_eq_true rfl⟩ ⟨Nat.le_of_ble_eq_true rfl, Nat.le_of_ble_eq_true rfl⟩ dL_town_281 rfl (fun z281 hz281 => ?_)
      refine g_iconst C dL_town_284 rfl ?_
      refine g_iload_n C dL_town_285 rfl 0 rfl ?_
      refine g_imul C dL_town_286 rfl ?_
      refine g_ishr C dL_town_287 rfl (fun z287 hz287 => ?_)
      refine g_iconst C dL_town_288 rfl ?_
      refine g_below C (by omega) (Nat.le_of_ble_eq_true rfl) ⟨Nat.le_of_ble_eq_true rfl, Nat.le_of_ble_eq_true rfl⟩ ⟨Nat.le_of_ble_eq_true rfl, Nat.le_of_ble_eq_true rfl⟩ dL_town_289 rfl (fun z289 hz289 => ?_)
      refine g_iconst C dL_town_292 rfl ?_
      refine g_iload_n C dL_town_293 rfl 0 rfl ?_
      refine g_imul C dL_town_294 rfl ?_
      refine g_iadd C dL_town_295 rfl ?_
      refine g_iconst C dL_town_296 rfl ?_
      refine g_aload_n C dL_town_297 rfl 2 rfl ?_
      refine g_bipush C dL_town_298 rfl rfl ?_
      refine g_cell C SX hL (by omega) (Nat.le_of_ble_eq_true rfl) ⟨Nat.le_of_ble_eq_true rfl, Nat.le_of_ble_eq_true rfl⟩ ⟨Nat.le_of_ble_eq_true rfl, Nat.le_of_ble_eq_true rfl⟩ dL_town_300 rfl (fun z300 hz300 => ?_)
      refine g_bipush C dL_town_303 rfl rfl ?_
      refine g_ishr C dL_town_305 rfl (fun z305 hz305 => ?_)
      refine g_bipush C dL_town_306 rfl rfl ?_
      refine g_below C (by omega) (Nat.le_of_ble_eq_true rfl) ⟨Nat.le_of_ble_eq_true rfl, Nat.le_of_ble_eq_true rfl⟩ ⟨Nat.le_of_ble_eq_true rfl, Nat.le_of_ble_eq_true rfl⟩ dL_town_308 rfl (fun z308 hz308 => ?_)
      refine g_iadd C dL_town_311 rfl ?_
      refine g_iconst C dL_town_312 rfl ?_
      refine g_aload_n C dL_town_313 rfl 2 rfl ?_
      refine g_bipush C dL_town_314 rfl rfl ?_
      refine g_cell C SX hL (by omega) (Nat.le_of_ble_eq_true rfl) ⟨Nat.le_of_ble_eq_true rfl, Nat.le_of_ble_eq_true rfl⟩ ⟨Nat.le_of_ble_eq_true rfl, Nat.le_of_ble_eq_true rfl⟩ dL_town_316 rfl (fun z316 hz316 => ?_)
      refine g_iconst C dL_town_319 rfl ?_
      refine g_iload_n C dL_town_320 rfl 0 rfl ?_
      refine g_imul C dL_town_321 rfl ?_
      refine g_ishr C dL_town_322 rfl (fun z322 hz322 => ?_)
      refine g_bipush C dL_town_323 rfl rfl ?_
      refine g_below C (by omega) (Nat.le_of_ble_eq_true rfl) ⟨Nat.le_of_ble_eq_true rfl, Nat.le_of_ble_eq_true rfl⟩ ⟨Nat.le_of_ble_eq_true rfl, Nat.le_of_ble_eq_true rfl⟩ dL_town_325 rfl (fun z325 hz325 => ?_)
      refine g_iadd C dL_town_328 rfl ?_
      have hg329 : T.2 3 < 4 ∧ fstI (T.1 17) (10 * ((2) + z308) + (z289 + ((5) * (k : Int)))) (T.2 3).toNat = -1 := ⟨by omega, fst_far (a := 4) ⟨by omega, by omega⟩ (by omega) (fun z => hr3 (by omega)) (fun z => by omega)⟩
      refine g_callVf (As := [.int (iI (z289 + ((5) * (k : Int)))), .int (iI ((2) + z308)), .int (iI ((1) + z325))]) (rv := some (.int (iI (T.2 3)))) (w1 := [(o, .inr (8, [.ref (ad 0), .ref (bd 0)]))] ++ (wT E ad (openS T (10 * ((2) + z308) + (z289 + ((5) * (k : Int)))) ((1) + z325)))) (kc' := 69) (ks' := 1418) C (wT E bd gT0) (k_X9_addRefuge l E o (bd 0) ad T (z289 + ((5) * (k : Int))) ((2) + z308) ((1) + z325) (bld_T hB) (by omega) (by omega) (by omega) ⟨⟨by omega, by omega⟩, by omega, by omega⟩ ⟨by omega, by omega⟩ hg329) mX9_addRefuge iX9_addRefuge wp759 0 8 rfl rfl rfl rfl rfl (Nat.le_of_ble_eq_true rfl) ⟨Nat.le_of_ble_eq_true rfl, Nat.le_of_ble_eq_true rfl⟩ ⟨Nat.le_of_ble_eq_true rfl, Nat.le_of_ble_eq_true rfl⟩ rfl rfl (by simp only [List.append_assoc]) dL_town_329 rfl ?_
      refine g_ws (ws1 := [(o, .inr (8, [.ref (ad 0), .ref (bd 0)]))] ++ (wT E ad (openS T (10 * ((2) + z308) + (z289 + ((5) * (k : Int)))) ((1) + z325)) ++ (wT E bd gT0))) (by simp only [List.append_assoc]) ?_
      obtain ⟨T3, hT3⟩ : ∃ z, z = (openS T (10 * ((2) + z308) + (z289 + ((5) * (k : Int)))) ((1) + z325)) := ⟨_, rfl⟩
      rw [← hT3]
      have hBT3 : bld T3 := by rw [hT3]; exact b_refuge hB ⟨⟨by omega, by omega⟩, by omega, by omega⟩ ⟨by omega, by omega⟩ hg329.1
      have gT3 : T3.1 17 = fset (T.1 17) (T.2 3) (10 * ((2) + z308) + (z289 + ((5) * (k : Int)))) := by rw [hT3]; exact rfl
      have cT3 : T3.2 3 = T.2 3 + 1 := by rw [hT3]; exact rfl
      have m2T3 : T3.2 2 = T.2 2 := by rw [hT3]; exact rfl
      have m4T3 : T3.2 4 = T.2 4 := by rw [hT3]; exact rfl
      have m6T3 : T3.2 6 = T.2 6 := by rw [hT3]; exact rfl
      have qT3 : T3.1 17 0 % 10 ≤ 4 := by
        rw [gT3]; unfold fset; split
        · omega
        · exact hr3 (by omega)
      refine g_pop C dL_town_332 rfl rfl ?_
      refine g_iinc (lv' := [(3, .int (iI ((k : Int) + 1))), (2, .ref o), (0, .ref b), (1, .int (iI (1)))]) C dL_town_333 rfl 0 rfl (by decide) rfl ?_
      refine g_goto C dL_town_336 272 (by decide) ?_
      exact g_to [0, 1, 2, 3] (ih (k + 1) (by omega) T3 ⟨hBT3, by omega, by omega, fun _ => qT3, by omega, by omega⟩) rfl rfl rfl
  have S149 : ∀ r k : Nat, k + r = 4 → ∀ T : gS, (bld T ∧ (k ≤ 2 → T.2 2 = (k : Int)) ∧ (2 ≤ k → T.2 2 = 2) ∧ (1 ≤ k → T.1 14 0 % 10 ≤ 2) ∧ T.2 3 = 0 ∧ T.2 4 = 0 ∧ T.2 6 = 0) → gG E zp l ze r_L_town zs zm za zb zh zc zA 5 (65 + k) (1394 + 6 * k) zQ ([(o, .inr (8, [.ref (ad 0), .ref (bd 0)]))] ++ (wT E ad T ++ (wT E bd gT0))) 149 [(3, .int (iI (k : Int))), (2, .ref o), (0, .ref b), (1, .int (iI (1)))] [] := by
    intro r
    induction r with
    | zero =>
      intro k hk T J
      obtain ⟨hB, hg1, hg2, hg3, h3, h4, h6⟩ := J
      refine g_iload_n C dL_town_149 rfl 0 rfl ?_
      refine g_iconst C dL_town_150 rfl ?_
      refine g_icmp_ge C dL_town_151 264 (by decide) rfl (by omega) (by omega) (fun c151 => ?_) (fun c151 => ?_)
      rotate_left
      · exfalso; omega
      refine g_iload_n C dL_town_264 rfl 3 rfl ?_
      refine g_if_ne C dL_town_265 270 (by decide) rfl (by omega) (fun c265 => ?_) (fun c265 => ?_)
      rotate_left
      · exfalso; omega
      refine g_iconst C dL_town_270 rfl ?_
      refine g_istore_n (lv' := [(3, .int (iI (0))), (2, .ref o), (0, .ref b), (1, .int (iI (1)))]) C dL_town_271 rfl (by decide) rfl ?_
      refine g_widen (kc' := (69)) (ks' := (1418)) (by omega) (by omega) ?_
      exact g_to [0, 1, 2, 3] (S272 2 0 (by omega) T ⟨hB, hg2 (by omega), h3, fun z => absurd z (by omega), h4, h6⟩) rfl rfl rfl
    | succ r ih =>
      intro k hk T J
      obtain ⟨hB, hg1, hg2, hg3, h3, h4, h6⟩ := J
      have a14T : T.1 14 = T.1 14 := rfl
      refine g_iload_n C dL_town_149 rfl 0 rfl ?_
      refine g_iconst C dL_town_150 rfl ?_
      refine g_icmp_ge C dL_town_151 264 (by decide) rfl (by omega) (by omega) (fun c151 => ?_) (fun c151 => ?_)
      · exfalso; omega
      refine g_aload_n C dL_town_154 rfl 2 rfl ?_
      refine g_bipush C dL_town_155 rfl rfl ?_
      refine g_iload_n C dL_town_157 rfl 0 rfl ?_
      refine g_iconst C dL_town_158 rfl ?_
      refine g_irem C dL_town_159 rfl (by omega) (by omega) ?_
      refine g_iadd C dL_town_160 rfl ?_
      refine g_cell C SX hL (by omega) (Nat.le_of_ble_eq_true rfl) ⟨Nat.le_of_ble_eq_true rfl, Nat.le_of_ble_eq_true rfl⟩ ⟨by show (65 + k) + 0 ≤ 80; omega, by show (1394 + 6 * k) + 0 ≤ 1500; omega⟩ dL_town_161 rfl (fun z161 hz161 => ?_)
      refine g_iload_n C dL_town_164 rfl 0 rfl ?_
      refine g_iconst C dL_town_165 rfl ?_
      refine g_imul C dL_town_166 rfl ?_
      refine g_ishr C dL_town_167 rfl (fun z167 hz167 => ?_)
      refine g_istore (lv' := [(4, .int (iI z167)), (3, .int (iI (k : Int))), (2, .ref o), (0, .ref b), (1, .int (iI (1)))]) C dL_town_168 rfl (by decide) rfl ?_
      refine g_iload_n C dL_town_170 rfl 1 rfl ?_
      refine g_iconst C dL_town_171 rfl ?_
      refine g_icmp_ge C dL_town_172 215 (by decide) rfl (by omega) (by omega) (fun c172 => ?_) (fun c172 => ?_)
      · skip
        refine g_iload_n C dL_town_215 rfl 1 rfl ?_
        refine g_iconst C dL_town_216 rfl ?_
        refine g_icmp_ge C dL_town_217 258 (by decide) rfl (by omega) (by omega) (fun c217 => ?_) (fun c217 => ?_)
        · skip
          refine g_iinc (lv' := [(3, .int (iI ((k : Int) + 1))), (4, .int (iI z167)), (2, .ref o), (0, .ref b), (1, .int (iI (1)))]) C dL_town_258 rfl 1 rfl (by decide) rfl ?_
          refine g_goto C dL_town_261 149 (by decide) ?_
          refine g_widen (kc' := 65 + (k + 1)) (ks' := 1394 + 6 * (k + 1)) (by omega) (by omega) ?_
          exact g_to [0, 2, 3, 4] (ih (k + 1) (by omega) T ⟨hB, fun z => by omega, fun z => by omega, fun _ => hg3 (by omega), by omega, by omega, by omega⟩) rfl rfl rfl
        · skip
          refine g_aload_n C dL_town_220 rfl 2 rfl ?_
          refine g_iconst C dL_town_221 rfl ?_
          refine g_iload_n C dL_town_222 rfl 1 rfl ?_
          refine g_imul C dL_town_223 rfl ?_
          refine g_iload C dL_town_224 rfl 0 rfl ?_
          refine g_iconst C dL_town_226 rfl ?_
          refine g_ishr C dL_town_227 rfl (fun z227 hz227 => ?_)
          refine g_iconst C dL_town_228 rfl ?_
          refine g_below C (by omega) (Nat.le_of_ble_eq_true rfl) ⟨Nat.le_of_ble_eq_true rfl, Nat.le_of_ble_eq_true rfl⟩ ⟨by show (65 + k) + 0 ≤ 80; omega, by show (1394 + 6 * k) + 0 ≤ 1500; omega⟩ dL_town_229 rfl (fun z229 hz229 => ?_)
          refine g_iadd C dL_town_232 rfl ?_
          refine g_iload C dL_town_233 rfl 0 rfl ?_
          refine g_iconst C dL_town_235 rfl ?_
          refine g_ishr C dL_town_236 rfl (fun z236 hz236 => ?_)
          refine g_bipush C dL_town_237 rfl rfl ?_
          refine g_below C (by omega) (Nat.le_of_ble_eq_true rfl) ⟨Nat.le_of_ble_eq_true rfl, Nat.le_of_ble_eq_true rfl⟩ ⟨by show (65 + k) + 0 ≤ 80; omega, by show (1394 + 6 * k) + 0 ≤ 1500; omega⟩ dL_town_239 rfl (fun z239 hz239 => ?_)
          refine g_iconst C dL_town_242 rfl ?_
          refine g_iload C dL_town_243 rfl 0 rfl ?_
          refine g_bipush C dL_town_245 rfl rfl ?_
          refine g_ishr C dL_town_247 rfl (fun z247 hz247 => ?_)
          refine g_bipush C dL_town_248 rfl rfl ?_
          refine g_below C (by omega) (Nat.le_of_ble_eq_true rfl) ⟨Nat.le_of_ble_eq_true rfl, Nat.le_of_ble_eq_true rfl⟩ ⟨by show (65 + k) + 0 ≤ 80; omega, by show (1394 + 6 * k) + 0 ≤ 1500; omega⟩ dL_town_250 rfl (fun z250 hz250 => ?_)
          refine g_iadd C dL_town_253 rfl ?_
          have hg254 : T.2 2 < 4 ∧ fstI (T.1 14) (10 * z239 + (((3) * (k : Int)) + z229)) (T.2 2).toNat = -1 := ⟨by omega, fst_far (a := 2) ⟨by omega, by omega⟩ (by omega) (fun z => by rw [a14T]; exact hg3 (by omega)) (fun z => by omega)⟩
          refine g_callVf (As := [.int (iI (((3) * (k : Int)) + z229)), .int (iI z239), .int (iI ((1) + z250))]) (rv := some (.int (iI (T.2 2)))) (w1 := [(o, .inr (8, [.ref (ad 0), .ref (bd 0)]))] ++ (wT E ad (hangS T (10 * z239 + (((3) * (k : Int)) + z229)) ((1) + z250)))) (kc' := (65 + k)) (ks' := (1394 + 6 * k)) C (wT E bd gT0) (k_X9_addGauge l E o (bd 0) ad T (((3) * (k : Int)) + z229) z239 ((1) + z250) (bld_T hB) (by omega) (by omega) (by omega) ⟨⟨by omega, by omega⟩, by omega, by omega⟩ ⟨by omega, by omega⟩ hg254) mX9_addGauge iX9_addGauge wp748 0 8 rfl rfl rfl rfl rfl (Nat.le_of_ble_eq_true rfl) ⟨Nat.le_of_ble_eq_true rfl, Nat.le_of_ble_eq_true rfl⟩ ⟨by show (65 + k) + 0 ≤ 80; omega, by show (1394 + 6 * k) + 0 ≤ 1500; omega⟩ rfl rfl (by simp only [List.append_assoc]) dL_town_254 rfl ?_
          refine g_ws (ws1 := [(o, .inr (8, [.ref (ad 0), .ref (bd 0)]))] ++ (wT E ad (hangS T (10 * z239 + (((3) * (k : Int)) + z229)) ((1) + z250)) ++ (wT E bd gT0))) (by simp only [List.append_assoc]) ?_
          obtain ⟨T4, hT4⟩ : ∃ z, z = (hangS T (10 * z239 + (((3) * (k : Int)) + z229)) ((1) + z250)) := ⟨_, rfl⟩
          rw [← hT4]
          have hBT4 : bld T4 := by rw [hT4]; exact b_gauge hB ⟨⟨by omega, by omega⟩, by omega, by omega⟩ ⟨by omega, by omega⟩ hg254.1
          have gT4 : T4.1 14 = fset (T.1 14) (T.2 2) (10 * z239 + (((3) * (k : Int)) + z229)) := by rw [hT4]; exact rfl
          have cT4 : T4.2 2 = T.2 2 + 1 := by rw [hT4]; exact rfl
          have m3T4 : T4.2 3 = T.2 3 := by rw [hT4]; exact rfl
          have m4T4 : T4.2 4 = T.2 4 := by rw [hT4]; exact rfl
          have m6T4 : T4.2 6 = T.2 6 := by rw [hT4]; exact rfl
          have qT4 : T4.1 14 0 % 10 ≤ 2 := by
            rw [gT4]; unfold fset; split
            · omega
            · rw [a14T]; exact hg3 (by omega)
          refine g_pop C dL_town_257 rfl rfl ?_
          refine g_iinc (lv' := [(3, .int (iI ((k : Int) + 1))), (4, .int (iI z167)), (2, .ref o), (0, .ref b), (1, .int (iI (1)))]) C dL_town_258 rfl 1 rfl (by decide) rfl ?_
          refine g_goto C dL_town_261 149 (by decide) ?_
          refine g_widen (kc' := 65 + (k + 1)) (ks' := 1394 + 6 * (k + 1)) (by omega) (by omega) ?_
          exact g_to [0, 2, 3, 4] (ih (k + 1) (by omega) T4 ⟨hBT4, fun _ => by omega, fun _ => by omega, fun _ => qT4, by omega, by omega, by omega⟩) rfl rfl rfl
      · skip
        refine g_aload_n C dL_town_175 rfl 2 rfl ?_
        refine g_iload C dL_town_176 rfl 0 rfl ?_
        refine g_bipush C dL_town_178 rfl rfl ?_
        refine g_below C (by omega) (Nat.le_of_ble_eq_true rfl) ⟨Nat.le_of_ble_eq_true rfl, Nat.le_of_ble_eq_true rfl⟩ ⟨by show (65 + k) + 0 ≤ 80; omega, by show (1394 + 6 * k) + 0 ≤ 1500; omega⟩ dL_town_180 rfl (fun z180 hz180 => ?_)
        refine g_iload C dL_town_183 rfl 0 rfl ?_
        refine g_iconst C dL_town_185 rfl ?_
        refine g_ishr C dL_town_186 rfl (fun z186 hz186 => ?_)
        refine g_bipush C dL_town_187 rfl rfl ?_
        refine g_below C (by omega) (Nat.le_of_ble_eq_true rfl) ⟨Nat.le_of_ble_eq_true rfl, Nat.le_of_ble_eq_true rfl⟩ ⟨by show (65 + k) + 0 ≤ 80; omega, by show (1394 + 6 * k) + 0 ≤ 1500; omega⟩ dL_town_189 rfl (fun z189 hz189 => ?_)
        refine g_iconst C dL_town_192 rfl ?_
        refine g_iload C dL_town_193 rfl 0 rfl ?_
        refine g_iconst C dL_town_195 rfl ?_
        refine g_ishr C dL_town_196 rfl (fun z196 hz196 => ?_)
        refine g_iconst C dL_town_197 rfl ?_
        refine g_below C (by omega) (Nat.le_of_ble_eq_true rfl) ⟨Nat.le_of_ble_eq_true rfl, Nat.le_of_ble_eq_true rfl⟩ ⟨by show (65 + k) + 0 ≤ 80; omega, by show (1394 + 6 * k) + 0 ≤ 1500; omega⟩ dL_town_198 rfl (fun z198 hz198 => ?_)
        refine g_iadd C dL_town_201 rfl ?_
        refine g_iload C dL_town_202 rfl 0 rfl ?_
        refine g_bipush C dL_town_204 rfl rfl ?_
        refine g_ishr C dL_town_206 rfl (fun z206 hz206 => ?_)
        refine g_bipush C dL_town_207 rfl rfl ?_
        refine g_below C (by omega) (Nat.le_of_ble_eq_true rfl) ⟨Nat.le_of_ble_eq_true rfl, Nat.le_of_ble_eq_true rfl⟩ ⟨by show (65 + k) + 0 ≤ 80; omega, by show (1394 + 6 * k) + 0 ≤ 1500; omega⟩ dL_town_209 rfl (fun z209 hz209 => ?_)
        refine g_pump hfl C SX (bld_T hB) ⟨⟨by omega, by omega⟩, by omega, by omega⟩ ⟨⟨by omega, by omega⟩, by omega, by omega⟩ (Nat.le_of_ble_eq_true rfl) ⟨Nat.le_of_ble_eq_true rfl, Nat.le_of_ble_eq_true rfl⟩ ⟨by show (65 + k) + 1 ≤ 80; omega, by show (1394 + 6 * k) + 6 ≤ 1500; omega⟩ dL_town_212 rfl ?_
        obtain ⟨T5, hT5⟩ : ∃ z, z = (pumpT T (10 * z189 + z180) ((1) + z198) z209) := ⟨_, rfl⟩
        rw [← hT5]
        have hBT5 : bld T5 := by rw [hT5]; exact b_pump hB ⟨⟨by omega, by omega⟩, by omega, by omega⟩ ⟨⟨by omega, by omega⟩, by omega, by omega⟩
        have nT5 : ∀ j : Nat, j ≠ 1 → T5.2 j = T.2 j := by rw [hT5]; exact (pumpT_f _ _ _ _).1
        have aT5 : ∀ j : Nat, 12 < j → T5.1 j = T.1 j := by rw [hT5]; exact (pumpT_f _ _ _ _).2
        have m2T5 := nT5 2 (by decide)
        have m3T5 := nT5 3 (by decide)
        have m4T5 := nT5 4 (by decide)
        have m6T5 := nT5 6 (by decide)
        have a14T5 := aT5 14 (by decide)
        refine g_iload_n C dL_town_215 rfl 1 rfl ?_
        refine g_iconst C dL_town_216 rfl ?_
        refine g_icmp_ge C dL_town_217 258 (by decide) rfl (by omega) (by omega) (fun c217 => ?_) (fun c217 => ?_)
        · skip
          refine g_iinc (lv' := [(3, .int (iI ((k : Int) + 1))), (4, .int (iI z167)), (2, .ref o), (0, .ref b), (1, .int (iI (1)))]) C dL_town_258 rfl 1 rfl (by decide) rfl ?_
          refine g_goto C dL_town_261 149 (by decide) ?_
          refine g_widen (kc' := 65 + (k + 1)) (ks' := 1394 + 6 * (k + 1)) (by omega) (by omega) ?_
          exact g_to [0, 2, 3, 4] (ih (k + 1) (by omega) T5 ⟨hBT5, fun z => by omega, fun z => by omega, fun _ => by rw [a14T5]; exact hg3 (by omega), by omega, by omega, by omega⟩) rfl rfl rfl
        · skip
          refine g_aload_n C dL_town_220 rfl 2 rfl ?_
          refine g_iconst C dL_town_221 rfl ?_
          refine g_iload_n C dL_town_222 rfl 1 rfl ?_
          refine g_imul C dL_town_223 rfl ?_
          refine g_iload C dL_town_224 rfl 0 rfl ?_
          refine g_iconst C dL_town_226 rfl ?_
          refine g_ishr C dL_town_227 rfl (fun z227 hz227 => ?_)
          refine g_iconst C dL_town_228 rfl ?_
          refine g_below C (by omega) (Nat.le_of_ble_eq_true rfl) ⟨Nat.le_of_ble_eq_true rfl, Nat.le_of_ble_eq_true rfl⟩ ⟨by show ((65 + k) + 1) + 0 ≤ 80; omega, by show ((1394 + 6 * k) + 6) + 0 ≤ 1500; omega⟩ dL_town_229 rfl (fun z229 hz229 => ?_)
          refine g_iadd C dL_town_232 rfl ?_
          refine g_iload C dL_town_233 rfl 0 rfl ?_
          refine g_iconst C dL_town_235 rfl ?_
          refine g_ishr C dL_town_236 rfl (fun z236 hz236 => ?_)
          refine g_bipush C dL_town_237 rfl rfl ?_
          refine g_below C (by omega) (Nat.le_of_ble_eq_true rfl) ⟨Nat.le_of_ble_eq_true rfl, Nat.le_of_ble_eq_true rfl⟩ ⟨by show ((65 + k) + 1) + 0 ≤ 80; omega, by show ((1394 + 6 * k) + 6) + 0 ≤ 1500; omega⟩ dL_town_239 rfl (fun z239 hz239 => ?_)
          refine g_iconst C dL_town_242 rfl ?_
          refine g_iload C dL_town_243 rfl 0 rfl ?_
          refine g_bipush C dL_town_245 rfl rfl ?_
          refine g_ishr C dL_town_247 rfl (fun z247 hz247 => ?_)
          refine g_bipush C dL_town_248 rfl rfl ?_
          refine g_below C (by omega) (Nat.le_of_ble_eq_true rfl) ⟨Nat.le_of_ble_eq_true rfl, Nat.le_of_ble_eq_true rfl⟩ ⟨by show ((65 + k) + 1) + 0 ≤ 80; omega, by show ((1394 + 6 * k) + 6) + 0 ≤ 1500; omega⟩ dL_town_250 rfl (fun z250 hz250 => ?_)
          refine g_iadd C dL_town_253 rfl ?_
          have hg254 : T5.2 2 < 4 ∧ fstI (T5.1 14) (10 * z239 + (((3) * (k : Int)) + z229)) (T5.2 2).toNat = -1 := ⟨by omega, fst_far (a := 2) ⟨by omega, by omega⟩ (by omega) (fun z => by rw [a14T5]; exact hg3 (by omega)) (fun z => by omega)⟩
          refine g_callVf (As := [.int (iI (((3) * (k : Int)) + z229)), .int (iI z239), .int (iI ((1) + z250))]) (rv := some (.int (iI (T5.2 2)))) (w1 := [(o, .inr (8, [.ref (ad 0), .ref (bd 0)]))] ++ (wT E ad (hangS T5 (10 * z239 + (((3) * (k : Int)) + z229)) ((1) + z250)))) (kc' := ((65 + k) + 1)) (ks' := ((1394 + 6 * k) + 6)) C (wT E bd gT0) (k_X9_addGauge l E o (bd 0) ad T5 (((3) * (k : Int)) + z229) z239 ((1) + z250) (bld_T hBT5) (by omega) (by omega) (by omega) ⟨⟨by omega, by omega⟩, by omega, by omega⟩ ⟨by omega, by omega⟩ hg254) mX9_addGauge iX9_addGauge wp748 0 8 rfl rfl rfl rfl rfl (Nat.le_of_ble_eq_true rfl) ⟨Nat.le_of_ble_eq_true rfl, Nat.le_of_ble_eq_true rfl⟩ ⟨by show ((65 + k) + 1) + 0 ≤ 80; omega, by show ((1394 + 6 * k) + 6) + 0 ≤ 1500; omega⟩ rfl rfl (by simp only [List.append_assoc]) dL_town_254 rfl ?_
          refine g_ws (ws1 := [(o, .inr (8, [.ref (ad 0), .ref (bd 0)]))] ++ (wT E ad (hangS T5 (10 * z239 + (((3) * (k : Int)) + z229)) ((1) + z250)) ++ (wT E bd gT0))) (by simp only [List.append_assoc]) ?_
          obtain ⟨T6, hT6⟩ : ∃ z, z = (hangS T5 (10 * z239 + (((3) * (k : Int)) + z229)) ((1) + z250)) := ⟨_, rfl⟩
          rw [← hT6]
          have hBT6 : bld T6 := by rw [hT6]; exact b_gauge hBT5 ⟨⟨by omega, by omega⟩, by omega, by omega⟩ ⟨by omega, by omega⟩ hg254.1
          have gT6 : T6.1 14 = fset (T5.1 14) (T5.2 2) (10 * z239 + (((3) * (k : Int)) + z229)) := by rw [hT6]; exact rfl
          have cT6 : T6.2 2 = T5.2 2 + 1 := by rw [hT6]; exact rfl
          have m3T6 : T6.2 3 = T5.2 3 := by rw [hT6]; exact rfl
          have m4T6 : T6.2 4 = T5.2 4 := by rw [hT6]; exact rfl
          have m6T6 : T6.2 6 = T5.2 6 := by rw [hT6]; exact rfl
          have qT6 : T6.1 14 0 % 10 ≤ 2 := by
            rw [gT6]; unfold fset; split
            · omega
            · rw [a14T5]; exact hg3 (by omega)
          refine g_pop C dL_town_257 rfl rfl ?_
          refine g_iinc (lv' := [(3, .int (iI ((k : Int) + 1))), (4, .int (iI z167)), (2, .ref o), (0, .ref b), (1, .int (iI (1)))]) C dL_town_258 rfl 1 rfl (by decide) rfl ?_
          refine g_goto C dL_town_261 149 (by decide) ?_
          refine g_widen (kc' := 65 + (k + 1)) (ks' := 1394 + 6 * (k + 1)) (by omega) (by omega) ?_
          exact g_to [0, 2, 3, 4] (ih (k + 1) (by omega) T6 ⟨hBT6, fun _ => by omega, fun _ => by omega, fun _ => qT6, by omega, by omega, by omega⟩) rfl rfl rfl
  have S112 : ∀ r k : Nat, k + r = 12 → ∀ T : gS, (bld T ∧ T.2 2 = 0 ∧ T.2 3 = 0 ∧ T.2 4 = 0 ∧ T.2 6 = 0) → gG E zp l ze r_L_town zs zm za zb zh zc zA 5 65 1394 zQ ([(o, .inr (8, [.ref (ad 0), .ref (bd 0)]))] ++ (wT E ad T ++ (wT E bd gT0))) 112 [(3, .int (iI (k : Int))), (2, .ref o), (0, .ref b), (1, .int (iI (1)))] [] := by
    intro r
    induction r with
    | zero =>
      intro k hk T J
      obtain ⟨hB, h2, h3, h4, h6⟩ := J
      refine g_iload_n C dL_town_112 rfl 0 rfl ?_
      refine g_bipush C dL_town_113 rfl rfl ?_
      refine g_icmp_ge C dL_town_115 147 (by decide) rfl (by omega) (by omega) (fun c115 => ?_) (fun c115 => ?_)
      rotate_left
      · exfalso; omega
      refine g_iconst C dL_town_147 rfl ?_
      refine g_istore_n (lv' := [(3, .int (iI (0))), (2, .ref o), (0, .ref b), (1, .int (iI (1)))]) C dL_town_148 rfl (by decide) rfl ?_
      refine g_widen (kc' := (65 + 0)) (ks' := (1394 + 6 * 0)) (by omega) (by omega) ?_
      exact g_to [0, 1, 2, 3] (S149 4 0 (by omega) T ⟨hB, fun _ => h2, fun z => absurd z (by omega), fun z => absurd z (by omega), h3, h4, h6⟩) rfl rfl rfl
    | succ r ih =>
      intro k hk T J
      obtain ⟨hB, h2, h3, h4, h6⟩ := J
      refine g_iload_n C dL_town_112 rfl 0 rfl ?_
      refine g_bipush C dL_town_113 rfl rfl ?_
      refine g_icmp_ge C dL_town_115 147 (by decide) rfl (by omega) (by omega) (fun c115 => ?_) (fun c115 => ?_)
      · exfalso; omega
      refine g_aload_n C dL_town_118 rfl 1 rfl ?_
      refine g_iload_n C dL_town_119 rfl 0 rfl ?_
      refine g_aload_n C dL_town_120 rfl 2 rfl ?_
      refine g_bipush C dL_town_121 rfl rfl ?_
      refine g_iload_n C dL_town_123 rfl 0 rfl ?_
      refine g_iconst C dL_town_124 rfl ?_
      refine g_irem C dL_town_125 rfl (by omega) (by omega) ?_
      refine g_iadd C dL_town_126 rfl ?_
      refine g_cell C SX hL (by omega) (Nat.le_of_ble_eq_true rfl) ⟨Nat.le_of_ble_eq_true rfl, Nat.le_of_ble_eq_true rfl⟩ ⟨Nat.le_of_ble_eq_true rfl, Nat.le_of_ble_eq_true rfl⟩ dL_town_127 rfl (fun z127 hz127 => ?_)
      refine g_iload_n C dL_town_130 rfl 0 rfl ?_
      refine g_ishr C dL_town_131 rfl (fun z131 hz131 => ?_)
      refine g_bipush C dL_town_132 rfl rfl ?_
      refine g_below C (by omega) (Nat.le_of_ble_eq_true rfl) ⟨Nat.le_of_ble_eq_true rfl, Nat.le_of_ble_eq_true rfl⟩ ⟨Nat.le_of_ble_eq_true rfl, Nat.le_of_ble_eq_true rfl⟩ dL_town_134 rfl (fun z134 hz134 => ?_)
      refine g_callVf (As := [.int (iI (k : Int)), .int (iI z134)]) (rv := some (.int (iI (T.1 6 (k : Int))))) (w1 := [(o, .inr (8, [.ref (ad 0), .ref (bd 0)]))] ++ (wT E ad (setA T 6 (fset (T.1 6) (k : Int) z134)))) (kc' := 65) (ks' := 1394) C (wT E bd gT0) (k_X9_setRiver l E o (bd 0) ad T (k : Int) z134 (bld_T hB) (by omega) (by omega) ⟨by omega, by omega⟩ ⟨by omega, by omega⟩) mX9_setRiver iX9_setRiver wp124 0 8 rfl rfl rfl rfl rfl (Nat.le_of_ble_eq_true rfl) ⟨Nat.le_of_ble_eq_true rfl, Nat.le_of_ble_eq_true rfl⟩ ⟨Nat.le_of_ble_eq_true rfl, Nat.le_of_ble_eq_true rfl⟩ rfl rfl (by simp only [List.append_assoc]) dL_town_137 rfl ?_
      refine g_ws (ws1 := [(o, .inr (8, [.ref (ad 0), .ref (bd 0)]))] ++ (wT E ad (setA T 6 (fset (T.1 6) (k : Int) z134)) ++ (wT E bd gT0))) (by simp only [List.append_assoc]) ?_
      obtain ⟨T7, hT7⟩ : ∃ z, z = (setA T 6 (fset (T.1 6) (k : Int) z134)) := ⟨_, rfl⟩
      rw [← hT7]
      have hBT7 : bld T7 := by rw [hT7]; exact b_river hB ⟨by omega, by omega⟩ ⟨by omega, by omega⟩
      have nT7 : T7.2 = T.2 := by rw [hT7]; exact rfl
      refine g_pop C dL_town_140 rfl rfl ?_
      refine g_iinc (lv' := [(3, .int (iI ((k : Int) + 1))), (2, .ref o), (0, .ref b), (1, .int (iI (1)))]) C dL_town_141 rfl 0 rfl (by decide) rfl ?_
      refine g_goto C dL_town_144 112 (by decide) ?_
      exact g_to [0, 1, 2, 3] (ih (k + 1) (by omega) T7 ⟨hBT7, by rw [nT7]; exact h2, by rw [nT7]; exact h3, by rw [nT7]; exact h4, by rw [nT7]; exact h6⟩) rfl rfl rfl
  have S10 : ∀ r k : Nat, k + r = 24 → ∀ T : gS, (bld T ∧ sm (T.1 3) 0 80 ≤ 40 ∧ (k ≤ 8 → sm (T.1 3) 0 80 ≤ 5 * (k : Int)) ∧ T.2 2 = 0 ∧ T.2 3 = 0 ∧ T.2 4 = 0 ∧ T.2 6 = 0) → gG E zp l ze r_L_town zs zm za zb zh zc zA 5 65 1394 zQ ([(o, .inr (8, [.ref (ad 0), .ref (bd 0)]))] ++ (wT E ad T ++ (wT E bd gT0))) 10 [(3, .int (iI (k : Int))), (2, .ref o), (0, .ref b), (1, .int (iI (1)))] [] := by
    intro r
    induction r with
    | zero =>
      intro k hk T J
      obtain ⟨hB, hs1, hs2, h2, h3, h4, h6⟩ := J
      refine g_iload_n C dL_town_10 rfl 0 rfl ?_
      refine g_bipush C dL_town_11 rfl rfl ?_
      refine g_icmp_ge C dL_town_13 110 (by decide) rfl (by omega) (by omega) (fun c13 => ?_) (fun c13 => ?_)
      rotate_left
      · exfalso; omega
      refine g_iconst C dL_town_110 rfl ?_
      refine g_istore_n (lv' := [(3, .int (iI (0))), (2, .ref o), (0, .ref b), (1, .int (iI (1)))]) C dL_town_111 rfl (by decide) rfl ?_
      refine g_widen (kc' := (65)) (ks' := (1394)) (by omega) (by omega) ?_
      exact g_to [0, 1, 2, 3] (S112 12 0 (by omega) T ⟨hB, h2, h3, h4, h6⟩) rfl rfl rfl
    | succ r ih =>
      intro k hk T J
      obtain ⟨hB, hs1, hs2, h2, h3, h4, h6⟩ := J
      refine g_iload_n C dL_town_10 rfl 0 rfl ?_
      refine g_bipush C dL_town_11 rfl rfl ?_
      refine g_icmp_ge C dL_town_13 110 (by decide) rfl (by omega) (by omega) (fun c13 => ?_) (fun c13 => ?_)
      · exfalso; omega
      refine g_aload_n C dL_town_16 rfl 2 rfl ?_
      refine g_iload_n C dL_town_17 rfl 0 rfl ?_
      refine g_bipush C dL_town_18 rfl rfl ?_
      refine g_irem C dL_town_20 rfl (by omega) (by omega) ?_
      refine g_cell C SX hL (by omega) (Nat.le_of_ble_eq_true rfl) ⟨Nat.le_of_ble_eq_true rfl, Nat.le_of_ble_eq_true rfl⟩ ⟨Nat.le_of_ble_eq_true rfl, Nat.le_of_ble_eq_true rfl⟩ dL_town_21 rfl (fun z21 hz21 => ?_)
      refine g_iload_n C dL_town_24 rfl 0 rfl ?_
      refine g_bipush C dL_town_25 rfl rfl ?_
      refine g_idiv C dL_town_27 rfl (by omega) (by omega) ?_
      refine g_iconst C dL_town_28 rfl ?_
      refine g_imul C dL_town_29 rfl ?_
      refine g_ishr C dL_town_30 rfl (fun z30 hz30 => ?_)
      refine g_istore (lv' := [(4, .int (iI z30)), (3, .int (iI (k : Int))), (2, .ref o), (0, .ref b), (1, .int (iI (1)))]) C dL_town_31 rfl (by decide) rfl ?_
      refine g_aload_n C dL_town_33 rfl 2 rfl ?_
      refine g_iload C dL_town_34 rfl 0 rfl ?_
      refine g_bipush C dL_town_36 rfl rfl ?_
      refine g_below C (by omega) (Nat.le_of_ble_eq_true rfl) ⟨Nat.le_of_ble_eq_true rfl, Nat.le_of_ble_eq_true rfl⟩ ⟨Nat.le_of_ble_eq_true rfl, Nat.le_of_ble_eq_true rfl⟩ dL_town_38 rfl (fun z38 hz38 => ?_)
      refine g_iload C dL_town_41 rfl 0 rfl ?_
      refine g_iconst C dL_town_43 rfl ?_
      refine g_ishr C dL_town_44 rfl (fun z44 hz44 => ?_)
      refine g_bipush C dL_town_45 rfl rfl ?_
      refine g_below C (by omega) (Nat.le_of_ble_eq_true rfl) ⟨Nat.le_of_ble_eq_true rfl, Nat.le_of_ble_eq_true rfl⟩ ⟨Nat.le_of_ble_eq_true rfl, Nat.le_of_ble_eq_true rfl⟩ dL_town_47 rfl (fun z47 hz47 => ?_)
      refine g_iload C dL_town_50 rfl 0 rfl ?_
      refine g_bipush C dL_town_52 rfl rfl ?_
      refine g_ishr C dL_town_54 rfl (fun z54 hz54 => ?_)
      refine g_bipush C dL_town_55 rfl rfl ?_
      refine g_below C (by omega) (Nat.le_of_ble_eq_true rfl) ⟨Nat.le_of_ble_eq_true rfl, Nat.le_of_ble_eq_true rfl⟩ ⟨Nat.le_of_ble_eq_true rfl, Nat.le_of_ble_eq_true rfl⟩ dL_town_57 rfl (fun z57 hz57 => ?_)
      refine g_callVf (As := [.int (iI z38), .int (iI z47), .int (iI z57)]) (rv := some (.int (iI (T.1 2 (10 * z47 + z38))))) (w1 := [(o, .inr (8, [.ref (ad 0), .ref (bd 0)]))] ++ (wT E ad (setA T 2 (fset (T.1 2) (10 * z47 + z38) z57)))) (kc' := 65) (ks' := 1394) C (wT E bd gT0) (k_X9_setGround l E o (bd 0) ad T z38 z47 z57 (bld_T hB) (by omega) (by omega) (by omega) ⟨⟨by omega, by omega⟩, by omega, by omega⟩ ⟨by omega, by omega⟩) mX9_setGround iX9_setGround wp19 0 8 rfl rfl rfl rfl rfl (Nat.le_of_ble_eq_true rfl) ⟨Nat.le_of_ble_eq_true rfl, Nat.le_of_ble_eq_true rfl⟩ ⟨Nat.le_of_ble_eq_true rfl, Nat.le_of_ble_eq_true rfl⟩ rfl rfl (by simp only [List.append_assoc]) dL_town_60 rfl ?_
      refine g_ws (ws1 := [(o, .inr (8, [.ref (ad 0), .ref (bd 0)]))] ++ (wT E ad (setA T 2 (fset (T.1 2) (10 * z47 + z38) z57)) ++ (wT E bd gT0))) (by simp only [List.append_assoc]) ?_
      obtain ⟨T8, hT8⟩ : ∃ z, z = (setA T 2 (fset (T.1 2) (10 * z47 + z38) z57)) := ⟨_, rfl⟩
      rw [← hT8]
      have hBT8 : bld T8 := by rw [hT8]; exact b_ground hB ⟨⟨by omega, by omega⟩, by omega, by omega⟩ ⟨by omega, by omega⟩
      have e3T8 : T8.1 3 = T.1 3 := by rw [hT8]; exact rfl
      have nT8 : T8.2 = T.2 := by rw [hT8]; exact rfl
      refine g_pop C dL_town_63 rfl rfl ?_
      refine g_iload_n C dL_town_64 rfl 1 rfl ?_
      refine g_bipush C dL_town_65 rfl rfl ?_
      refine g_icmp_ge C dL_town_67 104 (by decide) rfl (by omega) (by omega) (fun c67 => ?_) (fun c67 => ?_)
      · skip
        refine g_iinc (lv' := [(3, .int (iI ((k : Int) + 1))), (4, .int (iI z30)), (2, .ref o), (0, .ref b), (1, .int (iI (1)))]) C dL_town_104 rfl 1 rfl (by decide) rfl ?_
        refine g_goto C dL_town_107 10 (by decide) ?_
        exact g_to [0, 2, 3, 4] (ih (k + 1) (by omega) T8 ⟨hBT8, by rw [e3T8]; exact hs1, fun z => absurd z (by omega), by rw [nT8]; exact h2, by rw [nT8]; exact h3, by rw [nT8]; exact h4, by rw [nT8]; exact h6⟩) rfl rfl rfl
      · skip
        refine g_aload_n C dL_town_70 rfl 2 rfl ?_
        refine g_iload C dL_town_71 rfl 0 rfl ?_
        refine g_iconst C dL_town_73 rfl ?_
        refine g_ishr C dL_town_74 rfl (fun z74 hz74 => ?_)
        refine g_bipush C dL_town_75 rfl rfl ?_
        refine g_below C (by omega) (Nat.le_of_ble_eq_true rfl) ⟨Nat.le_of_ble_eq_true rfl, Nat.le_of_ble_eq_true rfl⟩ ⟨Nat.le_of_ble_eq_true rfl, Nat.le_of_ble_eq_true rfl⟩ dL_town_77 rfl (fun z77 hz77 => ?_)
        refine g_iconst C dL_town_80 rfl ?_
        refine g_iload C dL_town_81 rfl 0 rfl ?_
        refine g_iconst C dL_town_83 rfl ?_
        refine g_ishr C dL_town_84 rfl (fun z84 hz84 => ?_)
        refine g_iconst C dL_town_85 rfl ?_
        refine g_below C (by omega) (Nat.le_of_ble_eq_true rfl) ⟨Nat.le_of_ble_eq_true rfl, Nat.le_of_ble_eq_true rfl⟩ ⟨Nat.le_of_ble_eq_true rfl, Nat.le_of_ble_eq_true rfl⟩ dL_town_86 rfl (fun z86 hz86 => ?_)
        refine g_iadd C dL_town_89 rfl ?_
        refine g_iload C dL_town_90 rfl 0 rfl ?_
        refine g_bipush C dL_town_92 rfl rfl ?_
        refine g_ishr C dL_town_94 rfl (fun z94 hz94 => ?_)
        refine g_bipush C dL_town_95 rfl rfl ?_
        refine g_below C (by omega) (Nat.le_of_ble_eq_true rfl) ⟨Nat.le_of_ble_eq_true rfl, Nat.le_of_ble_eq_true rfl⟩ ⟨Nat.le_of_ble_eq_true rfl, Nat.le_of_ble_eq_true rfl⟩ dL_town_97 rfl (fun z97 hz97 => ?_)
        have ho100 := okT_3 (bld_T hBT8) (10 * ((1) + z86) + z77)
        have hs100 : sm (T8.1 3) 0 80 ≤ 5 * (k : Int) := by rw [e3T8]; exact hs2 (by omega)
        refine g_callVf (As := [.int (iI z77), .int (iI ((1) + z86)), .int (iI z97)]) (rv := some (.int (iI (sm (T8.1 3) 0 80 - T8.1 3 (10 * ((1) + z86) + z77) + z97)))) (w1 := [(o, .inr (8, [.ref (ad 0), .ref (bd 0)]))] ++ (wT E ad (setA T8 3 (fset (T8.1 3) (10 * ((1) + z86) + z77) z97)))) (kc' := 65) (ks' := 1394) C (wT E bd gT0) (k_X9_lay l E o (bd 0) ad T8 z77 ((1) + z86) z97 (bld_T hBT8) (by omega) (by omega) (by omega) ⟨⟨by omega, by omega⟩, by omega, by omega⟩ ⟨by omega, by omega⟩ (by omega)) mX9_lay iX9_lay wp696 0 8 rfl rfl rfl rfl rfl (Nat.le_of_ble_eq_true rfl) ⟨Nat.le_of_ble_eq_true rfl, Nat.le_of_ble_eq_true rfl⟩ ⟨Nat.le_of_ble_eq_true rfl, Nat.le_of_ble_eq_true rfl⟩ rfl rfl (by simp only [List.append_assoc]) dL_town_100 rfl ?_
        refine g_ws (ws1 := [(o, .inr (8, [.ref (ad 0), .ref (bd 0)]))] ++ (wT E ad (setA T8 3 (fset (T8.1 3) (10 * ((1) + z86) + z77) z97)) ++ (wT E bd gT0))) (by simp only [List.append_assoc]) ?_
        obtain ⟨T9, hT9⟩ : ∃ z, z = (setA T8 3 (fset (T8.1 3) (10 * ((1) + z86) + z77) z97)) := ⟨_, rfl⟩
        rw [← hT9]
        have hBT9 : bld T9 := by rw [hT9]; exact b_lay hBT8 ⟨⟨by omega, by omega⟩, by omega, by omega⟩ ⟨by omega, by omega⟩
        have nT9 : T9.2 = T.2 := by rw [hT9]; exact nT8
        have sT9 : sm (T9.1 3) 0 80 = sm (T8.1 3) 0 80 + (z97 - T8.1 3 (10 * ((1) + z86) + z77)) := by rw [hT9]; exact sm_fset ⟨by omega, by omega⟩
        refine g_pop C dL_town_103 rfl rfl ?_
        refine g_iinc (lv' := [(3, .int (iI ((k : Int) + 1))), (4, .int (iI z30)), (2, .ref o), (0, .ref b), (1, .int (iI (1)))]) C dL_town_104 rfl 1 rfl (by decide) rfl ?_
        refine g_goto C dL_town_107 10 (by decide) ?_
        exact g_to [0, 2, 3, 4] (ih (k + 1) (by omega) T9 ⟨hBT9, by omega, fun _ => by omega, by rw [nT9]; exact h2, by rw [nT9]; exact h3, by rw [nT9]; exact h4, by rw [nT9]; exact h6⟩) rfl rfl rfl
  refine g_astore_n C dL_town_7 rfl (by decide) rfl ?_
  refine g_iconst C dL_town_8 rfl ?_
  refine g_istore_n C dL_town_9 rfl (by decide) rfl ?_
  have hz : sm (gT0.1 3) 0 80 = 0 := by
    rw [sm_sN]
    exact sN_0 _ (fun _ _ => rfl)
  exact g_to [0, 1, 2, 3] (S10 24 0 (by omega) gT0 ⟨bld_0, by omega, fun _ => by omega, rfl, rfl, rfl, rfl⟩) rfl rfl rfl
