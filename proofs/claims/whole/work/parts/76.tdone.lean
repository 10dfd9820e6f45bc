abbrev q_X9_setGround : Room := { frames := 9, cells := 1, slots := 6, locals := 180 }
set_option maxHeartbeats 4000000 in
set_option maxRecDepth 100000 in
theorem t_X9_setGround_i (l : Launch) (E : gE) (sa : gTx) (hfl : l.stackTraces = false) (o tr : Nat) (ad : Nat → Nat) (S : gS) (x y g : Int) (hS : okT S) (hx : (-2147483648 ≤ x ∧ x ≤ 2147483647)) (hy : (-2147483648 ≤ y ∧ y ≤ 2147483647)) (hg : (-2147483648 ≤ g ∧ g ≤ 2147483647)) (hc : ¬ tC x y) : gKT l E yX9_setGround cX9_setGround 6 (some .int) q_X9_setGround [.ref o, .int (iI x), .int (iI y), .int (iI g)] ([(o, .inr (8, [.ref (ad 0), .ref tr]))] ++ (wT E ad S)) sa "java/lang/IndexOutOfBoundsException" ([(o, .inr (8, [.ref (ad 0), .ref tr]))] ++ (wT E ad S)) := by
  refine gKT_by RX9 rfl (by decide) mX9_setGround [(0, .ref o), (1, .int (iI x)), (2, .int (iI y)), (3, .int (iI g))] (Nat.le_of_ble_eq_true rfl) rfl ?_
  intro zp ze zs zm za zb zh zc zA zQ hx9 C hX9 Z
  refine g_iload_n C dX9_setGround_0 rfl 1 rfl ?_
  refine g_iload_n C dX9_setGround_1 rfl 2 rfl ?_
  exact g_callST (As := [.int (iI x), .int (iI y)]) ([(o, .inr (8, [.ref (ad 0), .ref tr]))] ++ (wT E ad S)) C hX9 (t_X9_checkCell l E sa hfl x y hc (by omega) (by omega)) (fun _ => gPX_blind) mX9_checkCell wd412 wd411 rfl rfl (Nat.le_of_ble_eq_true rfl) ⟨Nat.le_of_ble_eq_true rfl, Nat.le_of_ble_eq_true rfl⟩ ⟨Nat.le_of_ble_eq_true rfl, Nat.le_of_ble_eq_true rfl⟩ rfl dX9_setGround_2 (g_tout C hx9 Z rfl ⟨Nat.le_of_ble_eq_true rfl, Nat.le_of_ble_eq_true rfl⟩)
abbrev q_X9_lay : Room := { frames := 9, cells := 1, slots := 6, locals := 180 }
set_option maxHeartbeats 4000000 in
set_option maxRecDepth 100000 in
theorem t_X9_lay_i (l : Launch) (E : gE) (sa : gTx) (hfl : l.stackTraces = false) (o tr : Nat) (ad : Nat → Nat) (S : gS) (x y b : Int) (hS : okT S) (hx : (-2147483648 ≤ x ∧ x ≤ 2147483647)) (hy : (-2147483648 ≤ y ∧ y ≤ 2147483647)) (hb : (-2147483648 ≤ b ∧ b ≤ 2147483647)) (hc : ¬ tC x y) : gKT l E yX9_lay cX9_lay 6 (some .int) q_X9_lay [.ref o, .int (iI x), .int (iI y), .int (iI b)] ([(o, .inr (8, [.ref (ad 0), .ref tr]))] ++ (wT E ad S)) sa "java/lang/IndexOutOfBoundsException" ([(o, .inr (8, [.ref (ad 0), .ref tr]))] ++ (wT E ad S)) := by
  refine gKT_by RX9 rfl (by decide) mX9_lay [(0, .ref o), (1, .int (iI x)), (2, .int (iI y)), (3, .int (iI b))] (Nat.le_of_ble_eq_true rfl) rfl ?_
  intro zp ze zs zm za zb zh zc zA zQ hx9 C hX9 Z
  refine g_iload_n C dX9_lay_0 rfl 1 rfl ?_
  refine g_iload_n C dX9_lay_1 rfl 2 rfl ?_
  exact g_callST (As := [.int (iI x), .int (iI y)]) ([(o, .inr (8, [.ref (ad 0), .ref tr]))] ++ (wT E ad S)) C hX9 (t_X9_checkCell l E sa hfl x y hc (by omega) (by omega)) (fun _ => gPX_blind) mX9_checkCell wd412 wd411 rfl rfl (Nat.le_of_ble_eq_true rfl) ⟨Nat.le_of_ble_eq_true rfl, Nat.le_of_ble_eq_true rfl⟩ ⟨Nat.le_of_ble_eq_true rfl, Nat.le_of_ble_eq_true rfl⟩ rfl dX9_lay_2 (g_tout C hx9 Z rfl ⟨Nat.le_of_ble_eq_true rfl, Nat.le_of_ble_eq_true rfl⟩)
abbrev q_X9_addPump : Room := { frames := 9, cells := 1, slots := 6, locals := 180 }
set_option maxHeartbeats 4000000 in
set_option maxRecDepth 100000 in
theorem t_X9_addPump_i (l : Launch) (E : gE) (sa : gTx) (hfl : l.stackTraces = false) (o tr : Nat) (ad : Nat → Nat) (S : gS) (x y p f : Int) (hS : okT S) (hx : (-2147483648 ≤ x ∧ x ≤ 2147483647)) (hy : (-2147483648 ≤ y ∧ y ≤ 2147483647)) (hp : (-2147483648 ≤ p ∧ p ≤ 2147483647)) (hf : (-2147483648 ≤ f ∧ f ≤ 2147483647)) (hc : ¬ tC x y) : gKT l E yX9_addPump cX9_addPump 5 (some .int) q_X9_addPump [.ref o, .int (iI x), .int (iI y), .int (iI p), .int (iI f)] ([(o, .inr (8, [.ref (ad 0), .ref tr]))] ++ (wT E ad S)) sa "java/lang/IndexOutOfBoundsException" ([(o, .inr (8, [.ref (ad 0), .ref tr]))] ++ (wT E ad S)) := by
  refine gKT_by RX9 rfl (by decide) mX9_addPump [(0, .ref o), (1, .int (iI x)), (2, .int (iI y)), (3, .int (iI p)), (4, .int (iI f))] (Nat.le_of_ble_eq_true rfl) rfl ?_
  intro zp ze zs zm za zb zh zc zA zQ hx9 C hX9 Z
  refine g_iload_n C dX9_addPump_0 rfl 1 rfl ?_
  refine g_iload_n C dX9_addPump_1 rfl 2 rfl ?_
  exact g_callST (As := [.int (iI x), .int (iI y)]) ([(o, .inr (8, [.ref (ad 0), .ref tr]))] ++ (wT E ad S)) C hX9 (t_X9_checkCell l E sa hfl x y hc (by omega) (by omega)) (fun _ => gPX_blind) mX9_checkCell wd412 wd411 rfl rfl (Nat.le_of_ble_eq_true rfl) ⟨Nat.le_of_ble_eq_true rfl, Nat.le_of_ble_eq_true rfl⟩ ⟨Nat.le_of_ble_eq_true rfl, Nat.le_of_ble_eq_true rfl⟩ rfl dX9_addPump_2 (g_tout C hx9 Z rfl ⟨Nat.le_of_ble_eq_true rfl, Nat.le_of_ble_eq_true rfl⟩)
abbrev q_X9_addGauge : Room := { frames := 9, cells := 1, slots := 6, locals := 180 }
set_option maxHeartbeats 4000000 in
set_option maxRecDepth 100000 in
theorem t_X9_addGauge_i (l : Launch) (E : gE) (sa : gTx) (hfl : l.stackTraces = false) (o tr : Nat) (ad : Nat → Nat) (S : gS) (x y mk : Int) (hS : okT S) (hx : (-2147483648 ≤ x ∧ x ≤ 2147483647)) (hy : (-2147483648 ≤ y ∧ y ≤ 2147483647)) (hmk : (-2147483648 ≤ mk ∧ mk ≤ 2147483647)) (hc : ¬ tC x y) : gKT l E yX9_addGauge cX9_addGauge 4 (some .int) q_X9_addGauge [.ref o, .int (iI x), .int (iI y), .int (iI mk)] ([(o, .inr (8, [.ref (ad 0), .ref tr]))] ++ (wT E ad S)) sa "java/lang/IndexOutOfBoundsException" ([(o, .inr (8, [.ref (ad 0), .ref tr]))] ++ (wT E ad S)) := by
  refine gKT_by RX9 rfl (by decide) mX9_addGauge [(0, .ref o), (1, .int (iI x)), (2, .int (iI y)), (3, .int (iI mk))] (Nat.le_of_ble_eq_true rfl) rfl ?_
  intro zp ze zs zm za zb zh zc zA zQ hx9 C hX9 Z
  refine g_iload_n C dX9_addGauge_0 rfl 1 rfl ?_
  refine g_iload_n C dX9_addGauge_1 rfl 2 rfl ?_
  exact g_callST (As := [.int (iI x), .int (iI y)]) ([(o, .inr (8, [.ref (ad 0), .ref tr]))] ++ (wT E ad S)) C hX9 (t_X9_checkCell l E sa hfl x y hc (by omega) (by omega)) (fun _ => gPX_blind) mX9_checkCell wd412 wd411 rfl rfl (Nat.le_of_ble_eq_true rfl) ⟨Nat.le_of_ble_eq_true rfl, Nat.le_of_ble_eq_true rfl⟩ ⟨Nat.le_of_ble_eq_true rfl, Nat.le_of_ble_eq_true rfl⟩ rfl dX9_addGauge_2 (g_tout C hx9 Z rfl ⟨Nat.le_of_ble_eq_true rfl, Nat.le_of_ble_eq_true rfl⟩)
abbrev q_X9_addRefuge : Room := { frames := 9, cells := 1, slots := 6, locals := 180 }
set_option maxHeartbeats 4000000 in
set_option maxRecDepth 100000 in
theorem t_X9_addRefuge_i (l : Launch) (E : gE) (sa : gTx) (hfl : l.stackTraces = false) (o tr : Nat) (ad : Nat → Nat) (S : gS) (x y rm : Int) (hS : okT S) (hx : (-2147483648 ≤ x ∧ x ≤ 2147483647)) (hy : (-2147483648 ≤ y ∧ y ≤ 2147483647)) (hrm : (-2147483648 ≤ rm ∧ rm ≤ 2147483647)) (hc : ¬ tC x y) : gKT l E yX9_addRefuge cX9_addRefuge 4 (some .int) q_X9_addRefuge [.ref o, .int (iI x), .int (iI y), .int (iI rm)] ([(o, .inr (8, [.ref (ad 0), .ref tr]))] ++ (wT E ad S)) sa "java/lang/IndexOutOfBoundsException" ([(o, .inr (8, [.ref (ad 0), .ref tr]))] ++ (wT E ad S)) := by
  refine gKT_by RX9 rfl (by decide) mX9_addRefuge [(0, .ref o), (1, .int (iI x)), (2, .int (iI y)), (3, .int (iI rm))] (Nat.le_of_ble_eq_true rfl) rfl ?_
  intro zp ze zs zm za zb zh zc zA zQ hx9 C hX9 Z
  refine g_iload_n C dX9_addRefuge_0 rfl 1 rfl ?_
  refine g_iload_n C dX9_addRefuge_1 rfl 2 rfl ?_
  exact g_callST (As := [.int (iI x), .int (iI y)]) ([(o, .inr (8, [.ref (ad 0), .ref tr]))] ++ (wT E ad S)) C hX9 (t_X9_checkCell l E sa hfl x y hc (by omega) (by omega)) (fun _ => gPX_blind) mX9_checkCell wd412 wd411 rfl rfl (Nat.le_of_ble_eq_true rfl) ⟨Nat.le_of_ble_eq_true rfl, Nat.le_of_ble_eq_true rfl⟩ ⟨Nat.le_of_ble_eq_true rfl, Nat.le_of_ble_eq_true rfl⟩ rfl dX9_addRefuge_2 (g_tout C hx9 Z rfl ⟨Nat.le_of_ble_eq_true rfl, Nat.le_of_ble_eq_true rfl⟩)
abbrev q_X9_settle : Room := { frames := 9, cells := 1, slots := 6, locals := 180 }
set_option maxHeartbeats 4000000 in
set_option maxRecDepth 100000 in
theorem t_X9_settle_i (l : Launch) (E : gE) (sa : gTx) (hfl : l.stackTraces = false) (o tr : Nat) (ad : Nat → Nat) (S : gS) (x y n : Int) (hS : okT S) (hx : (-2147483648 ≤ x ∧ x ≤ 2147483647)) (hy : (-2147483648 ≤ y ∧ y ≤ 2147483647)) (hn : (-2147483648 ≤ n ∧ n ≤ 2147483647)) (hc : ¬ tC x y) : gKT l E yX9_settle cX9_settle 4 (some .int) q_X9_settle [.ref o, .int (iI x), .int (iI y), .int (iI n)] ([(o, .inr (8, [.ref (ad 0), .ref tr]))] ++ (wT E ad S)) sa "java/lang/IndexOutOfBoundsException" ([(o, .inr (8, [.ref (ad 0), .ref tr]))] ++ (wT E ad S)) := by
  refine gKT_by RX9 rfl (by decide) mX9_settle [(0, .ref o), (1, .int (iI x)), (2, .int (iI y)), (3, .int (iI n))] (Nat.le_of_ble_eq_true rfl) rfl ?_
  intro zp ze zs zm za zb zh zc zA zQ hx9 C hX9 Z
  refine g_iload_n C dX9_settle_0 rfl 1 rfl ?_
  refine g_iload_n C dX9_settle_1 rfl 2 rfl ?_
  exact g_callST (As := [.int (iI x), .int (iI y)]) ([(o, .inr (8, [.ref (ad 0), .ref tr]))] ++ (wT E ad S)) C hX9 (t_X9_checkCell l E sa hfl x y hc (by omega) (by omega)) (fun _ => gPX_blind) mX9_checkCell wd412 wd411 rfl rfl (Nat.le_of_ble_eq_true rfl) ⟨Nat.le_of_ble_eq_true rfl, Nat.le_of_ble_eq_true rfl⟩ ⟨Nat.le_of_ble_eq_true rfl, Nat.le_of_ble_eq_true rfl⟩ rfl dX9_settle_2 (g_tout C hx9 Z rfl ⟨Nat.le_of_ble_eq_true rfl, Nat.le_of_ble_eq_true rfl⟩)
abbrev q_X9_addCaller : Room := { frames := 9, cells := 1, slots := 6, locals := 180 }
set_option maxHeartbeats 4000000 in
set_option maxRecDepth 100000 in
theorem t_X9_addCaller_i (l : Launch) (E : gE) (sa : gTx) (hfl : l.stackTraces = false) (o tr : Nat) (ad : Nat → Nat) (S : gS) (x y : Int) (hS : okT S) (hx : (-2147483648 ≤ x ∧ x ≤ 2147483647)) (hy : (-2147483648 ≤ y ∧ y ≤ 2147483647)) (hc : ¬ tC x y) : gKT l E yX9_addCaller cX9_addCaller 3 (some .int) q_X9_addCaller [.ref o, .int (iI x), .int (iI y)] ([(o, .inr (8, [.ref (ad 0), .ref tr]))] ++ (wT E ad S)) sa "java/lang/IndexOutOfBoundsException" ([(o, .inr (8, [.ref (ad 0), .ref tr]))] ++ (wT E ad S)) := by
  refine gKT_by RX9 rfl (by decide) mX9_addCaller [(0, .ref o), (1, .int (iI x)), (2, .int (iI y))] (Nat.le_of_ble_eq_true rfl) rfl ?_
  intro zp ze zs zm za zb zh zc zA zQ hx9 C hX9 Z
  refine g_iload_n C dX9_addCaller_0 rfl 1 rfl ?_
  refine g_iload_n C dX9_addCaller_1 rfl 2 rfl ?_
  exact g_callST (As := [.int (iI x), .int (iI y)]) ([(o, .inr (8, [.ref (ad 0), .ref tr]))] ++ (wT E ad S)) C hX9 (t_X9_checkCell l E sa hfl x y hc (by omega) (by omega)) (fun _ => gPX_blind) mX9_checkCell wd412 wd411 rfl rfl (Nat.le_of_ble_eq_true rfl) ⟨Nat.le_of_ble_eq_true rfl, Nat.le_of_ble_eq_true rfl⟩ ⟨Nat.le_of_ble_eq_true rfl, Nat.le_of_ble_eq_true rfl⟩ rfl dX9_addCaller_2 (g_tout C hx9 Z rfl ⟨Nat.le_of_ble_eq_true rfl, Nat.le_of_ble_eq_true rfl⟩)
abbrev q_X9_cell : Room := { frames := 9, cells := 1, slots := 6, locals := 180 }
set_option maxHeartbeats 4000000 in
set_option maxRecDepth 100000 in
theorem t_X9_cell_i (l : Launch) (E : gE) (sa : gTx) (hfl : l.stackTraces = false) (o tr : Nat) (ad : Nat → Nat) (S : gS) (x y what : Int) (hS : okT S) (hx : (-2147483648 ≤ x ∧ x ≤ 2147483647)) (hy : (-2147483648 ≤ y ∧ y ≤ 2147483647)) (hwhat : (-2147483648 ≤ what ∧ what ≤ 2147483647)) (hc : ¬ tC x y) : gKT l E yX9_cell cX9_cell 4 (some .int) q_X9_cell [.ref o, .int (iI x), .int (iI y), .int (iI what)] ([(o, .inr (8, [.ref (ad 0), .ref tr]))] ++ (wT E ad S)) sa "java/lang/IndexOutOfBoundsException" ([(o, .inr (8, [.ref (ad 0), .ref tr]))] ++ (wT E ad S)) := by
  refine gKT_by RX9 rfl (by decide) mX9_cell [(0, .ref o), (1, .int (iI x)), (2, .int (iI y)), (3, .int (iI what))] (Nat.le_of_ble_eq_true rfl) rfl ?_
  intro zp ze zs zm za zb zh zc zA zQ hx9 C hX9 Z
  refine g_iload_n C dX9_cell_0 rfl 1 rfl ?_
  refine g_iload_n C dX9_cell_1 rfl 2 rfl ?_
  exact g_callST (As := [.int (iI x), .int (iI y)]) ([(o, .inr (8, [.ref (ad 0), .ref tr]))] ++ (wT E ad S)) C hX9 (t_X9_checkCell l E sa hfl x y hc (by omega) (by omega)) (fun _ => gPX_blind) mX9_checkCell wd412 wd411 rfl rfl (Nat.le_of_ble_eq_true rfl) ⟨Nat.le_of_ble_eq_true rfl, Nat.le_of_ble_eq_true rfl⟩ ⟨Nat.le_of_ble_eq_true rfl, Nat.le_of_ble_eq_true rfl⟩ rfl dX9_cell_2 (g_tout C hx9 Z rfl ⟨Nat.le_of_ble_eq_true rfl, Nat.le_of_ble_eq_true rfl⟩)
set_option maxHeartbeats 4000000 in
set_option maxRecDepth 100000 in
theorem t_X9_setGround_a (l : Launch) (E : gE) (sa : gTx) (hfl : l.stackTraces = false) (o tr : Nat) (ad : Nat → Nat) (S : gS) (x y g : Int) (hS : okT S) (hx : (-2147483648 ≤ x ∧ x ≤ 2147483647)) (hy : (-2147483648 ≤ y ∧ y ≤ 2147483647)) (hg : (-2147483648 ≤ g ∧ g ≤ 2147483647)) (hc : tC x y) (h : ¬ (0 ≤ g ∧ g ≤ 9)) : gKT l E yX9_setGround cX9_setGround 6 (some .int) q_X9_setGround [.ref o, .int (iI x), .int (iI y), .int (iI g)] ([(o, .inr (8, [.ref (ad 0), .ref tr]))] ++ (wT E ad S)) sa "java/lang/IllegalArgumentException" ([(o, .inr (8, [.ref (ad 0), .ref tr]))] ++ (wT E ad S)) := by
  refine gKT_by RX9 rfl (by decide) mX9_setGround [(0, .ref o), (1, .int (iI x)), (2, .int (iI y)), (3, .int (iI g))] (Nat.le_of_ble_eq_true rfl) rfl ?_
  intro zp ze zs zm za zb zh zc zA zQ hx9 C hX9 Z
  have hd := hc
  unfold tC at hd
  refine g_iload_n C dX9_setGround_0 rfl 1 rfl ?_
  refine g_iload_n C dX9_setGround_1 rfl 2 rfl ?_
  refine g_callS1 (As := [.int (iI x), .int (iI y)]) (rv := none) (kc' := 0) (ks' := 0) C (k_X9_checkCell_1 l E x y hc) mX9_checkCell wd412 wd411 rfl rfl (Nat.le_of_ble_eq_true rfl) ⟨Nat.le_of_ble_eq_true rfl, Nat.le_of_ble_eq_true rfl⟩ ⟨Nat.le_of_ble_eq_true rfl, Nat.le_of_ble_eq_true rfl⟩ rfl rfl dX9_setGround_2 rfl ?_
  refine g_iload_n C dX9_setGround_5 rfl 3 rfl ?_
  refine g_iconst C dX9_setGround_6 rfl ?_
  refine g_bipush C dX9_setGround_7 rfl rfl ?_
  refine g_callS1 (As := [.int (iI g), .int (iI (0)), .int (iI (9))]) (rv := some (.int (iI (bI ((0) ≤ g ∧ g ≤ (9)))))) (kc' := 0) (ks' := 0) C (k_X9_isWithin l E g (0) (9) (by omega) (by omega) (by omega)) mX9_isWithin wd415 wd414 rfl rfl (Nat.le_of_ble_eq_true rfl) ⟨Nat.le_of_ble_eq_true rfl, Nat.le_of_ble_eq_true rfl⟩ ⟨Nat.le_of_ble_eq_true rfl, Nat.le_of_ble_eq_true rfl⟩ rfl rfl dX9_setGround_9 rfl ?_
  have n9 := bI_w ((0) ≤ g ∧ g ≤ (9))
  rw [show (bI ((0) ≤ g ∧ g ≤ (9))) = 0 from by omega]
  exact g_callST (As := [.int (iI (0))]) ([(o, .inr (8, [.ref (ad 0), .ref tr]))] ++ (wT E ad S)) C hX9 (t_X9_checkArgument l E sa hfl) (fun _ => gPX_blind) mX9_checkArgument wd489 wd488 rfl rfl (Nat.le_of_ble_eq_true rfl) ⟨Nat.le_of_ble_eq_true rfl, Nat.le_of_ble_eq_true rfl⟩ ⟨Nat.le_of_ble_eq_true rfl, Nat.le_of_ble_eq_true rfl⟩ rfl dX9_setGround_12 (g_tout C hx9 Z rfl ⟨Nat.le_of_ble_eq_true rfl, Nat.le_of_ble_eq_true rfl⟩)
set_option maxHeartbeats 4000000 in
set_option maxRecDepth 100000 in
theorem t_X9_lay_a (l : Launch) (E : gE) (sa : gTx) (hfl : l.stackTraces = false) (o tr : Nat) (ad : Nat → Nat) (S : gS) (x y b : Int) (hS : okT S) (hx : (-2147483648 ≤ x ∧ x ≤ 2147483647)) (hy : (-2147483648 ≤ y ∧ y ≤ 2147483647)) (hb : (-2147483648 ≤ b ∧ b ≤ 2147483647)) (hc : tC x y) (h : ¬ (0 ≤ b ∧ b ≤ 5)) : gKT l E yX9_lay cX9_lay 6 (some .int) q_X9_lay [.ref o, .int (iI x), .int (iI y), .int (iI b)] ([(o, .inr (8, [.ref (ad 0), .ref tr]))] ++ (wT E ad S)) sa "java/lang/IllegalArgumentException" ([(o, .inr (8, [.ref (ad 0), .ref tr]))] ++ (wT E ad S)) := by
  refine gKT_by RX9 rfl (by decide) mX9_lay [(0, .ref o), (1, .int (iI x)), (2, .int (iI y)), (3, .int (iI b))] (Nat.le_of_ble_eq_true rfl) rfl ?_
  intro zp ze zs zm za zb zh zc zA zQ hx9 C hX9 Z
  have hd := hc
  unfold tC at hd
  refine g_iload_n C dX9_lay_0 rfl 1 rfl ?_
  refine g_iload_n C dX9_lay_1 rfl 2 rfl ?_
  refine g_callS1 (As := [.int (iI x), .int (iI y)]) (rv := none) (kc' := 0) (ks' := 0) C (k_X9_checkCell_1 l E x y hc) mX9_checkCell wd412 wd411 rfl rfl (Nat.le_of_ble_eq_true rfl) ⟨Nat.le_of_ble_eq_true rfl, Nat.le_of_ble_eq_true rfl⟩ ⟨Nat.le_of_ble_eq_true rfl, Nat.le_of_ble_eq_true rfl⟩ rfl rfl dX9_lay_2 rfl ?_
  refine g_iload_n C dX9_lay_5 rfl 3 rfl ?_
  refine g_iconst C dX9_lay_6 rfl ?_
  refine g_iconst C dX9_lay_7 rfl ?_
  refine g_callS1 (As := [.int (iI b), .int (iI (0)), .int (iI (5))]) (rv := some (.int (iI (bI ((0) ≤ b ∧ b ≤ (5)))))) (kc' := 0) (ks' := 0) C (k_X9_isWithin l E b (0) (5) (by omega) (by omega) (by omega)) mX9_isWithin wd415 wd414 rfl rfl (Nat.le_of_ble_eq_true rfl) ⟨Nat.le_of_ble_eq_true rfl, Nat.le_of_ble_eq_true rfl⟩ ⟨Nat.le_of_ble_eq_true rfl, Nat.le_of_ble_eq_true rfl⟩ rfl rfl dX9_lay_8 rfl ?_
  have n8 := bI_w ((0) ≤ b ∧ b ≤ (5))
  rw [show (bI ((0) ≤ b ∧ b ≤ (5))) = 0 from by omega]
  exact g_callST (As := [.int (iI (0))]) ([(o, .inr (8, [.ref (ad 0), .ref tr]))] ++ (wT E ad S)) C hX9 (t_X9_checkArgument l E sa hfl) (fun _ => gPX_blind) mX9_checkArgument wd489 wd488 rfl rfl (Nat.le_of_ble_eq_true rfl) ⟨Nat.le_of_ble_eq_true rfl, Nat.le_of_ble_eq_true rfl⟩ ⟨Nat.le_of_ble_eq_true rfl, Nat.le_of_ble_eq_true rfl⟩ rfl dX9_lay_11 (g_tout C hx9 Z rfl ⟨Nat.le_of_ble_eq_true rfl, Nat.le_of_ble_eq_true rfl⟩)
set_option maxHeartbeats 4000000 in
set_option maxRecDepth 100000 in
theorem t_X9_lay_s (l : Launch) (E : gE) (sa : gTx) (hfl : l.stackTraces = false) (o tr : Nat) (ad : Nat → Nat) (S : gS) (x y b : Int) (hS : okT S) (hx : (-2147483648 ≤ x ∧ x ≤ 2147483647)) (hy : (-2147483648 ≤ y ∧ y ≤ 2147483647)) (hb : (-2147483648 ≤ b ∧ b ≤ 2147483647)) (hc : tC x y) (h : 0 ≤ b ∧ b ≤ 5) (h2 : ¬ sm (S.1 3) 0 80 - S.1 3 (10 * y + x) + b ≤ 40) : gKT l E yX9_lay cX9_lay 6 (some .int) q_X9_lay [.ref o, .int (iI x), .int (iI y), .int (iI b)] ([(o, .inr (8, [.ref (ad 0), .ref tr]))] ++ (wT E ad S)) sa "java/lang/IllegalStateException" ([(o, .inr (8, [.ref (ad 0), .ref tr]))] ++ (wT E ad S)) := by
  refine gKT_by RX9 rfl (by decide) mX9_lay [(0, .ref o), (1, .int (iI x)), (2, .int (iI y)), (3, .int (iI b))] (Nat.le_of_ble_eq_true rfl) rfl ?_
  intro zp ze zs zm za zb zh zc zA zQ hx9 C hX9 Z
  have hd := hc
  unfold tC at hd
  refine g_iload_n C dX9_lay_0 rfl 1 rfl ?_
  refine g_iload_n C dX9_lay_1 rfl 2 rfl ?_
  refine g_callS1 (As := [.int (iI x), .int (iI y)]) (rv := none) (kc' := 0) (ks' := 0) C (k_X9_checkCell_1 l E x y hc) mX9_checkCell wd412 wd411 rfl rfl (Nat.le_of_ble_eq_true rfl) ⟨Nat.le_of_ble_eq_true rfl, Nat.le_of_ble_eq_true rfl⟩ ⟨Nat.le_of_ble_eq_true rfl, Nat.le_of_ble_eq_true rfl⟩ rfl rfl dX9_lay_2 rfl ?_
  refine g_iload_n C dX9_lay_5 rfl 3 rfl ?_
  refine g_iconst C dX9_lay_6 rfl ?_
  refine g_iconst C dX9_lay_7 rfl ?_
  refine g_callS1 (As := [.int (iI b), .int (iI (0)), .int (iI (5))]) (rv := some (.int (iI (bI ((0) ≤ b ∧ b ≤ (5)))))) (kc' := 0) (ks' := 0) C (k_X9_isWithin l E b (0) (5) (by omega) (by omega) (by omega)) mX9_isWithin wd415 wd414 rfl rfl (Nat.le_of_ble_eq_true rfl) ⟨Nat.le_of_ble_eq_true rfl, Nat.le_of_ble_eq_true rfl⟩ ⟨Nat.le_of_ble_eq_true rfl, Nat.le_of_ble_eq_true rfl⟩ rfl rfl dX9_lay_8 rfl ?_
  have n8 := bI_w ((0) ≤ b ∧ b ≤ (5))
  rw [show (bI ((0) ≤ b ∧ b ≤ (5))) = 1 from by omega]
  refine g_callS1 (As := [.int (iI (1))]) (rv := none) (kc' := 0) (ks' := 0) C (k_X9_checkArgument_1 l E) mX9_checkArgument wd489 wd488 rfl rfl (Nat.le_of_ble_eq_true rfl) ⟨Nat.le_of_ble_eq_true rfl, Nat.le_of_ble_eq_true rfl⟩ ⟨Nat.le_of_ble_eq_true rfl, Nat.le_of_ble_eq_true rfl⟩ rfl rfl dX9_lay_11 rfl ?_
  refine g_iload_n C dX9_lay_14 rfl 1 rfl ?_
  refine g_iload_n C dX9_lay_15 rfl 2 rfl ?_
  refine g_callS1 (As := [.int (iI x), .int (iI y)]) (rv := some (.int (iI (10 * y + x)))) (kc' := 0) (ks' := 0) C (k_X9_placeOf l E x y) mX9_placeOf wd508 wd507 rfl rfl (Nat.le_of_ble_eq_true rfl) ⟨Nat.le_of_ble_eq_true rfl, Nat.le_of_ble_eq_true rfl⟩ ⟨Nat.le_of_ble_eq_true rfl, Nat.le_of_ble_eq_true rfl⟩ rfl rfl dX9_lay_16 rfl ?_
  refine g_istore (lv' := [(4, .int (iI (10 * y + x))), (0, .ref o), (1, .int (iI x)), (2, .int (iI y)), (3, .int (iI b))]) C dX9_lay_19 rfl (by decide) rfl ?_
  refine g_aload_n C dX9_lay_21 rfl 1 rfl ?_
  refine g_get (v := .ref (ad 0)) (T := TX9) (N := 2) (ci := 8) C in_X9 0 rfl rfl 0 (by decide) wd244 (Or.inl rfl) rfl dX9_lay_22 rfl ?_
  refine g_get (v := .ref (ad 1)) (T := TX7) (N := 8) (ci := 6) C in_X7 1 rfl rfl 1 (by decide) wd215 (Or.inl rfl) rfl dX9_lay_25 rfl ?_
  refine g_perm (ws1 := wT E ad S ++ ([(o, .inr (8, [.ref (ad 0), .ref tr]))])) pm_10 ?_
  refine g_callVf (As := []) (rv := some (.int (iI (sm (S.1 3) 0 80)))) (w1 := wT E ad S) (kc' := 0) (ks' := 0) C ([(o, .inr (8, [.ref (ad 0), .ref tr]))]) (k_X3_bagsInTown l E ad S (okT_L (S := S) hS)) mX3_bagsInTown iX3_bagsInTown wd518 1 3 rfl rfl rfl rfl rfl (Nat.le_of_ble_eq_true rfl) ⟨Nat.le_of_ble_eq_true rfl, Nat.le_of_ble_eq_true rfl⟩ ⟨Nat.le_of_ble_eq_true rfl, Nat.le_of_ble_eq_true rfl⟩ rfl rfl rfl dX9_lay_28 rfl ?_
  refine g_perm (ws1 := [(o, .inr (8, [.ref (ad 0), .ref tr]))] ++ (wT E ad S)) pm_10 ?_
  have n28 := sm_b (o := 0) (okT_3 hS) 80
  refine g_aload_n C dX9_lay_31 rfl 1 rfl ?_
  refine g_get (v := .ref (ad 0)) (T := TX9) (N := 2) (ci := 8) C in_X9 0 rfl rfl 0 (by decide) wd244 (Or.inl rfl) rfl dX9_lay_32 rfl ?_
  refine g_get (v := .ref (ad 1)) (T := TX7) (N := 8) (ci := 6) C in_X7 1 rfl rfl 1 (by decide) wd215 (Or.inl rfl) rfl dX9_lay_35 rfl ?_
  refine g_get (v := .ref (ad 3)) (T := TX3) (N := 5) (ci := 3) C in_X3 2 rfl rfl 1 (by decide) wd45 (Or.inl rfl) rfl dX9_lay_38 rfl ?_
  refine g_iload C dX9_lay_41 rfl 0 rfl ?_
  refine g_iald (f := (S.1 3)) C dX9_lay_43 rfl 4 rfl (by omega) (by decide) ?_
  have b43 := okT_3 hS (10 * y + x)
  refine g_isub C dX9_lay_44 rfl ?_
  refine g_iload_n C dX9_lay_45 rfl 4 rfl ?_
  refine g_iadd C dX9_lay_46 rfl ?_
  refine g_istore (lv' := [(5, .int (iI (((sm (S.1 3) 0 80) - ((S.1 3) (10 * y + x))) + b))), (4, .int (iI (10 * y + x))), (0, .ref o), (1, .int (iI x)), (2, .int (iI y)), (3, .int (iI b))]) C dX9_lay_47 rfl (by decide) rfl ?_
  refine g_iload C dX9_lay_49 rfl 0 rfl ?_
  refine g_bipush C dX9_lay_51 rfl rfl ?_
  refine g_icmp_gt C dX9_lay_53 60 (by decide) rfl (by omega) (by omega) (fun c53 => ?_) (fun c53 => ?_)
  · skip
    refine g_iconst C dX9_lay_60 rfl ?_
    exact g_callST (As := [.int (iI (0))]) ([(o, .inr (8, [.ref (ad 0), .ref tr]))] ++ (wT E ad S)) C hX9 (t_X9_checkState l E sa hfl) (fun _ => gPX_blind) mX9_checkState wd520 wd519 rfl rfl (Nat.le_of_ble_eq_true rfl) ⟨Nat.le_of_ble_eq_true rfl, Nat.le_of_ble_eq_true rfl⟩ ⟨Nat.le_of_ble_eq_true rfl, Nat.le_of_ble_eq_true rfl⟩ rfl dX9_lay_61 (g_tout C hx9 Z rfl ⟨Nat.le_of_ble_eq_true rfl, Nat.le_of_ble_eq_true rfl⟩)
  · skip
    refine g_iconst C dX9_lay_56 rfl ?_
    refine g_goto C dX9_lay_57 61 (by decide) ?_
    exfalso; omega
abbrev q_X9_setRiver : Room := { frames := 9, cells := 1, slots := 6, locals := 180 }
set_option maxHeartbeats 4000000 in
set_option maxRecDepth 100000 in
theorem t_X9_setRiver_i (l : Launch) (E : gE) (sa : gTx) (hfl : l.stackTraces = false) (o tr : Nat) (ad : Nat → Nat) (S : gS) (k v : Int) (hS : okT S) (hk : (-2147483648 ≤ k ∧ k ≤ 2147483647)) (hv : (-2147483648 ≤ v ∧ v ≤ 2147483647)) (h : ¬ (0 ≤ k ∧ k ≤ 11)) : gKT l E yX9_setRiver cX9_setRiver 4 (some .int) q_X9_setRiver [.ref o, .int (iI k), .int (iI v)] ([(o, .inr (8, [.ref (ad 0), .ref tr]))] ++ (wT E ad S)) sa "java/lang/IndexOutOfBoundsException" ([(o, .inr (8, [.ref (ad 0), .ref tr]))] ++ (wT E ad S)) := by
  refine gKT_by RX9 rfl (by decide) mX9_setRiver [(0, .ref o), (1, .int (iI k)), (2, .int (iI v))] (Nat.le_of_ble_eq_true rfl) rfl ?_
  intro zp ze zs zm za zb zh zc zA zQ hx9 C hX9 Z
  refine g_iload_n C dX9_setRiver_0 rfl 1 rfl ?_
  refine g_iconst C dX9_setRiver_1 rfl ?_
  refine g_bipush C dX9_setRiver_2 rfl rfl ?_
  refine g_callS1 (As := [.int (iI k), .int (iI (0)), .int (iI (11))]) (rv := some (.int (iI (bI ((0) ≤ k ∧ k ≤ (11)))))) (kc' := 0) (ks' := 0) C (k_X9_isWithin l E k (0) (11) (by omega) (by omega) (by omega)) mX9_isWithin wd415 wd414 rfl rfl (Nat.le_of_ble_eq_true rfl) ⟨Nat.le_of_ble_eq_true rfl, Nat.le_of_ble_eq_true rfl⟩ ⟨Nat.le_of_ble_eq_true rfl, Nat.le_of_ble_eq_true rfl⟩ rfl rfl dX9_setRiver_4 rfl ?_
  have n4 := bI_w ((0) ≤ k ∧ k ≤ (11))
  rw [show (bI ((0) ≤ k ∧ k ≤ (11))) = 0 from by omega]
  exact g_callST (As := [.int (iI (0))]) ([(o, .inr (8, [.ref (ad 0), .ref tr]))] ++ (wT E ad S)) C hX9 (t_X9_checkIndex l E sa hfl) (fun _ => gPX_blind) mX9_checkIndex wd418 wd417 rfl rfl (Nat.le_of_ble_eq_true rfl) ⟨Nat.le_of_ble_eq_true rfl, Nat.le_of_ble_eq_true rfl⟩ ⟨Nat.le_of_ble_eq_true rfl, Nat.le_of_ble_eq_true rfl⟩ rfl dX9_setRiver_7 (g_tout C hx9 Z rfl ⟨Nat.le_of_ble_eq_true rfl, Nat.le_of_ble_eq_true rfl⟩)
set_option maxHeartbeats 4000000 in
set_option maxRecDepth 100000 in
theorem t_X9_setRiver_a (l : Launch) (E : gE) (sa : gTx) (hfl : l.stackTraces = false) (o tr : Nat) (ad : Nat → Nat) (S : gS) (k v : Int) (hS : okT S) (hk : (-2147483648 ≤ k ∧ k ≤ 2147483647)) (hv : (-2147483648 ≤ v ∧ v ≤ 2147483647)) (h : 0 ≤ k ∧ k ≤ 11) (h2 : ¬ (0 ≤ v ∧ v ≤ 12)) : gKT l E yX9_setRiver cX9_setRiver 4 (some .int) q_X9_setRiver [.ref o, .int (iI k), .int (iI v)] ([(o, .inr (8, [.ref (ad 0), .ref tr]))] ++ (wT E ad S)) sa "java/lang/IllegalArgumentException" ([(o, .inr (8, [.ref (ad 0), .ref tr]))] ++ (wT E ad S)) := by
  refine gKT_by RX9 rfl (by decide) mX9_setRiver [(0, .ref o), (1, .int (iI k)), (2, .int (iI v))] (Nat.le_of_ble_eq_true rfl) rfl ?_
  intro zp ze zs zm za zb zh zc zA zQ hx9 C hX9 Z
  refine g_iload_n C dX9_setRiver_0 rfl 1 rfl ?_
  refine g_iconst C dX9_setRiver_1 rfl ?_
  refine g_bipush C dX9_setRiver_2 rfl rfl ?_
  refine g_callS1 (As := [.int (iI k), .int (iI (0)), .int (iI (11))]) (rv := some (.int (iI (bI ((0) ≤ k ∧ k ≤ (11)))))) (kc' := 0) (ks' := 0) C (k_X9_isWithin l E k (0) (11) (by omega) (by omega) (by omega)) mX9_isWithin wd415 wd414 rfl rfl (Nat.le_of_ble_eq_true rfl) ⟨Nat.le_of_ble_eq_true rfl, Nat.le_of_ble_eq_true rfl⟩ ⟨Nat.le_of_ble_eq_true rfl, Nat.le_of_ble_eq_true rfl⟩ rfl rfl dX9_setRiver_4 rfl ?_
  have n4 := bI_w ((0) ≤ k ∧ k ≤ (11))
  rw [show (bI ((0) ≤ k ∧ k ≤ (11))) = 1 from by omega]
  refine g_callS1 (As := [.int (iI (1))]) (rv := none) (kc' := 0) (ks' := 0) C (k_X9_checkIndex_1 l E) mX9_checkIndex wd418 wd417 rfl rfl (Nat.le_of_ble_eq_true rfl) ⟨Nat.le_of_ble_eq_true rfl, Nat.le_of_ble_eq_true rfl⟩ ⟨Nat.le_of_ble_eq_true rfl, Nat.le_of_ble_eq_true rfl⟩ rfl rfl dX9_setRiver_7 rfl ?_
  refine g_iload_n C dX9_setRiver_10 rfl 2 rfl ?_
  refine g_iconst C dX9_setRiver_11 rfl ?_
  refine g_bipush C dX9_setRiver_12 rfl rfl ?_
  refine g_callS1 (As := [.int (iI v), .int (iI (0)), .int (iI (12))]) (rv := some (.int (iI (bI ((0) ≤ v ∧ v ≤ (12)))))) (kc' := 0) (ks' := 0) C (k_X9_isWithin l E v (0) (12) (by omega) (by omega) (by omega)) mX9_isWithin wd415 wd414 rfl rfl (Nat.le_of_ble_eq_true rfl) ⟨Nat.le_of_ble_eq_true rfl, Nat.le_of_ble_eq_true rfl⟩ ⟨Nat.le_of_ble_eq_true rfl, Nat.le_of_ble_eq_true rfl⟩ rfl rfl dX9_setRiver_14 rfl ?_
  have n14 := bI_w ((0) ≤ v ∧ v ≤ (12))
  rw [show (bI ((0) ≤ v ∧ v ≤ (12))) = 0 from by omega]
  exact g_callST (As := [.int (iI (0))]) ([(o, .inr (8, [.ref (ad 0), .ref tr]))] ++ (wT E ad S)) C hX9 (t_X9_checkArgument l E sa hfl) (fun _ => gPX_blind) mX9_checkArgument wd489 wd488 rfl rfl (Nat.le_of_ble_eq_true rfl) ⟨Nat.le_of_ble_eq_true rfl, Nat.le_of_ble_eq_true rfl⟩ ⟨Nat.le_of_ble_eq_true rfl, Nat.le_of_ble_eq_true rfl⟩ rfl dX9_setRiver_17 (g_tout C hx9 Z rfl ⟨Nat.le_of_ble_eq_true rfl, Nat.le_of_ble_eq_true rfl⟩)
set_option maxHeartbeats 4000000 in
set_option maxRecDepth 100000 in
theorem t_X9_addPump_a (l : Launch) (E : gE) (sa : gTx) (hfl : l.stackTraces = false) (o tr : Nat) (ad : Nat → Nat) (S : gS) (x y p f : Int) (hS : okT S) (hx : (-2147483648 ≤ x ∧ x ≤ 2147483647)) (hy : (-2147483648 ≤ y ∧ y ≤ 2147483647)) (hp : (-2147483648 ≤ p ∧ p ≤ 2147483647)) (hf : (-2147483648 ≤ f ∧ f ≤ 2147483647)) (hc : tC x y) (h : ¬ ((1 ≤ p ∧ p ≤ 5) ∧ 0 ≤ f ∧ f ≤ 30)) : gKT l E yX9_addPump cX9_addPump 5 (some .int) q_X9_addPump [.ref o, .int (iI x), .int (iI y), .int (iI p), .int (iI f)] ([(o, .inr (8, [.ref (ad 0), .ref tr]))] ++ (wT E ad S)) sa "java/lang/IllegalArgumentException" ([(o, .inr (8, [.ref (ad 0), .ref tr]))] ++ (wT E ad S)) := by
  refine gKT_by RX9 rfl (by decide) mX9_addPump [(0, .ref o), (1, .int (iI x)), (2, .int (iI y)), (3, .int (iI p)), (4, .int (iI f))] (Nat.le_of_ble_eq_true rfl) rfl ?_
  intro zp ze zs zm za zb zh zc zA zQ hx9 C hX9 Z
  have hd := hc
  unfold tC at hd
  refine g_iload_n C dX9_addPump_0 rfl 1 rfl ?_
  refine g_iload_n C dX9_addPump_1 rfl 2 rfl ?_
  refine g_callS1 (As := [.int (iI x), .int (iI y)]) (rv := none) (kc' := 0) (ks' := 0) C (k_X9_checkCell_1 l E x y hc) mX9_checkCell wd412 wd411 rfl rfl (Nat.le_of_ble_eq_true rfl) ⟨Nat.le_of_ble_eq_true rfl, Nat.le_of_ble_eq_true rfl⟩ ⟨Nat.le_of_ble_eq_true rfl, Nat.le_of_ble_eq_true rfl⟩ rfl rfl dX9_addPump_2 rfl ?_
  refine g_iload_n C dX9_addPump_5 rfl 3 rfl ?_
  refine g_iconst C dX9_addPump_6 rfl ?_
  refine g_iconst C dX9_addPump_7 rfl ?_
  refine g_callS1 (As := [.int (iI p), .int (iI (1)), .int (iI (5))]) (rv := some (.int (iI (bI ((1) ≤ p ∧ p ≤ (5)))))) (kc' := 0) (ks' := 0) C (k_X9_isWithin l E p (1) (5) (by omega) (by omega) (by omega)) mX9_isWithin wd415 wd414 rfl rfl (Nat.le_of_ble_eq_true rfl) ⟨Nat.le_of_ble_eq_true rfl, Nat.le_of_ble_eq_true rfl⟩ ⟨Nat.le_of_ble_eq_true rfl, Nat.le_of_ble_eq_true rfl⟩ rfl rfl dX9_addPump_8 rfl ?_
  have n8 := bI_w ((1) ≤ p ∧ p ≤ (5))
  refine g_if_eq C dX9_addPump_11 29 (by decide) rfl (by omega) (fun c11 => ?_) (fun c11 => ?_)
  · skip
    refine g_iconst C dX9_addPump_29 rfl ?_
    exact g_callST (As := [.int (iI (0))]) ([(o, .inr (8, [.ref (ad 0), .ref tr]))] ++ (wT E ad S)) C hX9 (t_X9_checkArgument l E sa hfl) (fun _ => gPX_blind) mX9_checkArgument wd489 wd488 rfl rfl (Nat.le_of_ble_eq_true rfl) ⟨Nat.le_of_ble_eq_true rfl, Nat.le_of_ble_eq_true rfl⟩ ⟨Nat.le_of_ble_eq_true rfl, Nat.le_of_ble_eq_true rfl⟩ rfl dX9_addPump_30 (g_tout C hx9 Z rfl ⟨Nat.le_of_ble_eq_true rfl, Nat.le_of_ble_eq_true rfl⟩)
  · skip
    refine g_iload C dX9_addPump_14 rfl 4 rfl ?_
    refine g_iconst C dX9_addPump_16 rfl ?_
    refine g_bipush C dX9_addPump_17 rfl rfl ?_
    refine g_callS1 (As := [.int (iI f), .int (iI (0)), .int (iI (30))]) (rv := some (.int (iI (bI ((0) ≤ f ∧ f ≤ (30)))))) (kc' := 0) (ks' := 0) C (k_X9_isWithin l E f (0) (30) (by omega) (by omega) (by omega)) mX9_isWithin wd415 wd414 rfl rfl (Nat.le_of_ble_eq_true rfl) ⟨Nat.le_of_ble_eq_true rfl, Nat.le_of_ble_eq_true rfl⟩ ⟨Nat.le_of_ble_eq_true rfl, Nat.le_of_ble_eq_true rfl⟩ rfl rfl dX9_addPump_19 rfl ?_
    have n19 := bI_w ((0) ≤ f ∧ f ≤ (30))
    refine g_if_eq C dX9_addPump_22 29 (by decide) rfl (by omega) (fun c22 => ?_) (fun c22 => ?_)
    · skip
      refine g_iconst C dX9_addPump_29 rfl ?_
      exact g_callST (As := [.int (iI (0))]) ([(o, .inr (8, [.ref (ad 0), .ref tr]))] ++ (wT E ad S)) C hX9 (t_X9_checkArgument l E sa hfl) (fun _ => gPX_blind) mX9_checkArgument wd489 wd488 rfl rfl (Nat.le_of_ble_eq_true rfl) ⟨Nat.le_of_ble_eq_true rfl, Nat.le_of_ble_eq_true rfl⟩ ⟨Nat.le_of_ble_eq_true rfl, Nat.le_of_ble_eq_true rfl⟩ rfl dX9_addPump_30 (g_tout C hx9 Z rfl ⟨Nat.le_of_ble_eq_true rfl, Nat.le_of_ble_eq_true rfl⟩)
    · skip
      refine g_iconst C dX9_addPump_25 rfl ?_
      refine g_goto C dX9_addPump_26 30 (by decide) ?_
      exfalso; omega
set_option maxHeartbeats 4000000 in
set_option maxRecDepth 100000 in
theorem t_X9_addPump_s (l : Launch) (E : gE) (sa : gTx) (hfl : l.stackTraces = false) (o tr : Nat) (ad : Nat → Nat) (S : gS) (x y p f : Int) (hS : okT S) (hx : (-2147483648 ≤ x ∧ x ≤ 2147483647)) (hy : (-2147483648 ≤ y ∧ y ≤ 2147483647)) (hp : (-2147483648 ≤ p ∧ p ≤ 2147483647)) (hf : (-2147483648 ≤ f ∧ f ≤ 2147483647)) (hc : tC x y) (h : (1 ≤ p ∧ p ≤ 5) ∧ 0 ≤ f ∧ f ≤ 30) (h2 : ¬ (S.2 1 < 5 ∧ fstI (S.1 8) (10 * y + x) (S.2 1).toNat = -1)) : gKT l E yX9_addPump cX9_addPump 5 (some .int) q_X9_addPump [.ref o, .int (iI x), .int (iI y), .int (iI p), .int (iI f)] ([(o, .inr (8, [.ref (ad 0), .ref tr]))] ++ (wT E ad S)) sa "java/lang/IllegalStateException" ([(o, .inr (8, [.ref (ad 0), .ref tr]))] ++ (wT E ad S)) := by
  refine gKT_by RX9 rfl (by decide) mX9_addPump [(0, .ref o), (1, .int (iI x)), (2, .int (iI y)), (3, .int (iI p)), (4, .int (iI f))] (Nat.le_of_ble_eq_true rfl) rfl ?_
  intro zp ze zs zm za zb zh zc zA zQ hx9 C hX9 Z
  have hd := hc
  unfold tC at hd
  refine g_iload_n C dX9_addPump_0 rfl 1 rfl ?_
  refine g_iload_n C dX9_addPump_1 rfl 2 rfl ?_
  refine g_callS1 (As := [.int (iI x), .int (iI y)]) (rv := none) (kc' := 0) (ks' := 0) C (k_X9_checkCell_1 l E x y hc) mX9_checkCell wd412 wd411 rfl rfl (Nat.le_of_ble_eq_true rfl) ⟨Nat.le_of_ble_eq_true rfl, Nat.le_of_ble_eq_true rfl⟩ ⟨Nat.le_of_ble_eq_true rfl, Nat.le_of_ble_eq_true rfl⟩ rfl rfl dX9_addPump_2 rfl ?_
  refine g_iload_n C dX9_addPump_5 rfl 3 rfl ?_
  refine g_iconst C dX9_addPump_6 rfl ?_
  refine g_iconst C dX9_addPump_7 rfl ?_
  refine g_callS1 (As := [.int (iI p), .int (iI (1)), .int (iI (5))]) (rv := some (.int (iI (bI ((1) ≤ p ∧ p ≤ (5)))))) (kc' := 0) (ks' := 0) C (k_X9_isWithin l E p (1) (5) (by omega) (by omega) (by omega)) mX9_isWithin wd415 wd414 rfl rfl (Nat.le_of_ble_eq_true rfl) ⟨Nat.le_of_ble_eq_true rfl, Nat.le_of_ble_eq_true rfl⟩ ⟨Nat.le_of_ble_eq_true rfl, Nat.le_of_ble_eq_true rfl⟩ rfl rfl dX9_addPump_8 rfl ?_
  have n8 := bI_w ((1) ≤ p ∧ p ≤ (5))
  refine g_if_eq C dX9_addPump_11 29 (by decide) rfl (by omega) (fun c11 => ?_) (fun c11 => ?_)
  · skip
    refine g_iconst C dX9_addPump_29 rfl ?_
    exfalso; omega
  · skip
    refine g_iload C dX9_addPump_14 rfl 4 rfl ?_
    refine g_iconst C dX9_addPump_16 rfl ?_
    refine g_bipush C dX9_addPump_17 rfl rfl ?_
    refine g_callS1 (As := [.int (iI f), .int (iI (0)), .int (iI (30))]) (rv := some (.int (iI (bI ((0) ≤ f ∧ f ≤ (30)))))) (kc' := 0) (ks' := 0) C (k_X9_isWithin l E f (0) (30) (by omega) (by omega) (by omega)) mX9_isWithin wd415 wd414 rfl rfl (Nat.le_of_ble_eq_true rfl) ⟨Nat.le_of_ble_eq_true rfl, Nat.le_of_ble_eq_true rfl⟩ ⟨Nat.le_of_ble_eq_true rfl, Nat.le_of_ble_eq_true rfl⟩ rfl rfl dX9_addPump_19 rfl ?_
    have n19 := bI_w ((0) ≤ f ∧ f ≤ (30))
    refine g_if_eq C dX9_addPump_22 29 (by decide) rfl (by omega) (fun c22 => ?_) (fun c22 => ?_)
    · skip
      refine g_iconst C dX9_addPump_29 rfl ?_
      exfalso; omega
    · skip
      refine g_iconst C dX9_addPump_25 rfl ?_
      refine g_goto C dX9_addPump_26 30 (by decide) ?_
      refine g_callS1 (As := [.int (iI (1))]) (rv := none) (kc' := 0) (ks' := 0) C (k_X9_checkArgument_1 l E) mX9_checkArgument wd489 wd488 rfl rfl (Nat.le_of_ble_eq_true rfl) ⟨Nat.le_of_ble_eq_true rfl, Nat.le_of_ble_eq_true rfl⟩ ⟨Nat.le_of_ble_eq_true rfl, Nat.le_of_ble_eq_true rfl⟩ rfl rfl dX9_addPump_30 rfl ?_
      refine g_aload_n C dX9_addPump_33 rfl 0 rfl ?_
      refine g_get (v := .ref (ad 0)) (T := TX9) (N := 2) (ci := 8) C in_X9 0 rfl rfl 0 (by decide) wd244 (Or.inl rfl) rfl dX9_addPump_34 rfl ?_
      refine g_get (v := .ref (ad 7)) (T := TX7) (N := 8) (ci := 6) C in_X7 1 rfl rfl 2 (by decide) wd217 (Or.inl rfl) rfl dX9_addPump_37 rfl ?_
      refine g_iload_n C dX9_addPump_40 rfl 1 rfl ?_
      refine g_iload_n C dX9_addPump_41 rfl 2 rfl ?_
      refine g_callS1 (As := [.int (iI x), .int (iI y)]) (rv := some (.int (iI (10 * y + x)))) (kc' := 0) (ks' := 0) C (k_X9_placeOf l E x y) mX9_placeOf wd508 wd507 rfl rfl (Nat.le_of_ble_eq_true rfl) ⟨Nat.le_of_ble_eq_true rfl, Nat.le_of_ble_eq_true rfl⟩ ⟨Nat.le_of_ble_eq_true rfl, Nat.le_of_ble_eq_true rfl⟩ rfl rfl dX9_addPump_42 rfl ?_
      refine g_perm (ws1 := wT E ad S ++ ([(o, .inr (8, [.ref (ad 0), .ref tr]))])) pm_10 ?_
      refine g_callUf (As := [.int (iI (10 * y + x))]) (rv := some (.int (iI (bI ((S.2 1) < 5 ∧ fstI (S.1 8) (10 * y + x) ((S.2 1)).toNat = -1))))) (w1 := wT E ad S) (kc' := 0) (ks' := 0) C "FloodWardens$Numbered" RX5 ([(o, .inr (8, [.ref (ad 0), .ref tr]))]) (k_X4_canComeTo_X5 l E ad S (10 * y + x) hS (by omega)) mX4_canComeTo ⟨wd556, wd555, wd553⟩ rfl (by decide +kernel) wd552 7 4 rfl rfl rfl rfl rfl (Nat.le_of_ble_eq_true rfl) ⟨Nat.le_of_ble_eq_true rfl, Nat.le_of_ble_eq_true rfl⟩ ⟨Nat.le_of_ble_eq_true rfl, Nat.le_of_ble_eq_true rfl⟩ rfl rfl rfl dX9_addPump_45 rfl ?_
      refine g_perm (ws1 := [(o, .inr (8, [.ref (ad 0), .ref tr]))] ++ (wT E ad S)) pm_10 ?_
      have n45 := bI_w ((S.2 1) < 5 ∧ fstI (S.1 8) (10 * y + x) ((S.2 1)).toNat = -1)
      rw [show (bI ((S.2 1) < 5 ∧ fstI (S.1 8) (10 * y + x) ((S.2 1)).toNat = -1)) = 0 from by omega]
      exact g_callST (As := [.int (iI (0))]) ([(o, .inr (8, [.ref (ad 0), .ref tr]))] ++ (wT E ad S)) C hX9 (t_X9_checkState l E sa hfl) (fun _ => gPX_blind) mX9_checkState wd520 wd519 rfl rfl (Nat.le_of_ble_eq_true rfl) ⟨Nat.le_of_ble_eq_true rfl, Nat.le_of_ble_eq_true rfl⟩ ⟨Nat.le_of_ble_eq_true rfl, Nat.le_of_ble_eq_true rfl⟩ rfl dX9_addPump_48 (g_tout C hx9 Z rfl ⟨Nat.le_of_ble_eq_true rfl, Nat.le_of_ble_eq_true rfl⟩)
abbrev q_X9_run : Room := { frames := 9, cells := 1, slots := 6, locals := 180 }
set_option maxHeartbeats 4000000 in
set_option maxRecDepth 100000 in
theorem t_X9_run_i (l : Launch) (E : gE) (sa : gTx) (hfl : l.stackTraces = false) (o tr : Nat) (ad : Nat → Nat) (S : gS) (p : Int) (hS : okT S) (hp : (-2147483648 ≤ p ∧ p ≤ 2147483647)) (h : ¬ (0 ≤ p ∧ p < S.2 1)) : gKT l E yX9_run cX9_run 2 (some .boolean) q_X9_run [.ref o, .int (iI p)] ([(o, .inr (8, [.ref (ad 0), .ref tr]))] ++ (wT E ad S)) sa "java/lang/IndexOutOfBoundsException" ([(o, .inr (8, [.ref (ad 0), .ref tr]))] ++ (wT E ad S)) := by
  refine gKT_by RX9 rfl (by decide) mX9_run [(0, .ref o), (1, .int (iI p))] (Nat.le_of_ble_eq_true rfl) rfl ?_
  intro zp ze zs zm za zb zh zc zA zQ hx9 C hX9 Z
  refine g_aload_n C dX9_run_0 rfl 0 rfl ?_
  refine g_get (v := .ref (ad 0)) (T := TX9) (N := 2) (ci := 8) C in_X9 0 rfl rfl 0 (by decide) wd244 (Or.inl rfl) rfl dX9_run_1 rfl ?_
  refine g_get (v := .ref (ad 7)) (T := TX7) (N := 8) (ci := 6) C in_X7 1 rfl rfl 2 (by decide) wd217 (Or.inl rfl) rfl dX9_run_4 rfl ?_
  refine g_iload_n C dX9_run_7 rfl 1 rfl ?_
  refine g_perm (ws1 := wT E ad S ++ ([(o, .inr (8, [.ref (ad 0), .ref tr]))])) pm_10 ?_
  refine g_callUf (As := [.int (iI p)]) (rv := some (.int (iI (bI (0 ≤ p ∧ p < (S.2 1)))))) (w1 := wT E ad S) (kc' := 0) (ks' := 0) C "FloodWardens$Numbered" RX5 ([(o, .inr (8, [.ref (ad 0), .ref tr]))]) (k_X4_has_X5 l E ad S p hS (by omega)) mX4_has ⟨wd591, wd590, wd588⟩ rfl (by decide +kernel) wd587 7 4 rfl rfl rfl rfl rfl (Nat.le_of_ble_eq_true rfl) ⟨Nat.le_of_ble_eq_true rfl, Nat.le_of_ble_eq_true rfl⟩ ⟨Nat.le_of_ble_eq_true rfl, Nat.le_of_ble_eq_true rfl⟩ rfl rfl rfl dX9_run_8 rfl ?_
  refine g_perm (ws1 := [(o, .inr (8, [.ref (ad 0), .ref tr]))] ++ (wT E ad S)) pm_10 ?_
  have n8 := bI_w (0 ≤ p ∧ p < (S.2 1))
  rw [show (bI (0 ≤ p ∧ p < (S.2 1))) = 0 from by omega]
  exact g_callST (As := [.int (iI (0))]) ([(o, .inr (8, [.ref (ad 0), .ref tr]))] ++ (wT E ad S)) C hX9 (t_X9_checkIndex l E sa hfl) (fun _ => gPX_blind) mX9_checkIndex wd418 wd417 rfl rfl (Nat.le_of_ble_eq_true rfl) ⟨Nat.le_of_ble_eq_true rfl, Nat.le_of_ble_eq_true rfl⟩ ⟨Nat.le_of_ble_eq_true rfl, Nat.le_of_ble_eq_true rfl⟩ rfl dX9_run_11 (g_tout C hx9 Z rfl ⟨Nat.le_of_ble_eq_true rfl, Nat.le_of_ble_eq_true rfl⟩)
set_option maxHeartbeats 4000000 in
set_option maxRecDepth 100000 in
theorem t_X9_addGauge_a (l : Launch) (E : gE) (sa : gTx) (hfl : l.stackTraces = false) (o tr : Nat) (ad : Nat → Nat) (S : gS) (x y mk : Int) (hS : okT S) (hx : (-2147483648 ≤ x ∧ x ≤ 2147483647)) (hy : (-2147483648 ≤ y ∧ y ≤ 2147483647)) (hmk : (-2147483648 ≤ mk ∧ mk ≤ 2147483647)) (hc : tC x y) (h : ¬ (1 ≤ mk ∧ mk ≤ 20)) : gKT l E yX9_addGauge cX9_addGauge 4 (some .int) q_X9_addGauge [.ref o, .int (iI x), .int (iI y), .int (iI mk)] ([(o, .inr (8, [.ref (ad 0), .ref tr]))] ++ (wT E ad S)) sa "java/lang/IllegalArgumentException" ([(o, .inr (8, [.ref (ad 0), .ref tr]))] ++ (wT E ad S)) := by
  refine gKT_by RX9 rfl (by decide) mX9_addGauge [(0, .ref o), (1, .int (iI x)), (2, .int (iI y)), (3, .int (iI mk))] (Nat.le_of_ble_eq_true rfl) rfl ?_
  intro zp ze zs zm za zb zh zc zA zQ hx9 C hX9 Z
  have hd := hc
  unfold tC at hd
  refine g_iload_n C dX9_addGauge_0 rfl 1 rfl ?_
  refine g_iload_n C dX9_addGauge_1 rfl 2 rfl ?_
  refine g_callS1 (As := [.int (iI x), .int (iI y)]) (rv := none) (kc' := 0) (ks' := 0) C (k_X9_checkCell_1 l E x y hc) mX9_checkCell wd412 wd411 rfl rfl (Nat.le_of_ble_eq_true rfl) ⟨Nat.le_of_ble_eq_true rfl, Nat.le_of_ble_eq_true rfl⟩ ⟨Nat.le_of_ble_eq_true rfl, Nat.le_of_ble_eq_true rfl⟩ rfl rfl dX9_addGauge_2 rfl ?_
  refine g_iload_n C dX9_addGauge_5 rfl 3 rfl ?_
  refine g_iconst C dX9_addGauge_6 rfl ?_
  refine g_bipush C dX9_addGauge_7 rfl rfl ?_
  refine g_callS1 (As := [.int (iI mk), .int (iI (1)), .int (iI (20))]) (rv := some (.int (iI (bI ((1) ≤ mk ∧ mk ≤ (20)))))) (kc' := 0) (ks' := 0) C (k_X9_isWithin l E mk (1) (20) (by omega) (by omega) (by omega)) mX9_isWithin wd415 wd414 rfl rfl (Nat.le_of_ble_eq_true rfl) ⟨Nat.le_of_ble_eq_true rfl, Nat.le_of_ble_eq_true rfl⟩ ⟨Nat.le_of_ble_eq_true rfl, Nat.le_of_ble_eq_true rfl⟩ rfl rfl dX9_addGauge_9 rfl ?_
  have n9 := bI_w ((1) ≤ mk ∧ mk ≤ (20))
  rw [show (bI ((1) ≤ mk ∧ mk ≤ (20))) = 0 from by omega]
  exact g_callST (As := [.int (iI (0))]) ([(o, .inr (8, [.ref (ad 0), .ref tr]))] ++ (wT E ad S)) C hX9 (t_X9_checkArgument l E sa hfl) (fun _ => gPX_blind) mX9_checkArgument wd489 wd488 rfl rfl (Nat.le_of_ble_eq_true rfl) ⟨Nat.le_of_ble_eq_true rfl, Nat.le_of_ble_eq_true rfl⟩ ⟨Nat.le_of_ble_eq_true rfl, Nat.le_of_ble_eq_true rfl⟩ rfl dX9_addGauge_12 (g_tout C hx9 Z rfl ⟨Nat.le_of_ble_eq_true rfl, Nat.le_of_ble_eq_true rfl⟩)
set_option maxHeartbeats 4000000 in
set_option maxRecDepth 100000 in
theorem t_X9_addGauge_s (l : Launch) (E : gE) (sa : gTx) (hfl : l.stackTraces = false) (o tr : Nat) (ad : Nat → Nat) (S : gS) (x y mk : Int) (hS : okT S) (hx : (-2147483648 ≤ x ∧ x ≤ 2147483647)) (hy : (-2147483648 ≤ y ∧ y ≤ 2147483647)) (hmk : (-2147483648 ≤ mk ∧ mk ≤ 2147483647)) (hc : tC x y) (h : 1 ≤ mk ∧ mk ≤ 20) (h2 : ¬ (S.2 2 < 4 ∧ fstI (S.1 14) (10 * y + x) (S.2 2).toNat = -1)) : gKT l E yX9_addGauge cX9_addGauge 4 (some .int) q_X9_addGauge [.ref o, .int (iI x), .int (iI y), .int (iI mk)] ([(o, .inr (8, [.ref (ad 0), .ref tr]))] ++ (wT E ad S)) sa "java/lang/IllegalStateException" ([(o, .inr (8, [.ref (ad 0), .ref tr]))] ++ (wT E ad S)) := by
  refine gKT_by RX9 rfl (by decide) mX9_addGauge [(0, .ref o), (1, .int (iI x)), (2, .int (iI y)), (3, .int (iI mk))] (Nat.le_of_ble_eq_true rfl) rfl ?_
  intro zp ze zs zm za zb zh zc zA zQ hx9 C hX9 Z
  have hd := hc
  unfold tC at hd
  refine g_iload_n C dX9_addGauge_0 rfl 1 rfl ?_
  refine g_iload_n C dX9_addGauge_1 rfl 2 rfl ?_
  refine g_callS1 (As := [.int (iI x), .int (iI y)]) (rv := none) (kc' := 0) (ks' := 0) C (k_X9_checkCell_1 l E x y hc) mX9_checkCell wd412 wd411 rfl rfl (Nat.le_of_ble_eq_true rfl) ⟨Nat.le_of_ble_eq_true rfl, Nat.le_of_ble_eq_true rfl⟩ ⟨Nat.le_of_ble_eq_true rfl, Nat.le_of_ble_eq_true rfl⟩ rfl rfl dX9_addGauge_2 rfl ?_
  refine g_iload_n C dX9_addGauge_5 rfl 3 rfl ?_
  refine g_iconst C dX9_addGauge_6 rfl ?_
  refine g_bipush C dX9_addGauge_7 rfl rfl ?_
  refine g_callS1 (As := [.int (iI mk), .int (iI (1)), .int (iI (20))]) (rv := some (.int (iI (bI ((1) ≤ mk ∧ mk ≤ (20)))))) (kc' := 0) (ks' := 0) C (k_X9_isWithin l E mk (1) (20) (by omega) (by omega) (by omega)) mX9_isWithin wd415 wd414 rfl rfl (Nat.le_of_ble_eq_true rfl) ⟨Nat.le_of_ble_eq_true rfl, Nat.le_of_ble_eq_true rfl⟩ ⟨Nat.le_of_ble_eq_true rfl, Nat.le_of_ble_eq_true rfl⟩ rfl rfl dX9_addGauge_9 rfl ?_
  have n9 := bI_w ((1) ≤ mk ∧ mk ≤ (20))
  rw [show (bI ((1) ≤ mk ∧ mk ≤ (20))) = 1 from by omega]
  refine g_callS1 (As := [.int (iI (1))]) (rv := none) (kc' := 0) (ks' := 0) C (k_X9_checkArgument_1 l E) mX9_checkArgument wd489 wd488 rfl rfl (Nat.le_of_ble_eq_true rfl) ⟨Nat.le_of_ble_eq_true rfl, Nat.le_of_ble_eq_true rfl⟩ ⟨Nat.le_of_ble_eq_true rfl, Nat.le_of_ble_eq_true rfl⟩ rfl rfl dX9_addGauge_12 rfl ?_
  refine g_aload_n C dX9_addGauge_15 rfl 0 rfl ?_
  refine g_get (v := .ref (ad 0)) (T := TX9) (N := 2) (ci := 8) C in_X9 0 rfl rfl 0 (by decide) wd244 (Or.inl rfl) rfl dX9_addGauge_16 rfl ?_
  refine g_get (v := .ref (ad 13)) (T := TX7) (N := 8) (ci := 6) C in_X7 1 rfl rfl 3 (by decide) wd219 (Or.inl rfl) rfl dX9_addGauge_19 rfl ?_
  refine g_iload_n C dX9_addGauge_22 rfl 1 rfl ?_
  refine g_iload_n C dX9_addGauge_23 rfl 2 rfl ?_
  refine g_callS1 (As := [.int (iI x), .int (iI y)]) (rv := some (.int (iI (10 * y + x)))) (kc' := 0) (ks' := 0) C (k_X9_placeOf l E x y) mX9_placeOf wd508 wd507 rfl rfl (Nat.le_of_ble_eq_true rfl) ⟨Nat.le_of_ble_eq_true rfl, Nat.le_of_ble_eq_true rfl⟩ ⟨Nat.le_of_ble_eq_true rfl, Nat.le_of_ble_eq_true rfl⟩ rfl rfl dX9_addGauge_24 rfl ?_
  refine g_perm (ws1 := wT E ad S ++ ([(o, .inr (8, [.ref (ad 0), .ref tr]))])) pm_10 ?_
  refine g_callUf (As := [.int (iI (10 * y + x))]) (rv := some (.int (iI (bI ((S.2 2) < 4 ∧ fstI (S.1 14) (10 * y + x) ((S.2 2)).toNat = -1))))) (w1 := wT E ad S) (kc' := 0) (ks' := 0) C "FloodWardens$Numbered" RX1 ([(o, .inr (8, [.ref (ad 0), .ref tr]))]) (k_X4_canComeTo_X1 l E ad S (10 * y + x) hS (by omega)) mX4_canComeTo ⟨wd556, wd602, wd601⟩ rfl (by decide +kernel) wd600 13 1 rfl rfl rfl rfl rfl (Nat.le_of_ble_eq_true rfl) ⟨Nat.le_of_ble_eq_true rfl, Nat.le_of_ble_eq_true rfl⟩ ⟨Nat.le_of_ble_eq_true rfl, Nat.le_of_ble_eq_true rfl⟩ rfl rfl rfl dX9_addGauge_27 rfl ?_
  refine g_perm (ws1 := [(o, .inr (8, [.ref (ad 0), .ref tr]))] ++ (wT E ad S)) pm_10 ?_
  have n27 := bI_w ((S.2 2) < 4 ∧ fstI (S.1 14) (10 * y + x) ((S.2 2)).toNat = -1)
  rw [show (bI ((S.2 2) < 4 ∧ fstI (S.1 14) (10 * y + x) ((S.2 2)).toNat = -1)) = 0 from by omega]
  exact g_callST (As := [.int (iI (0))]) ([(o, .inr (8, [.ref (ad 0), .ref tr]))] ++ (wT E ad S)) C hX9 (t_X9_checkState l E sa hfl) (fun _ => gPX_blind) mX9_checkState wd520 wd519 rfl rfl (Nat.le_of_ble_eq_true rfl) ⟨Nat.le_of_ble_eq_true rfl, Nat.le_of_ble_eq_true rfl⟩ ⟨Nat.le_of_ble_eq_true rfl, Nat.le_of_ble_eq_true rfl⟩ rfl dX9_addGauge_30 (g_tout C hx9 Z rfl ⟨Nat.le_of_ble_eq_true rfl, Nat.le_of_ble_eq_true rfl⟩)
set_option maxHeartbeats 4000000 in
set_option maxRecDepth 100000 in
theorem t_X9_addRefuge_a (l : Launch) (E : gE) (sa : gTx) (hfl : l.stackTraces = false) (o tr : Nat) (ad : Nat → Nat) (S : gS) (x y rm : Int) (hS : okT S) (hx : (-2147483648 ≤ x ∧ x ≤ 2147483647)) (hy : (-2147483648 ≤ y ∧ y ≤ 2147483647)) (hrm : (-2147483648 ≤ rm ∧ rm ≤ 2147483647)) (hc : tC x y) (h : ¬ (1 ≤ rm ∧ rm ≤ 20)) : gKT l E yX9_addRefuge cX9_addRefuge 4 (some .int) q_X9_addRefuge [.ref o, .int (iI x), .int (iI y), .int (iI rm)] ([(o, .inr (8, [.ref (ad 0), .ref tr]))] ++ (wT E ad S)) sa "java/lang/IllegalArgumentException" ([(o, .inr (8, [.ref (ad 0), .ref tr]))] ++ (wT E ad S)) := by
  refine gKT_by RX9 rfl (by decide) mX9_addRefuge [(0, .ref o), (1, .int (iI x)), (2, .int (iI y)), (3, .int (iI rm))] (Nat.le_of_ble_eq_true rfl) rfl ?_
  intro zp ze zs zm za zb zh zc zA zQ hx9 C hX9 Z
  have hd := hc
  unfold tC at hd
  refine g_iload_n C dX9_addRefuge_0 rfl 1 rfl ?_
  refine g_iload_n C dX9_addRefuge_1 rfl 2 rfl ?_
  refine g_callS1 (As := [.int (iI x), .int (iI y)]) (rv := none) (kc' := 0) (ks' := 0) C (k_X9_checkCell_1 l E x y hc) mX9_checkCell wd412 wd411 rfl rfl (Nat.le_of_ble_eq_true rfl) ⟨Nat.le_of_ble_eq_true rfl, Nat.le_of_ble_eq_true rfl⟩ ⟨Nat.le_of_ble_eq_true rfl, Nat.le_of_ble_eq_true rfl⟩ rfl rfl dX9_addRefuge_2 rfl ?_
  refine g_iload_n C dX9_addRefuge_5 rfl 3 rfl ?_
  refine g_iconst C dX9_addRefuge_6 rfl ?_
  refine g_bipush C dX9_addRefuge_7 rfl rfl ?_
  refine g_callS1 (As := [.int (iI rm), .int (iI (1)), .int (iI (20))]) (rv := some (.int (iI (bI ((1) ≤ rm ∧ rm ≤ (20)))))) (kc' := 0) (ks' := 0) C (k_X9_isWithin l E rm (1) (20) (by omega) (by omega) (by omega)) mX9_isWithin wd415 wd414 rfl rfl (Nat.le_of_ble_eq_true rfl) ⟨Nat.le_of_ble_eq_true rfl, Nat.le_of_ble_eq_true rfl⟩ ⟨Nat.le_of_ble_eq_true rfl, Nat.le_of_ble_eq_true rfl⟩ rfl rfl dX9_addRefuge_9 rfl ?_
  have n9 := bI_w ((1) ≤ rm ∧ rm ≤ (20))
  rw [show (bI ((1) ≤ rm ∧ rm ≤ (20))) = 0 from by omega]
  exact g_callST (As := [.int (iI (0))]) ([(o, .inr (8, [.ref (ad 0), .ref tr]))] ++ (wT E ad S)) C hX9 (t_X9_checkArgument l E sa hfl) (fun _ => gPX_blind) mX9_checkArgument wd489 wd488 rfl rfl (Nat.le_of_ble_eq_true rfl) ⟨Nat.le_of_ble_eq_true rfl, Nat.le_of_ble_eq_true rfl⟩ ⟨Nat.le_of_ble_eq_true rfl, Nat.le_of_ble_eq_true rfl⟩ rfl dX9_addRefuge_12 (g_tout C hx9 Z rfl ⟨Nat.le_of_ble_eq_true rfl, Nat.le_of_ble_eq_true rfl⟩)
set_option maxHeartbeats 4000000 in
set_option maxRecDepth 100000 in
theorem t_X9_addRefuge_s (l : Launch) (E : gE) (sa : gTx) (hfl : l.stackTraces = false) (o tr : Nat) (ad : Nat → Nat) (S : gS) (x y rm : Int) (hS : okT S) (hx : (-2147483648 ≤ x ∧ x ≤ 2147483647)) (hy : (-2147483648 ≤ y ∧ y ≤ 2147483647)) (hrm : (-2147483648 ≤ rm ∧ rm ≤ 2147483647)) (hc : tC x y) (h : 1 ≤ rm ∧ rm ≤ 20) (h2 : ¬ (S.2 3 < 4 ∧ fstI (S.1 17) (10 * y + x) (S.2 3).toNat = -1)) : gKT l E yX9_addRefuge cX9_addRefuge 4 (some .int) q_X9_addRefuge [.ref o, .int (iI x), .int (iI y), .int (iI rm)] ([(o, .inr (8, [.ref (ad 0), .ref tr]))] ++ (wT E ad S)) sa "java/lang/IllegalStateException" ([(o, .inr (8, [.ref (ad 0), .ref tr]))] ++ (wT E ad S)) := by
  refine gKT_by RX9 rfl (by decide) mX9_addRefuge [(0, .ref o), (1, .int (iI x)), (2, .int (iI y)), (3, .int (iI rm))] (Nat.le_of_ble_eq_true rfl) rfl ?_
  intro zp ze zs zm za zb zh zc zA zQ hx9 C hX9 Z
  have hd := hc
  unfold tC at hd
  refine g_iload_n C dX9_addRefuge_0 rfl 1 rfl ?_
  refine g_iload_n C dX9_addRefuge_1 rfl 2 rfl ?_
  refine g_callS1 (As := [.int (iI x), .int (iI y)]) (rv := none) (kc' := 0) (ks' := 0) C (k_X9_checkCell_1 l E x y hc) mX9_checkCell wd412 wd411 rfl rfl (Nat.le_of_ble_eq_true rfl) ⟨Nat.le_of_ble_eq_true rfl, Nat.le_of_ble_eq_true rfl⟩ ⟨Nat.le_of_ble_eq_true rfl, Nat.le_of_ble_eq_true rfl⟩ rfl rfl dX9_addRefuge_2 rfl ?_
  refine g_iload_n C dX9_addRefuge_5 rfl 3 rfl ?_
  refine g_iconst C dX9_addRefuge_6 rfl ?_
  refine g_bipush C dX9_addRefuge_7 rfl rfl ?_
  refine g_callS1 (As := [.int (iI rm), .int (iI (1)), .int (iI (20))]) (rv := some (.int (iI (bI ((1) ≤ rm ∧ rm ≤ (20)))))) (kc' := 0) (ks' := 0) C (k_X9_isWithin l E rm (1) (20) (by omega) (by omega) (by omega)) mX9_isWithin wd415 wd414 rfl rfl (Nat.le_of_ble_eq_true rfl) ⟨Nat.le_of_ble_eq_true rfl, Nat.le_of_ble_eq_true rfl⟩ ⟨Nat.le_of_ble_eq_true rfl, Nat.le_of_ble_eq_true rfl⟩ rfl rfl dX9_addRefuge_9 rfl ?_
  have n9 := bI_w ((1) ≤ rm ∧ rm ≤ (20))
  rw [show (bI ((1) ≤ rm ∧ rm ≤ (20))) = 1 from by omega]
  refine g_callS1 (As := [.int (iI (1))]) (rv := none) (kc' := 0) (ks' := 0) C (k_X9_checkArgument_1 l E) mX9_checkArgument wd489 wd488 rfl rfl (Nat.le_of_ble_eq_true rfl) ⟨Nat.le_of_ble_eq_true rfl, Nat.le_of_ble_eq_true rfl⟩ ⟨Nat.le_of_ble_eq_true rfl, Nat.le_of_ble_eq_true rfl⟩ rfl rfl dX9_addRefuge_12 rfl ?_
  refine g_aload_n C dX9_addRefuge_15 rfl 0 rfl ?_
  refine g_get (v := .ref (ad 0)) (T := TX9) (N := 2) (ci := 8) C in_X9 0 rfl rfl 0 (by decide) wd244 (Or.inl rfl) rfl dX9_addRefuge_16 rfl ?_
  refine g_get (v := .ref (ad 16)) (T := TX7) (N := 8) (ci := 6) C in_X7 1 rfl rfl 4 (by decide) wd221 (Or.inl rfl) rfl dX9_addRefuge_19 rfl ?_
  refine g_iload_n C dX9_addRefuge_22 rfl 1 rfl ?_
  refine g_iload_n C dX9_addRefuge_23 rfl 2 rfl ?_
  refine g_callS1 (As := [.int (iI x), .int (iI y)]) (rv := some (.int (iI (10 * y + x)))) (kc' := 0) (ks' := 0) C (k_X9_placeOf l E x y) mX9_placeOf wd508 wd507 rfl rfl (Nat.le_of_ble_eq_true rfl) ⟨Nat.le_of_ble_eq_true rfl, Nat.le_of_ble_eq_true rfl⟩ ⟨Nat.le_of_ble_eq_true rfl, Nat.le_of_ble_eq_true rfl⟩ rfl rfl dX9_addRefuge_24 rfl ?_
  refine g_perm (ws1 := wT E ad S ++ ([(o, .inr (8, [.ref (ad 0), .ref tr]))])) pm_10 ?_
  refine g_callUf (As := [.int (iI (10 * y + x))]) (rv := some (.int (iI (bI ((S.2 3) < 4 ∧ fstI (S.1 17) (10 * y + x) ((S.2 3)).toNat = -1))))) (w1 := wT E ad S) (kc' := 0) (ks' := 0) C "FloodWardens$Numbered" RX6 ([(o, .inr (8, [.ref (ad 0), .ref tr]))]) (k_X4_canComeTo_X6 l E ad S (10 * y + x) hS (by omega)) mX4_canComeTo ⟨wd556, wd616, wd615⟩ rfl (by decide +kernel) wd614 16 5 rfl rfl rfl rfl rfl (Nat.le_of_ble_eq_true rfl) ⟨Nat.le_of_ble_eq_true rfl, Nat.le_of_ble_eq_true rfl⟩ ⟨Nat.le_of_ble_eq_true rfl, Nat.le_of_ble_eq_true rfl⟩ rfl rfl rfl dX9_addRefuge_27 rfl ?_
  refine g_perm (ws1 := [(o, .inr (8, [.ref (ad 0), .ref tr]))] ++ (wT E ad S)) pm_10 ?_
  have n27 := bI_w ((S.2 3) < 4 ∧ fstI (S.1 17) (10 * y + x) ((S.2 3)).toNat = -1)
  rw [show (bI ((S.2 3) < 4 ∧ fstI (S.1 17) (10 * y + x) ((S.2 3)).toNat = -1)) = 0 from by omega]
  exact g_callST (As := [.int (iI (0))]) ([(o, .inr (8, [.ref (ad 0), .ref tr]))] ++ (wT E ad S)) C hX9 (t_X9_checkState l E sa hfl) (fun _ => gPX_blind) mX9_checkState wd520 wd519 rfl rfl (Nat.le_of_ble_eq_true rfl) ⟨Nat.le_of_ble_eq_true rfl, Nat.le_of_ble_eq_true rfl⟩ ⟨Nat.le_of_ble_eq_true rfl, Nat.le_of_ble_eq_true rfl⟩ rfl dX9_addRefuge_30 (g_tout C hx9 Z rfl ⟨Nat.le_of_ble_eq_true rfl, Nat.le_of_ble_eq_true rfl⟩)
set_option maxHeartbeats 4000000 in
set_option maxRecDepth 100000 in
theorem t_X9_settle_a (l : Launch) (E : gE) (sa : gTx) (hfl : l.stackTraces = false) (o tr : Nat) (ad : Nat → Nat) (S : gS) (x y n : Int) (hS : okT S) (hx : (-2147483648 ≤ x ∧ x ≤ 2147483647)) (hy : (-2147483648 ≤ y ∧ y ≤ 2147483647)) (hn : (-2147483648 ≤ n ∧ n ≤ 2147483647)) (hc : tC x y) (h : ¬ (1 ≤ n ∧ n ≤ 6)) : gKT l E yX9_settle cX9_settle 4 (some .int) q_X9_settle [.ref o, .int (iI x), .int (iI y), .int (iI n)] ([(o, .inr (8, [.ref (ad 0), .ref tr]))] ++ (wT E ad S)) sa "java/lang/IllegalArgumentException" ([(o, .inr (8, [.ref (ad 0), .ref tr]))] ++ (wT E ad S)) := by
  refine gKT_by RX9 rfl (by decide) mX9_settle [(0, .ref o), (1, .int (iI x)), (2, .int (iI y)), (3, .int (iI n))] (Nat.le_of_ble_eq_true rfl) rfl ?_
  intro zp ze zs zm za zb zh zc zA zQ hx9 C hX9 Z
  have hd := hc
  unfold tC at hd
  refine g_iload_n C dX9_settle_0 rfl 1 rfl ?_
  refine g_iload_n C dX9_settle_1 rfl 2 rfl ?_
  refine g_callS1 (As := [.int (iI x), .int (iI y)]) (rv := none) (kc' := 0) (ks' := 0) C (k_X9_checkCell_1 l E x y hc) mX9_checkCell wd412 wd411 rfl rfl (Nat.le_of_ble_eq_true rfl) ⟨Nat.le_of_ble_eq_true rfl, Nat.le_of_ble_eq_true rfl⟩ ⟨Nat.le_of_ble_eq_true rfl, Nat.le_of_ble_eq_true rfl⟩ rfl rfl dX9_settle_2 rfl ?_
  refine g_iload_n C dX9_settle_5 rfl 3 rfl ?_
  refine g_iconst C dX9_settle_6 rfl ?_
  refine g_bipush C dX9_settle_7 rfl rfl ?_
  refine g_callS1 (As := [.int (iI n), .int (iI (1)), .int (iI (6))]) (rv := some (.int (iI (bI ((1) ≤ n ∧ n ≤ (6)))))) (kc' := 0) (ks' := 0) C (k_X9_isWithin l E n (1) (6) (by omega) (by omega) (by omega)) mX9_isWithin wd415 wd414 rfl rfl (Nat.le_of_ble_eq_true rfl) ⟨Nat.le_of_ble_eq_true rfl, Nat.le_of_ble_eq_true rfl⟩ ⟨Nat.le_of_ble_eq_true rfl, Nat.le_of_ble_eq_true rfl⟩ rfl rfl dX9_settle_9 rfl ?_
  have n9 := bI_w ((1) ≤ n ∧ n ≤ (6))
  rw [show (bI ((1) ≤ n ∧ n ≤ (6))) = 0 from by omega]
  exact g_callST (As := [.int (iI (0))]) ([(o, .inr (8, [.ref (ad 0), .ref tr]))] ++ (wT E ad S)) C hX9 (t_X9_checkArgument l E sa hfl) (fun _ => gPX_blind) mX9_checkArgument wd489 wd488 rfl rfl (Nat.le_of_ble_eq_true rfl) ⟨Nat.le_of_ble_eq_true rfl, Nat.le_of_ble_eq_true rfl⟩ ⟨Nat.le_of_ble_eq_true rfl, Nat.le_of_ble_eq_true rfl⟩ rfl dX9_settle_12 (g_tout C hx9 Z rfl ⟨Nat.le_of_ble_eq_true rfl, Nat.le_of_ble_eq_true rfl⟩)
set_option maxHeartbeats 4000000 in
set_option maxRecDepth 100000 in
theorem t_X9_settle_s (l : Launch) (E : gE) (sa : gTx) (hfl : l.stackTraces = false) (o tr : Nat) (ad : Nat → Nat) (S : gS) (x y n : Int) (hS : okT S) (hx : (-2147483648 ≤ x ∧ x ≤ 2147483647)) (hy : (-2147483648 ≤ y ∧ y ≤ 2147483647)) (hn : (-2147483648 ≤ n ∧ n ≤ 2147483647)) (hc : tC x y) (h : 1 ≤ n ∧ n ≤ 6) (h2 : ¬ S.2 4 < 10) : gKT l E yX9_settle cX9_settle 4 (some .int) q_X9_settle [.ref o, .int (iI x), .int (iI y), .int (iI n)] ([(o, .inr (8, [.ref (ad 0), .ref tr]))] ++ (wT E ad S)) sa "java/lang/IllegalStateException" ([(o, .inr (8, [.ref (ad 0), .ref tr]))] ++ (wT E ad S)) := by
  refine gKT_by RX9 rfl (by decide) mX9_settle [(0, .ref o), (1, .int (iI x)), (2, .int (iI y)), (3, .int (iI n))] (Nat.le_of_ble_eq_true rfl) rfl ?_
  intro zp ze zs zm za zb zh zc zA zQ hx9 C hX9 Z
  have hd := hc
  unfold tC at hd
  refine g_iload_n C dX9_settle_0 rfl 1 rfl ?_
  refine g_iload_n C dX9_settle_1 rfl 2 rfl ?_
  refine g_callS1 (As := [.int (iI x), .int (iI y)]) (rv := none) (kc' := 0) (ks' := 0) C (k_X9_checkCell_1 l E x y hc) mX9_checkCell wd412 wd411 rfl rfl (Nat.le_of_ble_eq_true rfl) ⟨Nat.le_of_ble_eq_true rfl, Nat.le_of_ble_eq_true rfl⟩ ⟨Nat.le_of_ble_eq_true rfl, Nat.le_of_ble_eq_true rfl⟩ rfl rfl dX9_settle_2 rfl ?_
  refine g_iload_n C dX9_settle_5 rfl 3 rfl ?_
  refine g_iconst C dX9_settle_6 rfl ?_
  refine g_bipush C dX9_settle_7 rfl rfl ?_
  refine g_callS1 (As := [.int (iI n), .int (iI (1)), .int (iI (6))]) (rv := some (.int (iI (bI ((1) ≤ n ∧ n ≤ (6)))))) (kc' := 0) (ks' := 0) C (k_X9_isWithin l E n (1) (6) (by omega) (by omega) (by omega)) mX9_isWithin wd415 wd414 rfl rfl (Nat.le_of_ble_eq_true rfl) ⟨Nat.le_of_ble_eq_true rfl, Nat.le_of_ble_eq_true rfl⟩ ⟨Nat.le_of_ble_eq_true rfl, Nat.le_of_ble_eq_true rfl⟩ rfl rfl dX9_settle_9 rfl ?_
  have n9 := bI_w ((1) ≤ n ∧ n ≤ (6))
  rw [show (bI ((1) ≤ n ∧ n ≤ (6))) = 1 from by omega]
  refine g_callS1 (As := [.int (iI (1))]) (rv := none) (kc' := 0) (ks' := 0) C (k_X9_checkArgument_1 l E) mX9_checkArgument wd489 wd488 rfl rfl (Nat.le_of_ble_eq_true rfl) ⟨Nat.le_of_ble_eq_true rfl, Nat.le_of_ble_eq_true rfl⟩ ⟨Nat.le_of_ble_eq_true rfl, Nat.le_of_ble_eq_true rfl⟩ rfl rfl dX9_settle_12 rfl ?_
  refine g_aload_n C dX9_settle_15 rfl 0 rfl ?_
  refine g_get (v := .ref (ad 0)) (T := TX9) (N := 2) (ci := 8) C in_X9 0 rfl rfl 0 (by decide) wd244 (Or.inl rfl) rfl dX9_settle_16 rfl ?_
  refine g_get (v := .ref (ad 21)) (T := TX7) (N := 8) (ci := 6) C in_X7 1 rfl rfl 5 (by decide) wd223 (Or.inl rfl) rfl dX9_settle_19 rfl ?_
  refine g_perm (ws1 := wT E ad S ++ ([(o, .inr (8, [.ref (ad 0), .ref tr]))])) pm_10 ?_
  refine g_callUf (As := []) (rv := some (.int (iI (bI (10 ≤ (S.2 4)))))) (w1 := wT E ad S) (kc' := 0) (ks' := 0) C "FloodWardens$Numbered" RX2 ([(o, .inr (8, [.ref (ad 0), .ref tr]))]) (k_X4_isFull_X2 l E ad S hS) mX4_isFull ⟨wd559, wd631, wd629⟩ rfl (by decide +kernel) wd628 21 2 rfl rfl rfl rfl rfl (Nat.le_of_ble_eq_true rfl) ⟨Nat.le_of_ble_eq_true rfl, Nat.le_of_ble_eq_true rfl⟩ ⟨Nat.le_of_ble_eq_true rfl, Nat.le_of_ble_eq_true rfl⟩ rfl rfl rfl dX9_settle_22 rfl ?_
  refine g_perm (ws1 := [(o, .inr (8, [.ref (ad 0), .ref tr]))] ++ (wT E ad S)) pm_10 ?_
  have n22 := bI_w (10 ≤ (S.2 4))
  refine g_if_ne C dX9_settle_25 32 (by decide) rfl (by omega) (fun c25 => ?_) (fun c25 => ?_)
  · skip
    refine g_iconst C dX9_settle_32 rfl ?_
    exact g_callST (As := [.int (iI (0))]) ([(o, .inr (8, [.ref (ad 0), .ref tr]))] ++ (wT E ad S)) C hX9 (t_X9_checkState l E sa hfl) (fun _ => gPX_blind) mX9_checkState wd520 wd519 rfl rfl (Nat.le_of_ble_eq_true rfl) ⟨Nat.le_of_ble_eq_true rfl, Nat.le_of_ble_eq_true rfl⟩ ⟨Nat.le_of_ble_eq_true rfl, Nat.le_of_ble_eq_true rfl⟩ rfl dX9_settle_33 (g_tout C hx9 Z rfl ⟨Nat.le_of_ble_eq_true rfl, Nat.le_of_ble_eq_true rfl⟩)
  · skip
    refine g_iconst C dX9_settle_28 rfl ?_
    refine g_goto C dX9_settle_29 33 (by decide) ?_
    exfalso; omega
set_option maxHeartbeats 4000000 in
set_option maxRecDepth 100000 in
theorem t_X9_addCaller_s (l : Launch) (E : gE) (sa : gTx) (hfl : l.stackTraces = false) (o tr : Nat) (ad : Nat → Nat) (S : gS) (x y : Int) (hS : okT S) (hx : (-2147483648 ≤ x ∧ x ≤ 2147483647)) (hy : (-2147483648 ≤ y ∧ y ≤ 2147483647)) (hc : tC x y) (h2 : ¬ S.2 6 < 3) : gKT l E yX9_addCaller cX9_addCaller 3 (some .int) q_X9_addCaller [.ref o, .int (iI x), .int (iI y)] ([(o, .inr (8, [.ref (ad 0), .ref tr]))] ++ (wT E ad S)) sa "java/lang/IllegalStateException" ([(o, .inr (8, [.ref (ad 0), .ref tr]))] ++ (wT E ad S)) := by
  refine gKT_by RX9 rfl (by decide) mX9_addCaller [(0, .ref o), (1, .int (iI x)), (2, .int (iI y))] (Nat.le_of_ble_eq_true rfl) rfl ?_
  intro zp ze zs zm za zb zh zc zA zQ hx9 C hX9 Z
  have hd := hc
  unfold tC at hd
  refine g_iload_n C dX9_addCaller_0 rfl 1 rfl ?_
  refine g_iload_n C dX9_addCaller_1 rfl 2 rfl ?_
  refine g_callS1 (As := [.int (iI x), .int (iI y)]) (rv := none) (kc' := 0) (ks' := 0) C (k_X9_checkCell_1 l E x y hc) mX9_checkCell wd412 wd411 rfl rfl (Nat.le_of_ble_eq_true rfl) ⟨Nat.le_of_ble_eq_true rfl, Nat.le_of_ble_eq_true rfl⟩ ⟨Nat.le_of_ble_eq_true rfl, Nat.le_of_ble_eq_true rfl⟩ rfl rfl dX9_addCaller_2 rfl ?_
  refine g_aload_n C dX9_addCaller_5 rfl 0 rfl ?_
  refine g_get (v := .ref (ad 0)) (T := TX9) (N := 2) (ci := 8) C in_X9 0 rfl rfl 0 (by decide) wd244 (Or.inl rfl) rfl dX9_addCaller_6 rfl ?_
  refine g_get (v := .ref (ad 25)) (T := TX7) (N := 8) (ci := 6) C in_X7 1 rfl rfl 6 (by decide) wd225 (Or.inl rfl) rfl dX9_addCaller_9 rfl ?_
  refine g_perm (ws1 := wT E ad S ++ ([(o, .inr (8, [.ref (ad 0), .ref tr]))])) pm_10 ?_
  refine g_callUf (As := []) (rv := some (.int (iI (bI (3 ≤ (S.2 6)))))) (w1 := wT E ad S) (kc' := 0) (ks' := 0) C "FloodWardens$Numbered" RX0 ([(o, .inr (8, [.ref (ad 0), .ref tr]))]) (k_X4_isFull_X0 l E ad S hS) mX4_isFull ⟨wd559, wd645, wd644⟩ rfl (by decide +kernel) wd643 25 0 rfl rfl rfl rfl rfl (Nat.le_of_ble_eq_true rfl) ⟨Nat.le_of_ble_eq_true rfl, Nat.le_of_ble_eq_true rfl⟩ ⟨Nat.le_of_ble_eq_true rfl, Nat.le_of_ble_eq_true rfl⟩ rfl rfl rfl dX9_addCaller_12 rfl ?_
  refine g_perm (ws1 := [(o, .inr (8, [.ref (ad 0), .ref tr]))] ++ (wT E ad S)) pm_10 ?_
  have n12 := bI_w (3 ≤ (S.2 6))
  refine g_if_ne C dX9_addCaller_15 22 (by decide) rfl (by omega) (fun c15 => ?_) (fun c15 => ?_)
  · skip
    refine g_iconst C dX9_addCaller_22 rfl ?_
    exact g_callST (As := [.int (iI (0))]) ([(o, .inr (8, [.ref (ad 0), .ref tr]))] ++ (wT E ad S)) C hX9 (t_X9_checkState l E sa hfl) (fun _ => gPX_blind) mX9_checkState wd520 wd519 rfl rfl (Nat.le_of_ble_eq_true rfl) ⟨Nat.le_of_ble_eq_true rfl, Nat.le_of_ble_eq_true rfl⟩ ⟨Nat.le_of_ble_eq_true rfl, Nat.le_of_ble_eq_true rfl⟩ rfl dX9_addCaller_23 (g_tout C hx9 Z rfl ⟨Nat.le_of_ble_eq_true rfl, Nat.le_of_ble_eq_true rfl⟩)
  · skip
    refine g_iconst C dX9_addCaller_18 rfl ?_
    refine g_goto C dX9_addCaller_19 23 (by decide) ?_
    exfalso; omega
