set_option maxHeartbeats 4000000 in
set_option maxRecDepth 100000 in
theorem w_cell_0 (l : Launch) (E : gE) (sa : gTx) (hfl : l.stackTraces = false) (o oc : Nat) (ad bd : Nat → Nat) (T H : gS) (f : Nat → Int64) (x : Int) (y : Int) (what : Int) (hT : okT T) (h_x : (-2147483648 ≤ x ∧ x ≤ 2147483647)) (h_y : (-2147483648 ≤ y ∧ y ≤ 2147483647)) (h_what : (-2147483648 ≤ what ∧ what ≤ 2147483647)) (hc : tC x y) (h : 0 ≤ what ∧ what ≤ 5) : gKW l E yL_cell cL_cell 6 (some .int) [(0, 12, 15, 13)] rW [.ref o, .int (iI x), .int (iI y), .int (iI what), .ref oc] (wC E o ad bd oc T H f) sa (some (.int (iI 0))) (wC E o ad bd oc T H (vp_updL f 0 (lI (cellTell T (10 * y + x) what)))) := by
  refine gKW_by RL rfl (by decide) [(0, .ref o), (1, .int (iI x)), (2, .int (iI y)), (3, .int (iI what)), (4, .ref oc)] (Nat.le_of_ble_eq_true rfl) rfl ?_
  intro zp ze zs zm za zb zh zc zA zQ ht C hX hNc Z
  refine g_aload C dL_cell_0 rfl 4 rfl ?_
  refine g_iconst C dL_cell_2 rfl ?_
  refine g_aload_n C dL_cell_3 rfl 0 rfl ?_
  refine g_iload_n C dL_cell_4 rfl 1 rfl ?_
  refine g_iload_n C dL_cell_5 rfl 2 rfl ?_
  refine g_iload_n C dL_cell_6 rfl 3 rfl ?_
  refine g_callV (As := [.int (iI x), .int (iI y), .int (iI what)]) (rv := some (.int (iI (cellTell T (10 * y + x) what)))) C (wT E bd H ++ [(oc, cj E 1 f)]) (k_X9_cell l E o (bd 0) ad T x y what hT (by omega) (by omega) (by omega) hc h) mX9_cell iX9_cell wd653 0 8 rfl rfl rfl rfl rfl (Nat.le_of_ble_eq_true rfl) ⟨Nat.le_of_ble_eq_true rfl, Nat.le_of_ble_eq_true rfl⟩ ⟨Nat.le_of_ble_eq_true rfl, Nat.le_of_ble_eq_true rfl⟩ rfl dL_cell_7 rfl ?_
  exact g_wfair 7 C Z ⟨Nat.le_of_ble_eq_true rfl, Nat.le_of_ble_eq_true rfl⟩ 65 rfl rfl dL_cell_10 dL_cell_11 dL_cell_12 (by decide) dL_cell_19 dL_cell_20
set_option maxHeartbeats 4000000 in
set_option maxRecDepth 100000 in
theorem w_cell_i (l : Launch) (E : gE) (sa : gTx) (hfl : l.stackTraces = false) (o oc : Nat) (ad bd : Nat → Nat) (T H : gS) (f : Nat → Int64) (x : Int) (y : Int) (what : Int) (hT : okT T) (h_x : (-2147483648 ≤ x ∧ x ≤ 2147483647)) (h_y : (-2147483648 ≤ y ∧ y ≤ 2147483647)) (h_what : (-2147483648 ≤ what ∧ what ≤ 2147483647)) (hc : ¬ tC x y) : gKW l E yL_cell cL_cell 6 (some .int) [(0, 12, 15, 13)] rW [.ref o, .int (iI x), .int (iI y), .int (iI what), .ref oc] (wC E o ad bd oc T H f) sa (some (.int (iI 1))) (wC E o ad bd oc T H f) := by
  refine gKW_by RL rfl (by decide) [(0, .ref o), (1, .int (iI x)), (2, .int (iI y)), (3, .int (iI what)), (4, .ref oc)] (Nat.le_of_ble_eq_true rfl) rfl ?_
  intro zp ze zs zm za zb zh zc zA zQ ht C hX hNc Z
  refine g_aload C dL_cell_0 rfl 4 rfl ?_
  refine g_iconst C dL_cell_2 rfl ?_
  refine g_aload_n C dL_cell_3 rfl 0 rfl ?_
  refine g_iload_n C dL_cell_4 rfl 1 rfl ?_
  refine g_iload_n C dL_cell_5 rfl 2 rfl ?_
  refine g_iload_n C dL_cell_6 rfl 3 rfl ?_
  refine g_callVT (As := [.int (iI x), .int (iI y), .int (iI what)]) (wT E bd H ++ [(oc, cj E 1 f)]) C hX (t_X9_cell_i l E sa hfl o (bd 0) ad T x y what hT (by omega) (by omega) (by omega) hc) mX9_cell iX9_cell wd653 0 8 rfl rfl rfl rfl rfl (Nat.le_of_ble_eq_true rfl) ⟨Nat.le_of_ble_eq_true rfl, Nat.le_of_ble_eq_true rfl⟩ ⟨Nat.le_of_ble_eq_true rfl, Nat.le_of_ble_eq_true rfl⟩ rfl dL_cell_7 ?_
  refine g_tcatch C [(0, 12, 15, 13)] ht [] ⟨0, 12, 15, 13⟩ [] rfl (fun z hz => absurd hz List.not_mem_nil) rfl (by decide) wd405 hNc.2.1 15 rfl (fun zq => ?_)
  refine g_astore C dL_cell_15 rfl (by decide) rfl ?_
  exact g_wcat C Z rfl ⟨Nat.le_of_ble_eq_true rfl, Nat.le_of_ble_eq_true rfl⟩ rfl dL_cell_17 dL_cell_18
set_option maxHeartbeats 4000000 in
set_option maxRecDepth 100000 in
theorem w_cell_w (l : Launch) (E : gE) (sa : gTx) (hfl : l.stackTraces = false) (o oc : Nat) (ad bd : Nat → Nat) (T H : gS) (f : Nat → Int64) (x : Int) (y : Int) (what : Int) (hT : okT T) (h_x : (-2147483648 ≤ x ∧ x ≤ 2147483647)) (h_y : (-2147483648 ≤ y ∧ y ≤ 2147483647)) (h_what : (-2147483648 ≤ what ∧ what ≤ 2147483647)) (hc : tC x y) (h : ¬ (0 ≤ what ∧ what ≤ 5)) : gKW l E yL_cell cL_cell 6 (some .int) [(0, 12, 15, 13)] rW [.ref o, .int (iI x), .int (iI y), .int (iI what), .ref oc] (wC E o ad bd oc T H f) sa (some (.int (iI 1))) (wC E o ad bd oc T H f) := by
  refine gKW_by RL rfl (by decide) [(0, .ref o), (1, .int (iI x)), (2, .int (iI y)), (3, .int (iI what)), (4, .ref oc)] (Nat.le_of_ble_eq_true rfl) rfl ?_
  intro zp ze zs zm za zb zh zc zA zQ ht C hX hNc Z
  refine g_aload C dL_cell_0 rfl 4 rfl ?_
  refine g_iconst C dL_cell_2 rfl ?_
  refine g_aload_n C dL_cell_3 rfl 0 rfl ?_
  refine g_iload_n C dL_cell_4 rfl 1 rfl ?_
  refine g_iload_n C dL_cell_5 rfl 2 rfl ?_
  refine g_iload_n C dL_cell_6 rfl 3 rfl ?_
  refine g_callVT (As := [.int (iI x), .int (iI y), .int (iI what)]) (wT E bd H ++ [(oc, cj E 1 f)]) C hX (t_X9_cell_w l E sa hfl o (bd 0) ad T x y what hT (by omega) (by omega) (by omega) hc h) mX9_cell iX9_cell wd653 0 8 rfl rfl rfl rfl rfl (Nat.le_of_ble_eq_true rfl) ⟨Nat.le_of_ble_eq_true rfl, Nat.le_of_ble_eq_true rfl⟩ ⟨Nat.le_of_ble_eq_true rfl, Nat.le_of_ble_eq_true rfl⟩ rfl dL_cell_7 ?_
  refine g_tcatch C [(0, 12, 15, 13)] ht [] ⟨0, 12, 15, 13⟩ [] rfl (fun z hz => absurd hz List.not_mem_nil) rfl (by decide) wd405 hNc.2.1 15 rfl (fun zq => ?_)
  refine g_astore C dL_cell_15 rfl (by decide) rfl ?_
  exact g_wcat C Z rfl ⟨Nat.le_of_ble_eq_true rfl, Nat.le_of_ble_eq_true rfl⟩ rfl dL_cell_17 dL_cell_18
set_option maxHeartbeats 4000000 in
set_option maxRecDepth 100000 in
theorem w_pump_0 (l : Launch) (E : gE) (sa : gTx) (hfl : l.stackTraces = false) (o oc : Nat) (ad bd : Nat → Nat) (T H : gS) (f : Nat → Int64) (a : Int) (what : Int) (hT : okT T) (h_a : (-2147483648 ≤ a ∧ a ≤ 2147483647)) (h_what : (-2147483648 ≤ what ∧ what ≤ 2147483647)) (h : 0 ≤ a ∧ a < T.2 1) (hw : 0 ≤ what ∧ what ≤ 5) : gKW l E yL_pump cL_pump 5 (some .int) [(0, 10, 13, 13)] rW [.ref o, .int (iI a), .int (iI what), .ref oc] (wC E o ad bd oc T H f) sa (some (.int (iI 0))) (wC E o ad bd oc T H (vp_updL f 0 (lI (pTell T a what)))) := by
  refine gKW_by RL rfl (by decide) [(0, .ref o), (1, .int (iI a)), (2, .int (iI what)), (3, .ref oc)] (Nat.le_of_ble_eq_true rfl) rfl ?_
  intro zp ze zs zm za zb zh zc zA zQ ht C hX hNc Z
  refine g_aload_n C dL_pump_0 rfl 3 rfl ?_
  refine g_iconst C dL_pump_1 rfl ?_
  refine g_aload_n C dL_pump_2 rfl 0 rfl ?_
  refine g_iload_n C dL_pump_3 rfl 1 rfl ?_
  refine g_iload_n C dL_pump_4 rfl 2 rfl ?_
  refine g_callV (As := [.int (iI a), .int (iI what)]) (rv := some (.int (iI (pTell T a what)))) C (wT E bd H ++ [(oc, cj E 1 f)]) (k_X9_pump l E o (bd 0) ad T a what hT (by omega) (by omega) h hw) mX9_pump iX9_pump wd660 0 8 rfl rfl rfl rfl rfl (Nat.le_of_ble_eq_true rfl) ⟨Nat.le_of_ble_eq_true rfl, Nat.le_of_ble_eq_true rfl⟩ ⟨Nat.le_of_ble_eq_true rfl, Nat.le_of_ble_eq_true rfl⟩ rfl dL_pump_5 rfl ?_
  exact g_wfair 7 C Z ⟨Nat.le_of_ble_eq_true rfl, Nat.le_of_ble_eq_true rfl⟩ 65 rfl rfl dL_pump_8 dL_pump_9 dL_pump_10 (by decide) dL_pump_17 dL_pump_18
set_option maxHeartbeats 4000000 in
set_option maxRecDepth 100000 in
theorem w_pump_i (l : Launch) (E : gE) (sa : gTx) (hfl : l.stackTraces = false) (o oc : Nat) (ad bd : Nat → Nat) (T H : gS) (f : Nat → Int64) (a : Int) (what : Int) (hT : okT T) (h_a : (-2147483648 ≤ a ∧ a ≤ 2147483647)) (h_what : (-2147483648 ≤ what ∧ what ≤ 2147483647)) (h : ¬ ((0 ≤ a ∧ a < T.2 1) ∧ 0 ≤ what ∧ what ≤ 5)) : gKW l E yL_pump cL_pump 5 (some .int) [(0, 10, 13, 13)] rW [.ref o, .int (iI a), .int (iI what), .ref oc] (wC E o ad bd oc T H f) sa (some (.int (iI 1))) (wC E o ad bd oc T H f) := by
  refine gKW_by RL rfl (by decide) [(0, .ref o), (1, .int (iI a)), (2, .int (iI what)), (3, .ref oc)] (Nat.le_of_ble_eq_true rfl) rfl ?_
  intro zp ze zs zm za zb zh zc zA zQ ht C hX hNc Z
  refine g_aload_n C dL_pump_0 rfl 3 rfl ?_
  refine g_iconst C dL_pump_1 rfl ?_
  refine g_aload_n C dL_pump_2 rfl 0 rfl ?_
  refine g_iload_n C dL_pump_3 rfl 1 rfl ?_
  refine g_iload_n C dL_pump_4 rfl 2 rfl ?_
  refine g_callVT (As := [.int (iI a), .int (iI what)]) (wT E bd H ++ [(oc, cj E 1 f)]) C hX (t_X9_pump_i l E sa hfl o (bd 0) ad T a what hT (by omega) (by omega) h) mX9_pump iX9_pump wd660 0 8 rfl rfl rfl rfl rfl (Nat.le_of_ble_eq_true rfl) ⟨Nat.le_of_ble_eq_true rfl, Nat.le_of_ble_eq_true rfl⟩ ⟨Nat.le_of_ble_eq_true rfl, Nat.le_of_ble_eq_true rfl⟩ rfl dL_pump_5 ?_
  refine g_tcatch C [(0, 10, 13, 13)] ht [] ⟨0, 10, 13, 13⟩ [] rfl (fun z hz => absurd hz List.not_mem_nil) rfl (by decide) wd405 hNc.2.1 13 rfl (fun zq => ?_)
  refine g_astore C dL_pump_13 rfl (by decide) rfl ?_
  exact g_wcat C Z rfl ⟨Nat.le_of_ble_eq_true rfl, Nat.le_of_ble_eq_true rfl⟩ rfl dL_pump_15 dL_pump_16
set_option maxHeartbeats 4000000 in
set_option maxRecDepth 100000 in
theorem w_gauge_0 (l : Launch) (E : gE) (sa : gTx) (hfl : l.stackTraces = false) (o oc : Nat) (ad bd : Nat → Nat) (T H : gS) (f : Nat → Int64) (a : Int) (what : Int) (hT : okT T) (h_a : (-2147483648 ≤ a ∧ a ≤ 2147483647)) (h_what : (-2147483648 ≤ what ∧ what ≤ 2147483647)) (h : 0 ≤ a ∧ a < T.2 2) (hw : 0 ≤ what ∧ what ≤ 4) : gKW l E yL_gauge cL_gauge 5 (some .int) [(0, 10, 13, 13)] rW [.ref o, .int (iI a), .int (iI what), .ref oc] (wC E o ad bd oc T H f) sa (some (.int (iI 0))) (wC E o ad bd oc T H (vp_updL f 0 (lI (gTell T a what)))) := by
  refine gKW_by RL rfl (by decide) [(0, .ref o), (1, .int (iI a)), (2, .int (iI what)), (3, .ref oc)] (Nat.le_of_ble_eq_true rfl) rfl ?_
  intro zp ze zs zm za zb zh zc zA zQ ht C hX hNc Z
  refine g_aload_n C dL_gauge_0 rfl 3 rfl ?_
  refine g_iconst C dL_gauge_1 rfl ?_
  refine g_aload_n C dL_gauge_2 rfl 0 rfl ?_
  refine g_iload_n C dL_gauge_3 rfl 1 rfl ?_
  refine g_iload_n C dL_gauge_4 rfl 2 rfl ?_
  refine g_callV (As := [.int (iI a), .int (iI what)]) (rv := some (.int (iI (gTell T a what)))) C (wT E bd H ++ [(oc, cj E 1 f)]) (k_X9_gauge l E o (bd 0) ad T a what hT (by omega) (by omega) h hw) mX9_gauge iX9_gauge wd667 0 8 rfl rfl rfl rfl rfl (Nat.le_of_ble_eq_true rfl) ⟨Nat.le_of_ble_eq_true rfl, Nat.le_of_ble_eq_true rfl⟩ ⟨Nat.le_of_ble_eq_true rfl, Nat.le_of_ble_eq_true rfl⟩ rfl dL_gauge_5 rfl ?_
  exact g_wfair 7 C Z ⟨Nat.le_of_ble_eq_true rfl, Nat.le_of_ble_eq_true rfl⟩ 65 rfl rfl dL_gauge_8 dL_gauge_9 dL_gauge_10 (by decide) dL_gauge_17 dL_gauge_18
set_option maxHeartbeats 4000000 in
set_option maxRecDepth 100000 in
theorem w_gauge_i (l : Launch) (E : gE) (sa : gTx) (hfl : l.stackTraces = false) (o oc : Nat) (ad bd : Nat → Nat) (T H : gS) (f : Nat → Int64) (a : Int) (what : Int) (hT : okT T) (h_a : (-2147483648 ≤ a ∧ a ≤ 2147483647)) (h_what : (-2147483648 ≤ what ∧ what ≤ 2147483647)) (h : ¬ ((0 ≤ a ∧ a < T.2 2) ∧ 0 ≤ what ∧ what ≤ 4)) : gKW l E yL_gauge cL_gauge 5 (some .int) [(0, 10, 13, 13)] rW [.ref o, .int (iI a), .int (iI what), .ref oc] (wC E o ad bd oc T H f) sa (some (.int (iI 1))) (wC E o ad bd oc T H f) := by
  refine gKW_by RL rfl (by decide) [(0, .ref o), (1, .int (iI a)), (2, .int (iI what)), (3, .ref oc)] (Nat.le_of_ble_eq_true rfl) rfl ?_
  intro zp ze zs zm za zb zh zc zA zQ ht C hX hNc Z
  refine g_aload_n C dL_gauge_0 rfl 3 rfl ?_
  refine g_iconst C dL_gauge_1 rfl ?_
  refine g_aload_n C dL_gauge_2 rfl 0 rfl ?_
  refine g_iload_n C dL_gauge_3 rfl 1 rfl ?_
  refine g_iload_n C dL_gauge_4 rfl 2 rfl ?_
  refine g_callVT (As := [.int (iI a), .int (iI what)]) (wT E bd H ++ [(oc, cj E 1 f)]) C hX (t_X9_gauge_i l E sa hfl o (bd 0) ad T a what hT (by omega) (by omega) h) mX9_gauge iX9_gauge wd667 0 8 rfl rfl rfl rfl rfl (Nat.le_of_ble_eq_true rfl) ⟨Nat.le_of_ble_eq_true rfl, Nat.le_of_ble_eq_true rfl⟩ ⟨Nat.le_of_ble_eq_true rfl, Nat.le_of_ble_eq_true rfl⟩ rfl dL_gauge_5 ?_
  refine g_tcatch C [(0, 10, 13, 13)] ht [] ⟨0, 10, 13, 13⟩ [] rfl (fun z hz => absurd hz List.not_mem_nil) rfl (by decide) wd405 hNc.2.1 13 rfl (fun zq => ?_)
  refine g_astore C dL_gauge_13 rfl (by decide) rfl ?_
  exact g_wcat C Z rfl ⟨Nat.le_of_ble_eq_true rfl, Nat.le_of_ble_eq_true rfl⟩ rfl dL_gauge_15 dL_gauge_16
set_option maxHeartbeats 4000000 in
set_option maxRecDepth 100000 in
theorem w_refuge_0 (l : Launch) (E : gE) (sa : gTx) (hfl : l.stackTraces = false) (o oc : Nat) (ad bd : Nat → Nat) (T H : gS) (f : Nat → Int64) (a : Int) (what : Int) (hT : okT T) (h_a : (-2147483648 ≤ a ∧ a ≤ 2147483647)) (h_what : (-2147483648 ≤ what ∧ what ≤ 2147483647)) (h : 0 ≤ a ∧ a < T.2 3) (hw : 0 ≤ what ∧ what ≤ 4) : gKW l E yL_refuge cL_refuge 5 (some .int) [(0, 10, 13, 13)] rW [.ref o, .int (iI a), .int (iI what), .ref oc] (wC E o ad bd oc T H f) sa (some (.int (iI 0))) (wC E o ad bd oc T H (vp_updL f 0 (lI (rTell T a what)))) := by
  refine gKW_by RL rfl (by decide) [(0, .ref o), (1, .int (iI a)), (2, .int (iI what)), (3, .ref oc)] (Nat.le_of_ble_eq_true rfl) rfl ?_
  intro zp ze zs zm za zb zh zc zA zQ ht C hX hNc Z
  refine g_aload_n C dL_refuge_0 rfl 3 rfl ?_
  refine g_iconst C dL_refuge_1 rfl ?_
  refine g_aload_n C dL_refuge_2 rfl 0 rfl ?_
  refine g_iload_n C dL_refuge_3 rfl 1 rfl ?_
  refine g_iload_n C dL_refuge_4 rfl 2 rfl ?_
  refine g_callV (As := [.int (iI a), .int (iI what)]) (rv := some (.int (iI (rTell T a what)))) C (wT E bd H ++ [(oc, cj E 1 f)]) (k_X9_refuge l E o (bd 0) ad T a what hT (by omega) (by omega) h hw) mX9_refuge iX9_refuge wd677 0 8 rfl rfl rfl rfl rfl (Nat.le_of_ble_eq_true rfl) ⟨Nat.le_of_ble_eq_true rfl, Nat.le_of_ble_eq_true rfl⟩ ⟨Nat.le_of_ble_eq_true rfl, Nat.le_of_ble_eq_true rfl⟩ rfl dL_refuge_5 rfl ?_
  exact g_wfair 7 C Z ⟨Nat.le_of_ble_eq_true rfl, Nat.le_of_ble_eq_true rfl⟩ 65 rfl rfl dL_refuge_8 dL_refuge_9 dL_refuge_10 (by decide) dL_refuge_17 dL_refuge_18
set_option maxHeartbeats 4000000 in
set_option maxRecDepth 100000 in
theorem w_refuge_i (l : Launch) (E : gE) (sa : gTx) (hfl : l.stackTraces = false) (o oc : Nat) (ad bd : Nat → Nat) (T H : gS) (f : Nat → Int64) (a : Int) (what : Int) (hT : okT T) (h_a : (-2147483648 ≤ a ∧ a ≤ 2147483647)) (h_what : (-2147483648 ≤ what ∧ what ≤ 2147483647)) (h : ¬ ((0 ≤ a ∧ a < T.2 3) ∧ 0 ≤ what ∧ what ≤ 4)) : gKW l E yL_refuge cL_refuge 5 (some .int) [(0, 10, 13, 13)] rW [.ref o, .int (iI a), .int (iI what), .ref oc] (wC E o ad bd oc T H f) sa (some (.int (iI 1))) (wC E o ad bd oc T H f) := by
  refine gKW_by RL rfl (by decide) [(0, .ref o), (1, .int (iI a)), (2, .int (iI what)), (3, .ref oc)] (Nat.le_of_ble_eq_true rfl) rfl ?_
  intro zp ze zs zm za zb zh zc zA zQ ht C hX hNc Z
  refine g_aload_n C dL_refuge_0 rfl 3 rfl ?_
  refine g_iconst C dL_refuge_1 rfl ?_
  refine g_aload_n C dL_refuge_2 rfl 0 rfl ?_
  refine g_iload_n C dL_refuge_3 rfl 1 rfl ?_
  refine g_iload_n C dL_refuge_4 rfl 2 rfl ?_
  refine g_callVT (As := [.int (iI a), .int (iI what)]) (wT E bd H ++ [(oc, cj E 1 f)]) C hX (t_X9_refuge_i l E sa hfl o (bd 0) ad T a what hT (by omega) (by omega) h) mX9_refuge iX9_refuge wd677 0 8 rfl rfl rfl rfl rfl (Nat.le_of_ble_eq_true rfl) ⟨Nat.le_of_ble_eq_true rfl, Nat.le_of_ble_eq_true rfl⟩ ⟨Nat.le_of_ble_eq_true rfl, Nat.le_of_ble_eq_true rfl⟩ rfl dL_refuge_5 ?_
  refine g_tcatch C [(0, 10, 13, 13)] ht [] ⟨0, 10, 13, 13⟩ [] rfl (fun z hz => absurd hz List.not_mem_nil) rfl (by decide) wd405 hNc.2.1 13 rfl (fun zq => ?_)
  refine g_astore C dL_refuge_13 rfl (by decide) rfl ?_
  exact g_wcat C Z rfl ⟨Nat.le_of_ble_eq_true rfl, Nat.le_of_ble_eq_true rfl⟩ rfl dL_refuge_15 dL_refuge_16
set_option maxHeartbeats 4000000 in
set_option maxRecDepth 100000 in
theorem w_household_0 (l : Launch) (E : gE) (sa : gTx) (hfl : l.stackTraces = false) (o oc : Nat) (ad bd : Nat → Nat) (T H : gS) (f : Nat → Int64) (a : Int) (what : Int) (hT : okT T) (h_a : (-2147483648 ≤ a ∧ a ≤ 2147483647)) (h_what : (-2147483648 ≤ what ∧ what ≤ 2147483647)) (h : 0 ≤ a ∧ a < T.2 4) (hw : 0 ≤ what ∧ what ≤ 4) : gKW l E yL_household cL_household 5 (some .int) [(0, 10, 13, 13)] rW [.ref o, .int (iI a), .int (iI what), .ref oc] (wC E o ad bd oc T H f) sa (some (.int (iI 0))) (wC E o ad bd oc (hTellS T a what) H (vp_updL f 0 (lI (hTell T a what)))) := by
  refine gKW_by RL rfl (by decide) [(0, .ref o), (1, .int (iI a)), (2, .int (iI what)), (3, .ref oc)] (Nat.le_of_ble_eq_true rfl) rfl ?_
  intro zp ze zs zm za zb zh zc zA zQ ht C hX hNc Z
  refine g_aload_n C dL_household_0 rfl 3 rfl ?_
  refine g_iconst C dL_household_1 rfl ?_
  refine g_aload_n C dL_household_2 rfl 0 rfl ?_
  refine g_iload_n C dL_household_3 rfl 1 rfl ?_
  refine g_iload_n C dL_household_4 rfl 2 rfl ?_
  refine g_callV (As := [.int (iI a), .int (iI what)]) (rv := some (.int (iI (hTell T a what)))) C (wT E bd H ++ [(oc, cj E 1 f)]) (k_X9_household l E o (bd 0) ad T a what hT (by omega) (by omega) h hw) mX9_household iX9_household wd687 0 8 rfl rfl rfl rfl rfl (Nat.le_of_ble_eq_true rfl) ⟨Nat.le_of_ble_eq_true rfl, Nat.le_of_ble_eq_true rfl⟩ ⟨Nat.le_of_ble_eq_true rfl, Nat.le_of_ble_eq_true rfl⟩ rfl dL_household_5 rfl ?_
  exact g_wfair 7 C Z ⟨Nat.le_of_ble_eq_true rfl, Nat.le_of_ble_eq_true rfl⟩ 65 rfl rfl dL_household_8 dL_household_9 dL_household_10 (by decide) dL_household_17 dL_household_18
set_option maxHeartbeats 4000000 in
set_option maxRecDepth 100000 in
theorem w_household_i (l : Launch) (E : gE) (sa : gTx) (hfl : l.stackTraces = false) (o oc : Nat) (ad bd : Nat → Nat) (T H : gS) (f : Nat → Int64) (a : Int) (what : Int) (hT : okT T) (h_a : (-2147483648 ≤ a ∧ a ≤ 2147483647)) (h_what : (-2147483648 ≤ what ∧ what ≤ 2147483647)) (h : ¬ ((0 ≤ a ∧ a < T.2 4) ∧ 0 ≤ what ∧ what ≤ 4)) : gKW l E yL_household cL_household 5 (some .int) [(0, 10, 13, 13)] rW [.ref o, .int (iI a), .int (iI what), .ref oc] (wC E o ad bd oc T H f) sa (some (.int (iI 1))) (wC E o ad bd oc T H f) := by
  refine gKW_by RL rfl (by decide) [(0, .ref o), (1, .int (iI a)), (2, .int (iI what)), (3, .ref oc)] (Nat.le_of_ble_eq_true rfl) rfl ?_
  intro zp ze zs zm za zb zh zc zA zQ ht C hX hNc Z
  refine g_aload_n C dL_household_0 rfl 3 rfl ?_
  refine g_iconst C dL_household_1 rfl ?_
  refine g_aload_n C dL_household_2 rfl 0 rfl ?_
  refine g_iload_n C dL_household_3 rfl 1 rfl ?_
  refine g_iload_n C dL_household_4 rfl 2 rfl ?_
  refine g_callVT (As := [.int (iI a), .int (iI what)]) (wT E bd H ++ [(oc, cj E 1 f)]) C hX (t_X9_household_i l E sa hfl o (bd 0) ad T a what hT (by omega) (by omega) h) mX9_household iX9_household wd687 0 8 rfl rfl rfl rfl rfl (Nat.le_of_ble_eq_true rfl) ⟨Nat.le_of_ble_eq_true rfl, Nat.le_of_ble_eq_true rfl⟩ ⟨Nat.le_of_ble_eq_true rfl, Nat.le_of_ble_eq_true rfl⟩ rfl dL_household_5 ?_
  refine g_tcatch C [(0, 10, 13, 13)] ht [] ⟨0, 10, 13, 13⟩ [] rfl (fun z hz => absurd hz List.not_mem_nil) rfl (by decide) wd405 hNc.2.1 13 rfl (fun zq => ?_)
  refine g_astore C dL_household_13 rfl (by decide) rfl ?_
  exact g_wcat C Z rfl ⟨Nat.le_of_ble_eq_true rfl, Nat.le_of_ble_eq_true rfl⟩ rfl dL_household_15 dL_household_16
set_option maxHeartbeats 4000000 in
set_option maxRecDepth 100000 in
theorem w_caller_0 (l : Launch) (E : gE) (sa : gTx) (hfl : l.stackTraces = false) (o oc : Nat) (ad bd : Nat → Nat) (T H : gS) (f : Nat → Int64) (a : Int) (what : Int) (hT : okT T) (h_a : (-2147483648 ≤ a ∧ a ≤ 2147483647)) (h_what : (-2147483648 ≤ what ∧ what ≤ 2147483647)) (h : 0 ≤ a ∧ a < T.2 6) (hw : 0 ≤ what ∧ what ≤ 2) : gKW l E yL_caller cL_caller 5 (some .int) [(0, 10, 13, 13)] rW [.ref o, .int (iI a), .int (iI what), .ref oc] (wC E o ad bd oc T H f) sa (some (.int (iI 0))) (wC E o ad bd oc T H (vp_updL f 0 (lI (cTell T a what)))) := by
  refine gKW_by RL rfl (by decide) [(0, .ref o), (1, .int (iI a)), (2, .int (iI what)), (3, .ref oc)] (Nat.le_of_ble_eq_true rfl) rfl ?_
  intro zp ze zs zm za zb zh zc zA zQ ht C hX hNc Z
  refine g_aload_n C dL_caller_0 rfl 3 rfl ?_
  refine g_iconst C dL_caller_1 rfl ?_
  refine g_aload_n C dL_caller_2 rfl 0 rfl ?_
  refine g_iload_n C dL_caller_3 rfl 1 rfl ?_
  refine g_iload_n C dL_caller_4 rfl 2 rfl ?_
  refine g_callV (As := [.int (iI a), .int (iI what)]) (rv := some (.int (iI (cTell T a what)))) C (wT E bd H ++ [(oc, cj E 1 f)]) (k_X9_caller l E o (bd 0) ad T a what hT (by omega) (by omega) h hw) mX9_caller iX9_caller wd697 0 8 rfl rfl rfl rfl rfl (Nat.le_of_ble_eq_true rfl) ⟨Nat.le_of_ble_eq_true rfl, Nat.le_of_ble_eq_true rfl⟩ ⟨Nat.le_of_ble_eq_true rfl, Nat.le_of_ble_eq_true rfl⟩ rfl dL_caller_5 rfl ?_
  exact g_wfair 7 C Z ⟨Nat.le_of_ble_eq_true rfl, Nat.le_of_ble_eq_true rfl⟩ 65 rfl rfl dL_caller_8 dL_caller_9 dL_caller_10 (by decide) dL_caller_17 dL_caller_18
set_option maxHeartbeats 4000000 in
set_option maxRecDepth 100000 in
theorem w_caller_i (l : Launch) (E : gE) (sa : gTx) (hfl : l.stackTraces = false) (o oc : Nat) (ad bd : Nat → Nat) (T H : gS) (f : Nat → Int64) (a : Int) (what : Int) (hT : okT T) (h_a : (-2147483648 ≤ a ∧ a ≤ 2147483647)) (h_what : (-2147483648 ≤ what ∧ what ≤ 2147483647)) (h : ¬ ((0 ≤ a ∧ a < T.2 6) ∧ 0 ≤ what ∧ what ≤ 2)) : gKW l E yL_caller cL_caller 5 (some .int) [(0, 10, 13, 13)] rW [.ref o, .int (iI a), .int (iI what), .ref oc] (wC E o ad bd oc T H f) sa (some (.int (iI 1))) (wC E o ad bd oc T H f) := by
  refine gKW_by RL rfl (by decide) [(0, .ref o), (1, .int (iI a)), (2, .int (iI what)), (3, .ref oc)] (Nat.le_of_ble_eq_true rfl) rfl ?_
  intro zp ze zs zm za zb zh zc zA zQ ht C hX hNc Z
  refine g_aload_n C dL_caller_0 rfl 3 rfl ?_
  refine g_iconst C dL_caller_1 rfl ?_
  refine g_aload_n C dL_caller_2 rfl 0 rfl ?_
  refine g_iload_n C dL_caller_3 rfl 1 rfl ?_
  refine g_iload_n C dL_caller_4 rfl 2 rfl ?_
  refine g_callVT (As := [.int (iI a), .int (iI what)]) (wT E bd H ++ [(oc, cj E 1 f)]) C hX (t_X9_caller_i l E sa hfl o (bd 0) ad T a what hT (by omega) (by omega) h) mX9_caller iX9_caller wd697 0 8 rfl rfl rfl rfl rfl (Nat.le_of_ble_eq_true rfl) ⟨Nat.le_of_ble_eq_true rfl, Nat.le_of_ble_eq_true rfl⟩ ⟨Nat.le_of_ble_eq_true rfl, Nat.le_of_ble_eq_true rfl⟩ rfl dL_caller_5 ?_
  refine g_tcatch C [(0, 10, 13, 13)] ht [] ⟨0, 10, 13, 13⟩ [] rfl (fun z hz => absurd hz List.not_mem_nil) rfl (by decide) wd405 hNc.2.1 13 rfl (fun zq => ?_)
  refine g_astore C dL_caller_13 rfl (by decide) rfl ?_
  exact g_wcat C Z rfl ⟨Nat.le_of_ble_eq_true rfl, Nat.le_of_ble_eq_true rfl⟩ rfl dL_caller_15 dL_caller_16
set_option maxHeartbeats 4000000 in
set_option maxRecDepth 100000 in
theorem w_count_0 (l : Launch) (E : gE) (sa : gTx) (hfl : l.stackTraces = false) (o oc : Nat) (ad bd : Nat → Nat) (T H : gS) (f : Nat → Int64) (what : Int) (hT : okT T) (h_what : (-2147483648 ≤ what ∧ what ≤ 2147483647)) (hw : 0 ≤ what ∧ what ≤ 9) : gKW l E yL_count cL_count 4 (some .int) [(0, 9, 12, 13)] rW [.ref o, .int (iI what), .ref oc] (wC E o ad bd oc T H f) sa (some (.int (iI 0))) (wC E o ad bd oc T H (vp_updL f 0 (lI (nTell T what)))) := by
  refine gKW_by RL rfl (by decide) [(0, .ref o), (1, .int (iI what)), (2, .ref oc)] (Nat.le_of_ble_eq_true rfl) rfl ?_
  intro zp ze zs zm za zb zh zc zA zQ ht C hX hNc Z
  refine g_aload_n C dL_count_0 rfl 2 rfl ?_
  refine g_iconst C dL_count_1 rfl ?_
  refine g_aload_n C dL_count_2 rfl 0 rfl ?_
  refine g_iload_n C dL_count_3 rfl 1 rfl ?_
  refine g_callV (As := [.int (iI what)]) (rv := some (.int (iI (nTell T what)))) C (wT E bd H ++ [(oc, cj E 1 f)]) (k_X9_count l E o (bd 0) ad T what hT (by omega) hw) mX9_count iX9_count wd707 0 8 rfl rfl rfl rfl rfl (Nat.le_of_ble_eq_true rfl) ⟨Nat.le_of_ble_eq_true rfl, Nat.le_of_ble_eq_true rfl⟩ ⟨Nat.le_of_ble_eq_true rfl, Nat.le_of_ble_eq_true rfl⟩ rfl dL_count_4 rfl ?_
  exact g_wfair 6 C Z ⟨Nat.le_of_ble_eq_true rfl, Nat.le_of_ble_eq_true rfl⟩ 65 rfl rfl dL_count_7 dL_count_8 dL_count_9 (by decide) dL_count_15 dL_count_16
set_option maxHeartbeats 4000000 in
set_option maxRecDepth 100000 in
theorem w_count_i (l : Launch) (E : gE) (sa : gTx) (hfl : l.stackTraces = false) (o oc : Nat) (ad bd : Nat → Nat) (T H : gS) (f : Nat → Int64) (what : Int) (hT : okT T) (h_what : (-2147483648 ≤ what ∧ what ≤ 2147483647)) (h : ¬ (0 ≤ what ∧ what ≤ 9)) : gKW l E yL_count cL_count 4 (some .int) [(0, 9, 12, 13)] rW [.ref o, .int (iI what), .ref oc] (wC E o ad bd oc T H f) sa (some (.int (iI 1))) (wC E o ad bd oc T H f) := by
  refine gKW_by RL rfl (by decide) [(0, .ref o), (1, .int (iI what)), (2, .ref oc)] (Nat.le_of_ble_eq_true rfl) rfl ?_
  intro zp ze zs zm za zb zh zc zA zQ ht C hX hNc Z
  refine g_aload_n C dL_count_0 rfl 2 rfl ?_
  refine g_iconst C dL_count_1 rfl ?_
  refine g_aload_n C dL_count_2 rfl 0 rfl ?_
  refine g_iload_n C dL_count_3 rfl 1 rfl ?_
  refine g_callVT (As := [.int (iI what)]) (wT E bd H ++ [(oc, cj E 1 f)]) C hX (t_X9_count_i l E sa hfl o (bd 0) ad T what hT (by omega) h) mX9_count iX9_count wd707 0 8 rfl rfl rfl rfl rfl (Nat.le_of_ble_eq_true rfl) ⟨Nat.le_of_ble_eq_true rfl, Nat.le_of_ble_eq_true rfl⟩ ⟨Nat.le_of_ble_eq_true rfl, Nat.le_of_ble_eq_true rfl⟩ rfl dL_count_4 ?_
  refine g_tcatch C [(0, 9, 12, 13)] ht [] ⟨0, 9, 12, 13⟩ [] rfl (fun z hz => absurd hz List.not_mem_nil) rfl (by decide) wd405 hNc.2.1 12 rfl (fun zq => ?_)
  refine g_astore_n C dL_count_12 rfl (by decide) rfl ?_
  exact g_wcat C Z rfl ⟨Nat.le_of_ble_eq_true rfl, Nat.le_of_ble_eq_true rfl⟩ rfl dL_count_13 dL_count_14
set_option maxHeartbeats 4000000 in
set_option maxRecDepth 100000 in
theorem w_pass_0 (l : Launch) (E : gE) (sa : gTx) (hfl : l.stackTraces = false) (o oc : Nat) (ad bd : Nat → Nat) (T H : gS) (f : Nat → Int64) (n : Nat) (hT : okT T) (hh : 0 ≤ T.2 0 ∧ T.2 0 ≤ 1999999000) (hO : okH T) (hn : 1 ≤ n ∧ n ≤ 36) : gKW l E yL_pass cL_pass 4 (some .int) [(0, 9, 12, 15)] rW [.ref o, .int (iI (n : Int)), .ref oc] (wC E o ad bd oc T H f) sa (some (.int (iI 0))) (wC E o ad bd oc (hoursI T n) H (vp_updL f 0 (lI ((hoursI T n).2 5 - T.2 5)))) := by
  refine gKW_by RL rfl (by decide) [(0, .ref o), (1, .int (iI (n : Int))), (2, .ref oc)] (Nat.le_of_ble_eq_true rfl) rfl ?_
  intro zp ze zs zm za zb zh zc zA zQ ht C hX hNc Z
  refine g_aload_n C dL_pass_0 rfl 2 rfl ?_
  refine g_iconst C dL_pass_1 rfl ?_
  refine g_aload_n C dL_pass_2 rfl 0 rfl ?_
  refine g_iload_n C dL_pass_3 rfl 1 rfl ?_
  refine g_callV (As := [.int (iI (n : Int))]) (rv := some (.int (iI ((hoursI T n).2 5 - T.2 5)))) C (wT E bd H ++ [(oc, cj E 1 f)]) (k_X9_pass l E o (bd 0) ad T n hT hh hO hn) mX9_pass iX9_pass wd714 0 8 rfl rfl rfl rfl rfl (Nat.le_of_ble_eq_true rfl) ⟨Nat.le_of_ble_eq_true rfl, Nat.le_of_ble_eq_true rfl⟩ ⟨Nat.le_of_ble_eq_true rfl, Nat.le_of_ble_eq_true rfl⟩ rfl dL_pass_4 rfl ?_
  exact g_wfair 6 C Z ⟨Nat.le_of_ble_eq_true rfl, Nat.le_of_ble_eq_true rfl⟩ 65 rfl rfl dL_pass_7 dL_pass_8 dL_pass_9 (by decide) dL_pass_15 dL_pass_16
set_option maxHeartbeats 4000000 in
set_option maxRecDepth 100000 in
theorem w_pass_a (l : Launch) (E : gE) (sa : gTx) (hfl : l.stackTraces = false) (o oc : Nat) (ad bd : Nat → Nat) (T H : gS) (f : Nat → Int64) (n : Int) (hT : okT T) (h_n : (-2147483648 ≤ n ∧ n ≤ 2147483647)) (h : ¬ (1 ≤ n ∧ n ≤ 36)) : gKW l E yL_pass cL_pass 4 (some .int) [(0, 9, 12, 15)] rW [.ref o, .int (iI n), .ref oc] (wC E o ad bd oc T H f) sa (some (.int (iI 1))) (wC E o ad bd oc T H f) := by
  refine gKW_by RL rfl (by decide) [(0, .ref o), (1, .int (iI n)), (2, .ref oc)] (Nat.le_of_ble_eq_true rfl) rfl ?_
  intro zp ze zs zm za zb zh zc zA zQ ht C hX hNc Z
  refine g_aload_n C dL_pass_0 rfl 2 rfl ?_
  refine g_iconst C dL_pass_1 rfl ?_
  refine g_aload_n C dL_pass_2 rfl 0 rfl ?_
  refine g_iload_n C dL_pass_3 rfl 1 rfl ?_
  refine g_callVT (As := [.int (iI n)]) (wT E bd H ++ [(oc, cj E 1 f)]) C hX (t_X9_pass_a l E sa hfl o (bd 0) ad T n hT (by omega) h) mX9_pass iX9_pass wd714 0 8 rfl rfl rfl rfl rfl (Nat.le_of_ble_eq_true rfl) ⟨Nat.le_of_ble_eq_true rfl, Nat.le_of_ble_eq_true rfl⟩ ⟨Nat.le_of_ble_eq_true rfl, Nat.le_of_ble_eq_true rfl⟩ rfl dL_pass_4 ?_
  refine g_tcatch C [(0, 9, 12, 15)] ht [] ⟨0, 9, 12, 15⟩ [] rfl (fun z hz => absurd hz List.not_mem_nil) rfl (by decide) wd406 hNc.2.2.1 12 rfl (fun zq => ?_)
  refine g_astore_n C dL_pass_12 rfl (by decide) rfl ?_
  exact g_wcat C Z rfl ⟨Nat.le_of_ble_eq_true rfl, Nat.le_of_ble_eq_true rfl⟩ rfl dL_pass_13 dL_pass_14
set_option maxHeartbeats 4000000 in
set_option maxRecDepth 100000 in
theorem w_foresee_0 (l : Launch) (E : gE) (sa : gTx) (hfl : l.stackTraces = false) (o oc : Nat) (ad bd : Nat → Nat) (T H : gS) (f : Nat → Int64) (n : Nat) (what : Int) (hT : okT T) (h_what : (-2147483648 ≤ what ∧ what ≤ 2147483647)) (hH : okT H) (hh : 0 ≤ T.2 0 ∧ T.2 0 ≤ 1999999000) (hO : okH T) (hn : 1 ≤ n ∧ n ≤ 36) (hw : 0 ≤ what ∧ what ≤ 3) : gKW l E yL_foresee cL_foresee 5 (some .int) [(0, 10, 13, 15), (0, 10, 17, 13)] rW [.ref o, .int (iI (n : Int)), .int (iI what), .ref oc] (wC E o ad bd oc T H f) sa (some (.int (iI 0))) (wC E o ad bd oc T (hoursI (copyS H T) n) (vp_updL f 0 (lI (cForV T (hoursI (copyS H T) n) what)))) := by
  refine gKW_by RL rfl (by decide) [(0, .ref o), (1, .int (iI (n : Int))), (2, .int (iI what)), (3, .ref oc)] (Nat.le_of_ble_eq_true rfl) rfl ?_
  intro zp ze zs zm za zb zh zc zA zQ ht C hX hNc Z
  refine g_aload_n C dL_foresee_0 rfl 3 rfl ?_
  refine g_iconst C dL_foresee_1 rfl ?_
  refine g_aload_n C dL_foresee_2 rfl 0 rfl ?_
  refine g_iload_n C dL_foresee_3 rfl 1 rfl ?_
  refine g_iload_n C dL_foresee_4 rfl 2 rfl ?_
  refine g_callV (As := [.int (iI (n : Int)), .int (iI what)]) (rv := some (.int (iI (cForV T (hoursI (copyS H T) n) what)))) C [(oc, cj E 1 f)] (k_X9_foresee l E o ad bd T H n what hT hH hh hO hn hw) mX9_foresee iX9_foresee wd805 0 8 rfl rfl rfl rfl rfl (Nat.le_of_ble_eq_true rfl) ⟨Nat.le_of_ble_eq_true rfl, Nat.le_of_ble_eq_true rfl⟩ ⟨Nat.le_of_ble_eq_true rfl, Nat.le_of_ble_eq_true rfl⟩ rfl dL_foresee_5 rfl ?_
  exact g_wfair 11 C Z ⟨Nat.le_of_ble_eq_true rfl, Nat.le_of_ble_eq_true rfl⟩ 65 rfl rfl dL_foresee_8 dL_foresee_9 dL_foresee_10 (by decide) dL_foresee_21 dL_foresee_22
set_option maxHeartbeats 4000000 in
set_option maxRecDepth 100000 in
theorem w_foresee_a (l : Launch) (E : gE) (sa : gTx) (hfl : l.stackTraces = false) (o oc : Nat) (ad bd : Nat → Nat) (T H : gS) (f : Nat → Int64) (n : Int) (what : Int) (hT : okT T) (h_n : (-2147483648 ≤ n ∧ n ≤ 2147483647)) (h_what : (-2147483648 ≤ what ∧ what ≤ 2147483647)) (h : ¬ (1 ≤ n ∧ n ≤ 36)) : gKW l E yL_foresee cL_foresee 5 (some .int) [(0, 10, 13, 15), (0, 10, 17, 13)] rW [.ref o, .int (iI n), .int (iI what), .ref oc] (wC E o ad bd oc T H f) sa (some (.int (iI 1))) (wC E o ad bd oc T H f) := by
  refine gKW_by RL rfl (by decide) [(0, .ref o), (1, .int (iI n)), (2, .int (iI what)), (3, .ref oc)] (Nat.le_of_ble_eq_true rfl) rfl ?_
  intro zp ze zs zm za zb zh zc zA zQ ht C hX hNc Z
  refine g_aload_n C dL_foresee_0 rfl 3 rfl ?_
  refine g_iconst C dL_foresee_1 rfl ?_
  refine g_aload_n C dL_foresee_2 rfl 0 rfl ?_
  refine g_iload_n C dL_foresee_3 rfl 1 rfl ?_
  refine g_iload_n C dL_foresee_4 rfl 2 rfl ?_
  refine g_callVT (As := [.int (iI n), .int (iI what)]) (wT E bd H ++ [(oc, cj E 1 f)]) C hX (t_X9_foresee_a l E sa hfl o (bd 0) ad T n what hT (by omega) (by omega) h) mX9_foresee iX9_foresee wd805 0 8 rfl rfl rfl rfl rfl (Nat.le_of_ble_eq_true rfl) ⟨Nat.le_of_ble_eq_true rfl, Nat.le_of_ble_eq_true rfl⟩ ⟨Nat.le_of_ble_eq_true rfl, Nat.le_of_ble_eq_true rfl⟩ rfl dL_foresee_5 ?_
  refine g_tcatch C [(0, 10, 13, 15), (0, 10, 17, 13)] ht [] ⟨0, 10, 13, 15⟩ [⟨0, 10, 17, 13⟩] rfl (fun z hz => absurd hz List.not_mem_nil) rfl (by decide) wd406 hNc.2.2.1 13 rfl (fun zq => ?_)
  refine g_astore C dL_foresee_13 rfl (by decide) rfl ?_
  exact g_wcat C Z rfl ⟨Nat.le_of_ble_eq_true rfl, Nat.le_of_ble_eq_true rfl⟩ rfl dL_foresee_15 dL_foresee_16
set_option maxHeartbeats 4000000 in
set_option maxRecDepth 100000 in
theorem w_foresee_i (l : Launch) (E : gE) (sa : gTx) (hfl : l.stackTraces = false) (o oc : Nat) (ad bd : Nat → Nat) (T H : gS) (f : Nat → Int64) (n : Int) (what : Int) (hT : okT T) (h_n : (-2147483648 ≤ n ∧ n ≤ 2147483647)) (h_what : (-2147483648 ≤ what ∧ what ≤ 2147483647)) (h : 1 ≤ n ∧ n ≤ 36) (h2 : ¬ (0 ≤ what ∧ what ≤ 3)) : gKW l E yL_foresee cL_foresee 5 (some .int) [(0, 10, 13, 15), (0, 10, 17, 13)] rW [.ref o, .int (iI n), .int (iI what), .ref oc] (wC E o ad bd oc T H f) sa (some (.int (iI 2))) (wC E o ad bd oc T H f) := by
  refine gKW_by RL rfl (by decide) [(0, .ref o), (1, .int (iI n)), (2, .int (iI what)), (3, .ref oc)] (Nat.le_of_ble_eq_true rfl) rfl ?_
  intro zp ze zs zm za zb zh zc zA zQ ht C hX hNc Z
  refine g_aload_n C dL_foresee_0 rfl 3 rfl ?_
  refine g_iconst C dL_foresee_1 rfl ?_
  refine g_aload_n C dL_foresee_2 rfl 0 rfl ?_
  refine g_iload_n C dL_foresee_3 rfl 1 rfl ?_
  refine g_iload_n C dL_foresee_4 rfl 2 rfl ?_
  refine g_callVT (As := [.int (iI n), .int (iI what)]) (wT E bd H ++ [(oc, cj E 1 f)]) C hX (t_X9_foresee_i l E sa hfl o (bd 0) ad T n what hT (by omega) (by omega) h h2) mX9_foresee iX9_foresee wd805 0 8 rfl rfl rfl rfl rfl (Nat.le_of_ble_eq_true rfl) ⟨Nat.le_of_ble_eq_true rfl, Nat.le_of_ble_eq_true rfl⟩ ⟨Nat.le_of_ble_eq_true rfl, Nat.le_of_ble_eq_true rfl⟩ rfl dL_foresee_5 ?_
  refine g_tcatch C [(0, 10, 13, 15), (0, 10, 17, 13)] ht [⟨0, 10, 13, 15⟩] ⟨0, 10, 17, 13⟩ [] rfl (fun z hz => by rw [List.mem_singleton.mp hz]; exact ⟨by decide, xA, wd406, hNc.1.2.2.2⟩) rfl (by decide) wd405 hNc.2.1 17 rfl (fun zq => ?_)
  refine g_astore C dL_foresee_17 rfl (by decide) rfl ?_
  exact g_wcat C Z rfl ⟨Nat.le_of_ble_eq_true rfl, Nat.le_of_ble_eq_true rfl⟩ rfl dL_foresee_19 dL_foresee_20
set_option maxHeartbeats 4000000 in
set_option maxRecDepth 100000 in
theorem w_rings_0 (l : Launch) (E : gE) (sa : gTx) (hfl : l.stackTraces = false) (o oc : Nat) (ad bd : Nat → Nat) (T H : gS) (f : Nat → Int64) (g : Int) (hT : okT T) (h_g : (-2147483648 ≤ g ∧ g ≤ 2147483647)) (hH : okT H) (hh : 0 ≤ T.2 0 ∧ T.2 0 ≤ 1999999000) (hg : 0 ≤ g ∧ g < T.2 2) : gKW l E yL_rings cL_rings 4 (some .int) [(0, 9, 12, 13)] rW [.ref o, .int (iI g), .ref oc] (wC E o ad bd oc T H f) sa (some (.int (iI 0))) (wC E o ad bd oc T (hWI (copyS H T) (cgN (copyS H T) g)) (vp_updL f 0 (lI (cgR (copyS H T) g)))) := by
  refine gKW_by RL rfl (by decide) [(0, .ref o), (1, .int (iI g)), (2, .ref oc)] (Nat.le_of_ble_eq_true rfl) rfl ?_
  intro zp ze zs zm za zb zh zc zA zQ ht C hX hNc Z
  refine g_aload_n C dL_rings_0 rfl 2 rfl ?_
  refine g_iconst C dL_rings_1 rfl ?_
  refine g_aload_n C dL_rings_2 rfl 0 rfl ?_
  refine g_iload_n C dL_rings_3 rfl 1 rfl ?_
  refine g_callV (As := [.int (iI g)]) (rv := some (.int (iI (cgR (copyS H T) g)))) C [(oc, cj E 1 f)] (k_X9_rings l E o ad bd T H g hT hH hh hg) mX9_rings iX9_rings wd863 0 8 rfl rfl rfl rfl rfl (Nat.le_of_ble_eq_true rfl) ⟨Nat.le_of_ble_eq_true rfl, Nat.le_of_ble_eq_true rfl⟩ ⟨Nat.le_of_ble_eq_true rfl, Nat.le_of_ble_eq_true rfl⟩ rfl dL_rings_4 rfl ?_
  exact g_wfair 6 C Z ⟨Nat.le_of_ble_eq_true rfl, Nat.le_of_ble_eq_true rfl⟩ 65 rfl rfl dL_rings_7 dL_rings_8 dL_rings_9 (by decide) dL_rings_15 dL_rings_16
set_option maxHeartbeats 4000000 in
set_option maxRecDepth 100000 in
theorem w_rings_i (l : Launch) (E : gE) (sa : gTx) (hfl : l.stackTraces = false) (o oc : Nat) (ad bd : Nat → Nat) (T H : gS) (f : Nat → Int64) (g : Int) (hT : okT T) (h_g : (-2147483648 ≤ g ∧ g ≤ 2147483647)) (h : ¬ (0 ≤ g ∧ g < T.2 2)) : gKW l E yL_rings cL_rings 4 (some .int) [(0, 9, 12, 13)] rW [.ref o, .int (iI g), .ref oc] (wC E o ad bd oc T H f) sa (some (.int (iI 1))) (wC E o ad bd oc T H f) := by
  refine gKW_by RL rfl (by decide) [(0, .ref o), (1, .int (iI g)), (2, .ref oc)] (Nat.le_of_ble_eq_true rfl) rfl ?_
  intro zp ze zs zm za zb zh zc zA zQ ht C hX hNc Z
  refine g_aload_n C dL_rings_0 rfl 2 rfl ?_
  refine g_iconst C dL_rings_1 rfl ?_
  refine g_aload_n C dL_rings_2 rfl 0 rfl ?_
  refine g_iload_n C dL_rings_3 rfl 1 rfl ?_
  refine g_callVT (As := [.int (iI g)]) (wT E bd H ++ [(oc, cj E 1 f)]) C hX (t_X9_rings_i l E sa hfl o (bd 0) ad T g hT (by omega) h) mX9_rings iX9_rings wd863 0 8 rfl rfl rfl rfl rfl (Nat.le_of_ble_eq_true rfl) ⟨Nat.le_of_ble_eq_true rfl, Nat.le_of_ble_eq_true rfl⟩ ⟨Nat.le_of_ble_eq_true rfl, Nat.le_of_ble_eq_true rfl⟩ rfl dL_rings_4 ?_
  refine g_tcatch C [(0, 9, 12, 13)] ht [] ⟨0, 9, 12, 13⟩ [] rfl (fun z hz => absurd hz List.not_mem_nil) rfl (by decide) wd405 hNc.2.1 12 rfl (fun zq => ?_)
  refine g_astore_n C dL_rings_12 rfl (by decide) rfl ?_
  exact g_wcat C Z rfl ⟨Nat.le_of_ble_eq_true rfl, Nat.le_of_ble_eq_true rfl⟩ rfl dL_rings_13 dL_rings_14
set_option maxHeartbeats 4000000 in
set_option maxRecDepth 100000 in
theorem w_advise_0 (l : Launch) (E : gE) (sa : gTx) (hfl : l.stackTraces = false) (o oc : Nat) (ad bd : Nat → Nat) (T H : gS) (f : Nat → Int64) (n : Nat) (hT : okT T) (hH : okT H) (hh : 0 ≤ T.2 0 ∧ T.2 0 ≤ 1999999000) (hn : 1 ≤ n ∧ n ≤ 6) : gKW l E yL_advise cL_advise 4 (some .int) [(0, 9, 12, 15)] rW [.ref o, .int (iI (n : Int)), .ref oc] (wC E o ad bd oc T H f) sa (some (.int (iI 0))) (wC E o ad bd oc T (caI T H n 10).1 (vp_updL f 0 (lI ((caI T H n 10).2.1)))) := by
  refine gKW_by RL rfl (by decide) [(0, .ref o), (1, .int (iI (n : Int))), (2, .ref oc)] (Nat.le_of_ble_eq_true rfl) rfl ?_
  intro zp ze zs zm za zb zh zc zA zQ ht C hX hNc Z
  refine g_aload_n C dL_advise_0 rfl 2 rfl ?_
  refine g_iconst C dL_advise_1 rfl ?_
  refine g_aload_n C dL_advise_2 rfl 0 rfl ?_
  refine g_iload_n C dL_advise_3 rfl 1 rfl ?_
  refine g_callV (As := [.int (iI (n : Int))]) (rv := some (.int (iI ((caI T H n 10).2.1)))) C [(oc, cj E 1 f)] (k_X9_advise l E o ad bd T H n hT hH hh hn) mX9_advise iX9_advise wd872 0 8 rfl rfl rfl rfl rfl (Nat.le_of_ble_eq_true rfl) ⟨Nat.le_of_ble_eq_true rfl, Nat.le_of_ble_eq_true rfl⟩ ⟨Nat.le_of_ble_eq_true rfl, Nat.le_of_ble_eq_true rfl⟩ rfl dL_advise_4 rfl ?_
  exact g_wfair 6 C Z ⟨Nat.le_of_ble_eq_true rfl, Nat.le_of_ble_eq_true rfl⟩ 65 rfl rfl dL_advise_7 dL_advise_8 dL_advise_9 (by decide) dL_advise_15 dL_advise_16
set_option maxHeartbeats 4000000 in
set_option maxRecDepth 100000 in
theorem w_advise_a (l : Launch) (E : gE) (sa : gTx) (hfl : l.stackTraces = false) (o oc : Nat) (ad bd : Nat → Nat) (T H : gS) (f : Nat → Int64) (n : Int) (hT : okT T) (h_n : (-2147483648 ≤ n ∧ n ≤ 2147483647)) (h : ¬ (1 ≤ n ∧ n ≤ 6)) : gKW l E yL_advise cL_advise 4 (some .int) [(0, 9, 12, 15)] rW [.ref o, .int (iI n), .ref oc] (wC E o ad bd oc T H f) sa (some (.int (iI 1))) (wC E o ad bd oc T H f) := by
  refine gKW_by RL rfl (by decide) [(0, .ref o), (1, .int (iI n)), (2, .ref oc)] (Nat.le_of_ble_eq_true rfl) rfl ?_
  intro zp ze zs zm za zb zh zc zA zQ ht C hX hNc Z
  refine g_aload_n C dL_advise_0 rfl 2 rfl ?_
  refine g_iconst C dL_advise_1 rfl ?_
  refine g_aload_n C dL_advise_2 rfl 0 rfl ?_
  refine g_iload_n C dL_advise_3 rfl 1 rfl ?_
  refine g_callVT (As := [.int (iI n)]) (wT E bd H ++ [(oc, cj E 1 f)]) C hX (t_X9_advise_a l E sa hfl o (bd 0) ad T n hT (by omega) h) mX9_advise iX9_advise wd872 0 8 rfl rfl rfl rfl rfl (Nat.le_of_ble_eq_true rfl) ⟨Nat.le_of_ble_eq_true rfl, Nat.le_of_ble_eq_true rfl⟩ ⟨Nat.le_of_ble_eq_true rfl, Nat.le_of_ble_eq_true rfl⟩ rfl dL_advise_4 ?_
  refine g_tcatch C [(0, 9, 12, 15)] ht [] ⟨0, 9, 12, 15⟩ [] rfl (fun z hz => absurd hz List.not_mem_nil) rfl (by decide) wd406 hNc.2.2.1 12 rfl (fun zq => ?_)
  refine g_astore_n C dL_advise_12 rfl (by decide) rfl ?_
  exact g_wcat C Z rfl ⟨Nat.le_of_ble_eq_true rfl, Nat.le_of_ble_eq_true rfl⟩ rfl dL_advise_13 dL_advise_14
