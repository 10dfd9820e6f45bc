/-! the law's helpers, one by one: the class's world with the trial town and the answer's row -/
abbrev wC (E : gE) (o : Nat) (ad bd : Nat → Nat) (oc : Nat) (T H : gS) (f : Nat → Int64) : va_W := [(o, .inr (8, [.ref (ad 0), .ref (bd 0)]))] ++ (wT E ad T ++ (wT E bd H ++ [(oc, cj E 1 f)]))
abbrev rW : Room := { frames := 10, cells := 1, slots := 6, locals := 210 }
set_option maxHeartbeats 4000000 in
set_option maxRecDepth 100000 in
theorem w_setGround_0 (l : Launch) (E : gE) (sa : gTx) (hfl : l.stackTraces = false) (o oc : Nat) (ad bd : Nat → Nat) (T H : gS) (f : Nat → Int64) (x : Int) (y : Int) (g : Int) (hT : okT T) (h_x : (-2147483648 ≤ x ∧ x ≤ 2147483647)) (h_y : (-2147483648 ≤ y ∧ y ≤ 2147483647)) (h_g : (-2147483648 ≤ g ∧ g ≤ 2147483647)) (hc : tC x y) (h : 0 ≤ g ∧ g ≤ 9) : gKW l E yL_setGround cL_setGround 6 (some .int) [(0, 12, 15, 13), (0, 12, 19, 15)] rW [.ref o, .int (iI x), .int (iI y), .int (iI g), .ref oc] (wC E o ad bd oc T H f) sa (some (.int (iI 0))) (wC E o ad bd oc (setA T 2 (fset (T.1 2) (10 * y + x) g)) H (vp_updL f 0 (lI (T.1 2 (10 * y + x))))) := by
  refine gKW_by RL rfl (by decide) [(0, .ref o), (1, .int (iI x)), (2, .int (iI y)), (3, .int (iI g)), (4, .ref oc)] (Nat.le_of_ble_eq_true rfl) rfl ?_
  intro zp ze zs zm za zb zh zc zA zQ ht C hX hNc Z
  refine g_aload C dL_setGround_0 rfl 4 rfl ?_
  refine g_iconst C dL_setGround_2 rfl ?_
  refine g_aload_n C dL_setGround_3 rfl 0 rfl ?_
  refine g_iload_n C dL_setGround_4 rfl 1 rfl ?_
  refine g_iload_n C dL_setGround_5 rfl 2 rfl ?_
  refine g_iload_n C dL_setGround_6 rfl 3 rfl ?_
  refine g_callV (As := [.int (iI x), .int (iI y), .int (iI g)]) (rv := some (.int (iI (T.1 2 (10 * y + x))))) C (wT E bd H ++ [(oc, cj E 1 f)]) (k_X9_setGround l E o (bd 0) ad T x y g hT (by omega) (by omega) (by omega) hc h) mX9_setGround iX9_setGround wd407 0 8 rfl rfl rfl rfl rfl (Nat.le_of_ble_eq_true rfl) ⟨Nat.le_of_ble_eq_true rfl, Nat.le_of_ble_eq_true rfl⟩ ⟨Nat.le_of_ble_eq_true rfl, Nat.le_of_ble_eq_true rfl⟩ rfl dL_setGround_7 rfl ?_
  exact g_wfair 11 C Z ⟨Nat.le_of_ble_eq_true rfl, Nat.le_of_ble_eq_true rfl⟩ 65 rfl rfl dL_setGround_10 dL_setGround_11 dL_setGround_12 (by decide) dL_setGround_23 dL_setGround_24
set_option maxHeartbeats 4000000 in
set_option maxRecDepth 100000 in
theorem w_setGround_i (l : Launch) (E : gE) (sa : gTx) (hfl : l.stackTraces = false) (o oc : Nat) (ad bd : Nat → Nat) (T H : gS) (f : Nat → Int64) (x : Int) (y : Int) (g : Int) (hT : okT T) (h_x : (-2147483648 ≤ x ∧ x ≤ 2147483647)) (h_y : (-2147483648 ≤ y ∧ y ≤ 2147483647)) (h_g : (-2147483648 ≤ g ∧ g ≤ 2147483647)) (hc : ¬ tC x y) : gKW l E yL_setGround cL_setGround 6 (some .int) [(0, 12, 15, 13), (0, 12, 19, 15)] rW [.ref o, .int (iI x), .int (iI y), .int (iI g), .ref oc] (wC E o ad bd oc T H f) sa (some (.int (iI 1))) (wC E o ad bd oc T H f) := by
  refine gKW_by RL rfl (by decide) [(0, .ref o), (1, .int (iI x)), (2, .int (iI y)), (3, .int (iI g)), (4, .ref oc)] (Nat.le_of_ble_eq_true rfl) rfl ?_
  intro zp ze zs zm za zb zh zc zA zQ ht C hX hNc Z
  refine g_aload C dL_setGround_0 rfl 4 rfl ?_
  refine g_iconst C dL_setGround_2 rfl ?_
  refine g_aload_n C dL_setGround_3 rfl 0 rfl ?_
  refine g_iload_n C dL_setGround_4 rfl 1 rfl ?_
  refine g_iload_n C dL_setGround_5 rfl 2 rfl ?_
  refine g_iload_n C dL_setGround_6 rfl 3 rfl ?_
  refine g_callVT (As := [.int (iI x), .int (iI y), .int (iI g)]) (wT E bd H ++ [(oc, cj E 1 f)]) C hX (t_X9_setGround_i l E sa hfl o (bd 0) ad T x y g hT (by omega) (by omega) (by omega) hc) mX9_setGround iX9_setGround wd407 0 8 rfl rfl rfl rfl rfl (Nat.le_of_ble_eq_true rfl) ⟨Nat.le_of_ble_eq_true rfl, Nat.le_of_ble_eq_true rfl⟩ ⟨Nat.le_of_ble_eq_true rfl, Nat.le_of_ble_eq_true rfl⟩ rfl dL_setGround_7 ?_
  refine g_tcatch C [(0, 12, 15, 13), (0, 12, 19, 15)] ht [] ⟨0, 12, 15, 13⟩ [⟨0, 12, 19, 15⟩] rfl (fun z hz => absurd hz List.not_mem_nil) rfl (by decide) wd405 hNc.2.1 15 rfl (fun zq => ?_)
  refine g_astore C dL_setGround_15 rfl (by decide) rfl ?_
  exact g_wcat C Z rfl ⟨Nat.le_of_ble_eq_true rfl, Nat.le_of_ble_eq_true rfl⟩ rfl dL_setGround_17 dL_setGround_18
set_option maxHeartbeats 4000000 in
set_option maxRecDepth 100000 in
theorem w_setGround_a (l : Launch) (E : gE) (sa : gTx) (hfl : l.stackTraces = false) (o oc : Nat) (ad bd : Nat → Nat) (T H : gS) (f : Nat → Int64) (x : Int) (y : Int) (g : Int) (hT : okT T) (h_x : (-2147483648 ≤ x ∧ x ≤ 2147483647)) (h_y : (-2147483648 ≤ y ∧ y ≤ 2147483647)) (h_g : (-2147483648 ≤ g ∧ g ≤ 2147483647)) (hc : tC x y) (h : ¬ (0 ≤ g ∧ g ≤ 9)) : gKW l E yL_setGround cL_setGround 6 (some .int) [(0, 12, 15, 13), (0, 12, 19, 15)] rW [.ref o, .int (iI x), .int (iI y), .int (iI g), .ref oc] (wC E o ad bd oc T H f) sa (some (.int (iI 2))) (wC E o ad bd oc T H f) := by
  refine gKW_by RL rfl (by decide) [(0, .ref o), (1, .int (iI x)), (2, .int (iI y)), (3, .int (iI g)), (4, .ref oc)] (Nat.le_of_ble_eq_true rfl) rfl ?_
  intro zp ze zs zm za zb zh zc zA zQ ht C hX hNc Z
  refine g_aload C dL_setGround_0 rfl 4 rfl ?_
  refine g_iconst C dL_setGround_2 rfl ?_
  refine g_aload_n C dL_setGround_3 rfl 0 rfl ?_
  refine g_iload_n C dL_setGround_4 rfl 1 rfl ?_
  refine g_iload_n C dL_setGround_5 rfl 2 rfl ?_
  refine g_iload_n C dL_setGround_6 rfl 3 rfl ?_
  refine g_callVT (As := [.int (iI x), .int (iI y), .int (iI g)]) (wT E bd H ++ [(oc, cj E 1 f)]) C hX (t_X9_setGround_a l E sa hfl o (bd 0) ad T x y g hT (by omega) (by omega) (by omega) hc h) mX9_setGround iX9_setGround wd407 0 8 rfl rfl rfl rfl rfl (Nat.le_of_ble_eq_true rfl) ⟨Nat.le_of_ble_eq_true rfl, Nat.le_of_ble_eq_true rfl⟩ ⟨Nat.le_of_ble_eq_true rfl, Nat.le_of_ble_eq_true rfl⟩ rfl dL_setGround_7 ?_
  refine g_tcatch C [(0, 12, 15, 13), (0, 12, 19, 15)] ht [⟨0, 12, 15, 13⟩] ⟨0, 12, 19, 15⟩ [] rfl (fun z hz => by rw [List.mem_singleton.mp hz]; exact ⟨by decide, xI, wd405, hNc.1.1⟩) rfl (by decide) wd406 hNc.2.2.1 19 rfl (fun zq => ?_)
  refine g_astore C dL_setGround_19 rfl (by decide) rfl ?_
  exact g_wcat C Z rfl ⟨Nat.le_of_ble_eq_true rfl, Nat.le_of_ble_eq_true rfl⟩ rfl dL_setGround_21 dL_setGround_22
set_option maxHeartbeats 4000000 in
set_option maxRecDepth 100000 in
theorem w_lay_0 (l : Launch) (E : gE) (sa : gTx) (hfl : l.stackTraces = false) (o oc : Nat) (ad bd : Nat → Nat) (T H : gS) (f : Nat → Int64) (x : Int) (y : Int) (b : Int) (hT : okT T) (h_x : (-2147483648 ≤ x ∧ x ≤ 2147483647)) (h_y : (-2147483648 ≤ y ∧ y ≤ 2147483647)) (h_b : (-2147483648 ≤ b ∧ b ≤ 2147483647)) (hc : tC x y) (h : 0 ≤ b ∧ b ≤ 5) (h2 : sm (T.1 3) 0 80 - T.1 3 (10 * y + x) + b ≤ 40) : gKW l E yL_lay cL_lay 6 (some .int) [(0, 12, 15, 13), (0, 12, 19, 15), (0, 12, 23, 20)] rW [.ref o, .int (iI x), .int (iI y), .int (iI b), .ref oc] (wC E o ad bd oc T H f) sa (some (.int (iI 0))) (wC E o ad bd oc (setA T 3 (fset (T.1 3) (10 * y + x) b)) H (vp_updL f 0 (lI (sm (T.1 3) 0 80 - T.1 3 (10 * y + x) + b)))) := by
  refine gKW_by RL rfl (by decide) [(0, .ref o), (1, .int (iI x)), (2, .int (iI y)), (3, .int (iI b)), (4, .ref oc)] (Nat.le_of_ble_eq_true rfl) rfl ?_
  intro zp ze zs zm za zb zh zc zA zQ ht C hX hNc Z
  refine g_aload C dL_lay_0 rfl 4 rfl ?_
  refine g_iconst C dL_lay_2 rfl ?_
  refine g_aload_n C dL_lay_3 rfl 0 rfl ?_
  refine g_iload_n C dL_lay_4 rfl 1 rfl ?_
  refine g_iload_n C dL_lay_5 rfl 2 rfl ?_
  refine g_iload_n C dL_lay_6 rfl 3 rfl ?_
  refine g_callV (As := [.int (iI x), .int (iI y), .int (iI b)]) (rv := some (.int (iI (sm (T.1 3) 0 80 - T.1 3 (10 * y + x) + b)))) C (wT E bd H ++ [(oc, cj E 1 f)]) (k_X9_lay l E o (bd 0) ad T x y b hT (by omega) (by omega) (by omega) hc h h2) mX9_lay iX9_lay wd514 0 8 rfl rfl rfl rfl rfl (Nat.le_of_ble_eq_true rfl) ⟨Nat.le_of_ble_eq_true rfl, Nat.le_of_ble_eq_true rfl⟩ ⟨Nat.le_of_ble_eq_true rfl, Nat.le_of_ble_eq_true rfl⟩ rfl dL_lay_7 rfl ?_
  exact g_wfair 15 C Z ⟨Nat.le_of_ble_eq_true rfl, Nat.le_of_ble_eq_true rfl⟩ 65 rfl rfl dL_lay_10 dL_lay_11 dL_lay_12 (by decide) dL_lay_27 dL_lay_28
set_option maxHeartbeats 4000000 in
set_option maxRecDepth 100000 in
theorem w_lay_i (l : Launch) (E : gE) (sa : gTx) (hfl : l.stackTraces = false) (o oc : Nat) (ad bd : Nat → Nat) (T H : gS) (f : Nat → Int64) (x : Int) (y : Int) (b : Int) (hT : okT T) (h_x : (-2147483648 ≤ x ∧ x ≤ 2147483647)) (h_y : (-2147483648 ≤ y ∧ y ≤ 2147483647)) (h_b : (-2147483648 ≤ b ∧ b ≤ 2147483647)) (hc : ¬ tC x y) : gKW l E yL_lay cL_lay 6 (some .int) [(0, 12, 15, 13), (0, 12, 19, 15), (0, 12, 23, 20)] rW [.ref o, .int (iI x), .int (iI y), .int (iI b), .ref oc] (wC E o ad bd oc T H f) sa (some (.int (iI 1))) (wC E o ad bd oc T H f) := by
  refine gKW_by RL rfl (by decide) [(0, .ref o), (1, .int (iI x)), (2, .int (iI y)), (3, .int (iI b)), (4, .ref oc)] (Nat.le_of_ble_eq_true rfl) rfl ?_
  intro zp ze zs zm za zb zh zc zA zQ ht C hX hNc Z
  refine g_aload C dL_lay_0 rfl 4 rfl ?_
  refine g_iconst C dL_lay_2 rfl ?_
  refine g_aload_n C dL_lay_3 rfl 0 rfl ?_
  refine g_iload_n C dL_lay_4 rfl 1 rfl ?_
  refine g_iload_n C dL_lay_5 rfl 2 rfl ?_
  refine g_iload_n C dL_lay_6 rfl 3 rfl ?_
  refine g_callVT (As := [.int (iI x), .int (iI y), .int (iI b)]) (wT E bd H ++ [(oc, cj E 1 f)]) C hX (t_X9_lay_i l E sa hfl o (bd 0) ad T x y b hT (by omega) (by omega) (by omega) hc) mX9_lay iX9_lay wd514 0 8 rfl rfl rfl rfl rfl (Nat.le_of_ble_eq_true rfl) ⟨Nat.le_of_ble_eq_true rfl, Nat.le_of_ble_eq_true rfl⟩ ⟨Nat.le_of_ble_eq_true rfl, Nat.le_of_ble_eq_true rfl⟩ rfl dL_lay_7 ?_
  refine g_tcatch C [(0, 12, 15, 13), (0, 12, 19, 15), (0, 12, 23, 20)] ht [] ⟨0, 12, 15, 13⟩ [⟨0, 12, 19, 15⟩, ⟨0, 12, 23, 20⟩] rfl (fun z hz => absurd hz List.not_mem_nil) rfl (by decide) wd405 hNc.2.1 15 rfl (fun zq => ?_)
  refine g_astore C dL_lay_15 rfl (by decide) rfl ?_
  exact g_wcat C Z rfl ⟨Nat.le_of_ble_eq_true rfl, Nat.le_of_ble_eq_true rfl⟩ rfl dL_lay_17 dL_lay_18
set_option maxHeartbeats 4000000 in
set_option maxRecDepth 100000 in
theorem w_lay_a (l : Launch) (E : gE) (sa : gTx) (hfl : l.stackTraces = false) (o oc : Nat) (ad bd : Nat → Nat) (T H : gS) (f : Nat → Int64) (x : Int) (y : Int) (b : Int) (hT : okT T) (h_x : (-2147483648 ≤ x ∧ x ≤ 2147483647)) (h_y : (-2147483648 ≤ y ∧ y ≤ 2147483647)) (h_b : (-2147483648 ≤ b ∧ b ≤ 2147483647)) (hc : tC x y) (h : ¬ (0 ≤ b ∧ b ≤ 5)) : gKW l E yL_lay cL_lay 6 (some .int) [(0, 12, 15, 13), (0, 12, 19, 15), (0, 12, 23, 20)] rW [.ref o, .int (iI x), .int (iI y), .int (iI b), .ref oc] (wC E o ad bd oc T H f) sa (some (.int (iI 2))) (wC E o ad bd oc T H f) := by
  refine gKW_by RL rfl (by decide) [(0, .ref o), (1, .int (iI x)), (2, .int (iI y)), (3, .int (iI b)), (4, .ref oc)] (Nat.le_of_ble_eq_true rfl) rfl ?_
  intro zp ze zs zm za zb zh zc zA zQ ht C hX hNc Z
  refine g_aload C dL_lay_0 rfl 4 rfl ?_
  refine g_iconst C dL_lay_2 rfl ?_
  refine g_aload_n C dL_lay_3 rfl 0 rfl ?_
  refine g_iload_n C dL_lay_4 rfl 1 rfl ?_
  refine g_iload_n C dL_lay_5 rfl 2 rfl ?_
  refine g_iload_n C dL_lay_6 rfl 3 rfl ?_
  refine g_callVT (As := [.int (iI x), .int (iI y), .int (iI b)]) (wT E bd H ++ [(oc, cj E 1 f)]) C hX (t_X9_lay_a l E sa hfl o (bd 0) ad T x y b hT (by omega) (by omega) (by omega) hc h) mX9_lay iX9_lay wd514 0 8 rfl rfl rfl rfl rfl (Nat.le_of_ble_eq_true rfl) ⟨Nat.le_of_ble_eq_true rfl, Nat.le_of_ble_eq_true rfl⟩ ⟨Nat.le_of_ble_eq_true rfl, Nat.le_of_ble_eq_true rfl⟩ rfl dL_lay_7 ?_
  refine g_tcatch C [(0, 12, 15, 13), (0, 12, 19, 15), (0, 12, 23, 20)] ht [⟨0, 12, 15, 13⟩] ⟨0, 12, 19, 15⟩ [⟨0, 12, 23, 20⟩] rfl (fun z hz => by rw [List.mem_singleton.mp hz]; exact ⟨by decide, xI, wd405, hNc.1.1⟩) rfl (by decide) wd406 hNc.2.2.1 19 rfl (fun zq => ?_)
  refine g_astore C dL_lay_19 rfl (by decide) rfl ?_
  exact g_wcat C Z rfl ⟨Nat.le_of_ble_eq_true rfl, Nat.le_of_ble_eq_true rfl⟩ rfl dL_lay_21 dL_lay_22
set_option maxHeartbeats 4000000 in
set_option maxRecDepth 100000 in
theorem w_lay_s (l : Launch) (E : gE) (sa : gTx) (hfl : l.stackTraces = false) (o oc : Nat) (ad bd : Nat → Nat) (T H : gS) (f : Nat → Int64) (x : Int) (y : Int) (b : Int) (hT : okT T) (h_x : (-2147483648 ≤ x ∧ x ≤ 2147483647)) (h_y : (-2147483648 ≤ y ∧ y ≤ 2147483647)) (h_b : (-2147483648 ≤ b ∧ b ≤ 2147483647)) (hc : tC x y) (h : 0 ≤ b ∧ b ≤ 5) (h2 : ¬ sm (T.1 3) 0 80 - T.1 3 (10 * y + x) + b ≤ 40) : gKW l E yL_lay cL_lay 6 (some .int) [(0, 12, 15, 13), (0, 12, 19, 15), (0, 12, 23, 20)] rW [.ref o, .int (iI x), .int (iI y), .int (iI b), .ref oc] (wC E o ad bd oc T H f) sa (some (.int (iI 3))) (wC E o ad bd oc T H f) := by
  refine gKW_by RL rfl (by decide) [(0, .ref o), (1, .int (iI x)), (2, .int (iI y)), (3, .int (iI b)), (4, .ref oc)] (Nat.le_of_ble_eq_true rfl) rfl ?_
  intro zp ze zs zm za zb zh zc zA zQ ht C hX hNc Z
  refine g_aload C dL_lay_0 rfl 4 rfl ?_
  refine g_iconst C dL_lay_2 rfl ?_
  refine g_aload_n C dL_lay_3 rfl 0 rfl ?_
  refine g_iload_n C dL_lay_4 rfl 1 rfl ?_
  refine g_iload_n C dL_lay_5 rfl 2 rfl ?_
  refine g_iload_n C dL_lay_6 rfl 3 rfl ?_
  refine g_callVT (As := [.int (iI x), .int (iI y), .int (iI b)]) (wT E bd H ++ [(oc, cj E 1 f)]) C hX (t_X9_lay_s l E sa hfl o (bd 0) ad T x y b hT (by omega) (by omega) (by omega) hc h h2) mX9_lay iX9_lay wd514 0 8 rfl rfl rfl rfl rfl (Nat.le_of_ble_eq_true rfl) ⟨Nat.le_of_ble_eq_true rfl, Nat.le_of_ble_eq_true rfl⟩ ⟨Nat.le_of_ble_eq_true rfl, Nat.le_of_ble_eq_true rfl⟩ rfl dL_lay_7 ?_
  refine g_tcatch C [(0, 12, 15, 13), (0, 12, 19, 15), (0, 12, 23, 20)] ht [⟨0, 12, 15, 13⟩, ⟨0, 12, 19, 15⟩] ⟨0, 12, 23, 20⟩ [] rfl (fun z hz => by
    rcases List.mem_cons.mp hz with e | e
    · rw [e]; exact ⟨by decide, xI, wd405, hNc.1.2.1⟩
    · rw [List.mem_singleton.mp e]; exact ⟨by decide, xA, wd406, hNc.1.2.2.1⟩) rfl (by decide) wd513 hNc.2.2.2 23 rfl (fun zq => ?_)
  refine g_astore C dL_lay_23 rfl (by decide) rfl ?_
  exact g_wcat C Z rfl ⟨Nat.le_of_ble_eq_true rfl, Nat.le_of_ble_eq_true rfl⟩ rfl dL_lay_25 dL_lay_26
set_option maxHeartbeats 4000000 in
set_option maxRecDepth 100000 in
theorem w_setRiver_0 (l : Launch) (E : gE) (sa : gTx) (hfl : l.stackTraces = false) (o oc : Nat) (ad bd : Nat → Nat) (T H : gS) (f : Nat → Int64) (k : Int) (v : Int) (hT : okT T) (h_k : (-2147483648 ≤ k ∧ k ≤ 2147483647)) (h_v : (-2147483648 ≤ v ∧ v ≤ 2147483647)) (h : 0 ≤ k ∧ k ≤ 11) (h2 : 0 ≤ v ∧ v ≤ 12) : gKW l E yL_setRiver cL_setRiver 5 (some .int) [(0, 10, 13, 13), (0, 10, 17, 15)] rW [.ref o, .int (iI k), .int (iI v), .ref oc] (wC E o ad bd oc T H f) sa (some (.int (iI 0))) (wC E o ad bd oc (setA T 6 (fset (T.1 6) k v)) H (vp_updL f 0 (lI (T.1 6 k)))) := by
  refine gKW_by RL rfl (by decide) [(0, .ref o), (1, .int (iI k)), (2, .int (iI v)), (3, .ref oc)] (Nat.le_of_ble_eq_true rfl) rfl ?_
  intro zp ze zs zm za zb zh zc zA zQ ht C hX hNc Z
  refine g_aload_n C dL_setRiver_0 rfl 3 rfl ?_
  refine g_iconst C dL_setRiver_1 rfl ?_
  refine g_aload_n C dL_setRiver_2 rfl 0 rfl ?_
  refine g_iload_n C dL_setRiver_3 rfl 1 rfl ?_
  refine g_iload_n C dL_setRiver_4 rfl 2 rfl ?_
  refine g_callV (As := [.int (iI k), .int (iI v)]) (rv := some (.int (iI (T.1 6 k)))) C (wT E bd H ++ [(oc, cj E 1 f)]) (k_X9_setRiver l E o (bd 0) ad T k v hT (by omega) (by omega) h h2) mX9_setRiver iX9_setRiver wd541 0 8 rfl rfl rfl rfl rfl (Nat.le_of_ble_eq_true rfl) ⟨Nat.le_of_ble_eq_true rfl, Nat.le_of_ble_eq_true rfl⟩ ⟨Nat.le_of_ble_eq_true rfl, Nat.le_of_ble_eq_true rfl⟩ rfl dL_setRiver_5 rfl ?_
  exact g_wfair 11 C Z ⟨Nat.le_of_ble_eq_true rfl, Nat.le_of_ble_eq_true rfl⟩ 65 rfl rfl dL_setRiver_8 dL_setRiver_9 dL_setRiver_10 (by decide) dL_setRiver_21 dL_setRiver_22
set_option maxHeartbeats 4000000 in
set_option maxRecDepth 100000 in
theorem w_setRiver_i (l : Launch) (E : gE) (sa : gTx) (hfl : l.stackTraces = false) (o oc : Nat) (ad bd : Nat → Nat) (T H : gS) (f : Nat → Int64) (k : Int) (v : Int) (hT : okT T) (h_k : (-2147483648 ≤ k ∧ k ≤ 2147483647)) (h_v : (-2147483648 ≤ v ∧ v ≤ 2147483647)) (h : ¬ (0 ≤ k ∧ k ≤ 11)) : gKW l E yL_setRiver cL_setRiver 5 (some .int) [(0, 10, 13, 13), (0, 10, 17, 15)] rW [.ref o, .int (iI k), .int (iI v), .ref oc] (wC E o ad bd oc T H f) sa (some (.int (iI 1))) (wC E o ad bd oc T H f) := by
  refine gKW_by RL rfl (by decide) [(0, .ref o), (1, .int (iI k)), (2, .int (iI v)), (3, .ref oc)] (Nat.le_of_ble_eq_true rfl) rfl ?_
  intro zp ze zs zm za zb zh zc zA zQ ht C hX hNc Z
  refine g_aload_n C dL_setRiver_0 rfl 3 rfl ?_
  refine g_iconst C dL_setRiver_1 rfl ?_
  refine g_aload_n C dL_setRiver_2 rfl 0 rfl ?_
  refine g_iload_n C dL_setRiver_3 rfl 1 rfl ?_
  refine g_iload_n C dL_setRiver_4 rfl 2 rfl ?_
  refine g_callVT (As := [.int (iI k), .int (iI v)]) (wT E bd H ++ [(oc, cj E 1 f)]) C hX (t_X9_setRiver_i l E sa hfl o (bd 0) ad T k v hT (by omega) (by omega) h) mX9_setRiver iX9_setRiver wd541 0 8 rfl rfl rfl rfl rfl (Nat.le_of_ble_eq_true rfl) ⟨Nat.le_of_ble_eq_true rfl, Nat.le_of_ble_eq_true rfl⟩ ⟨Nat.le_of_ble_eq_true rfl, Nat.le_of_ble_eq_true rfl⟩ rfl dL_setRiver_5 ?_
  refine g_tcatch C [(0, 10, 13, 13), (0, 10, 17, 15)] ht [] ⟨0, 10, 13, 13⟩ [⟨0, 10, 17, 15⟩] rfl (fun z hz => absurd hz List.not_mem_nil) rfl (by decide) wd405 hNc.2.1 13 rfl (fun zq => ?_)
  refine g_astore C dL_setRiver_13 rfl (by decide) rfl ?_
  exact g_wcat C Z rfl ⟨Nat.le_of_ble_eq_true rfl, Nat.le_of_ble_eq_true rfl⟩ rfl dL_setRiver_15 dL_setRiver_16
set_option maxHeartbeats 4000000 in
set_option maxRecDepth 100000 in
theorem w_setRiver_a (l : Launch) (E : gE) (sa : gTx) (hfl : l.stackTraces = false) (o oc : Nat) (ad bd : Nat → Nat) (T H : gS) (f : Nat → Int64) (k : Int) (v : Int) (hT : okT T) (h_k : (-2147483648 ≤ k ∧ k ≤ 2147483647)) (h_v : (-2147483648 ≤ v ∧ v ≤ 2147483647)) (h : 0 ≤ k ∧ k ≤ 11) (h2 : ¬ (0 ≤ v ∧ v ≤ 12)) : gKW l E yL_setRiver cL_setRiver 5 (some .int) [(0, 10, 13, 13), (0, 10, 17, 15)] rW [.ref o, .int (iI k), .int (iI v), .ref oc] (wC E o ad bd oc T H f) sa (some (.int (iI 2))) (wC E o ad bd oc T H f) := by
  refine gKW_by RL rfl (by decide) [(0, .ref o), (1, .int (iI k)), (2, .int (iI v)), (3, .ref oc)] (Nat.le_of_ble_eq_true rfl) rfl ?_
  intro zp ze zs zm za zb zh zc zA zQ ht C hX hNc Z
  refine g_aload_n C dL_setRiver_0 rfl 3 rfl ?_
  refine g_iconst C dL_setRiver_1 rfl ?_
  refine g_aload_n C dL_setRiver_2 rfl 0 rfl ?_
  refine g_iload_n C dL_setRiver_3 rfl 1 rfl ?_
  refine g_iload_n C dL_setRiver_4 rfl 2 rfl ?_
  refine g_callVT (As := [.int (iI k), .int (iI v)]) (wT E bd H ++ [(oc, cj E 1 f)]) C hX (t_X9_setRiver_a l E sa hfl o (bd 0) ad T k v hT (by omega) (by omega) h h2) mX9_setRiver iX9_setRiver wd541 0 8 rfl rfl rfl rfl rfl (Nat.le_of_ble_eq_true rfl) ⟨Nat.le_of_ble_eq_true rfl, Nat.le_of_ble_eq_true rfl⟩ ⟨Nat.le_of_ble_eq_true rfl, Nat.le_of_ble_eq_true rfl⟩ rfl dL_setRiver_5 ?_
  refine g_tcatch C [(0, 10, 13, 13), (0, 10, 17, 15)] ht [⟨0, 10, 13, 13⟩] ⟨0, 10, 17, 15⟩ [] rfl (fun z hz => by rw [List.mem_singleton.mp hz]; exact ⟨by decide, xI, wd405, hNc.1.1⟩) rfl (by decide) wd406 hNc.2.2.1 17 rfl (fun zq => ?_)
  refine g_astore C dL_setRiver_17 rfl (by decide) rfl ?_
  exact g_wcat C Z rfl ⟨Nat.le_of_ble_eq_true rfl, Nat.le_of_ble_eq_true rfl⟩ rfl dL_setRiver_19 dL_setRiver_20
set_option maxHeartbeats 4000000 in
set_option maxRecDepth 100000 in
theorem w_addPump_0 (l : Launch) (E : gE) (sa : gTx) (hfl : l.stackTraces = false) (o oc : Nat) (ad bd : Nat → Nat) (T H : gS) (f : Nat → Int64) (x : Int) (y : Int) (p : Int) (f9 : Int) (hT : okT T) (h_x : (-2147483648 ≤ x ∧ x ≤ 2147483647)) (h_y : (-2147483648 ≤ y ∧ y ≤ 2147483647)) (h_p : (-2147483648 ≤ p ∧ p ≤ 2147483647)) (h_f9 : (-2147483648 ≤ f9 ∧ f9 ≤ 2147483647)) (hc : tC x y) (h : (1 ≤ p ∧ p ≤ 5) ∧ 0 ≤ f9 ∧ f9 ≤ 30) (h2 : T.2 1 < 5 ∧ fstI (T.1 8) (10 * y + x) (T.2 1).toNat = -1) : gKW l E yL_addPump cL_addPump 7 (some .int) [(0, 14, 17, 13), (0, 14, 21, 15), (0, 14, 25, 20)] rW [.ref o, .int (iI x), .int (iI y), .int (iI p), .int (iI f9), .ref oc] (wC E o ad bd oc T H f) sa (some (.int (iI 0))) (wC E o ad bd oc (setUpS T (10 * y + x) p f9) H (vp_updL f 0 (lI (T.2 1)))) := by
  refine gKW_by RL rfl (by decide) [(0, .ref o), (1, .int (iI x)), (2, .int (iI y)), (3, .int (iI p)), (4, .int (iI f9)), (5, .ref oc)] (Nat.le_of_ble_eq_true rfl) rfl ?_
  intro zp ze zs zm za zb zh zc zA zQ ht C hX hNc Z
  refine g_aload C dL_addPump_0 rfl 5 rfl ?_
  refine g_iconst C dL_addPump_2 rfl ?_
  refine g_aload_n C dL_addPump_3 rfl 0 rfl ?_
  refine g_iload_n C dL_addPump_4 rfl 1 rfl ?_
  refine g_iload_n C dL_addPump_5 rfl 2 rfl ?_
  refine g_iload_n C dL_addPump_6 rfl 3 rfl ?_
  refine g_iload C dL_addPump_7 rfl 4 rfl ?_
  refine g_callV (As := [.int (iI x), .int (iI y), .int (iI p), .int (iI f9)]) (rv := some (.int (iI (T.2 1)))) C (wT E bd H ++ [(oc, cj E 1 f)]) (k_X9_addPump l E o (bd 0) ad T x y p f9 hT (by omega) (by omega) (by omega) (by omega) hc h h2) mX9_addPump iX9_addPump wd548 0 8 rfl rfl rfl rfl rfl (Nat.le_of_ble_eq_true rfl) ⟨Nat.le_of_ble_eq_true rfl, Nat.le_of_ble_eq_true rfl⟩ ⟨Nat.le_of_ble_eq_true rfl, Nat.le_of_ble_eq_true rfl⟩ rfl dL_addPump_9 rfl ?_
  exact g_wfair 15 C Z ⟨Nat.le_of_ble_eq_true rfl, Nat.le_of_ble_eq_true rfl⟩ 65 rfl rfl dL_addPump_12 dL_addPump_13 dL_addPump_14 (by decide) dL_addPump_29 dL_addPump_30
set_option maxHeartbeats 4000000 in
set_option maxRecDepth 100000 in
theorem w_addPump_i (l : Launch) (E : gE) (sa : gTx) (hfl : l.stackTraces = false) (o oc : Nat) (ad bd : Nat → Nat) (T H : gS) (f : Nat → Int64) (x : Int) (y : Int) (p : Int) (f9 : Int) (hT : okT T) (h_x : (-2147483648 ≤ x ∧ x ≤ 2147483647)) (h_y : (-2147483648 ≤ y ∧ y ≤ 2147483647)) (h_p : (-2147483648 ≤ p ∧ p ≤ 2147483647)) (h_f9 : (-2147483648 ≤ f9 ∧ f9 ≤ 2147483647)) (hc : ¬ tC x y) : gKW l E yL_addPump cL_addPump 7 (some .int) [(0, 14, 17, 13), (0, 14, 21, 15), (0, 14, 25, 20)] rW [.ref o, .int (iI x), .int (iI y), .int (iI p), .int (iI f9), .ref oc] (wC E o ad bd oc T H f) sa (some (.int (iI 1))) (wC E o ad bd oc T H f) := by
  refine gKW_by RL rfl (by decide) [(0, .ref o), (1, .int (iI x)), (2, .int (iI y)), (3, .int (iI p)), (4, .int (iI f9)), (5, .ref oc)] (Nat.le_of_ble_eq_true rfl) rfl ?_
  intro zp ze zs zm za zb zh zc zA zQ ht C hX hNc Z
  refine g_aload C dL_addPump_0 rfl 5 rfl ?_
  refine g_iconst C dL_addPump_2 rfl ?_
  refine g_aload_n C dL_addPump_3 rfl 0 rfl ?_
  refine g_iload_n C dL_addPump_4 rfl 1 rfl ?_
  refine g_iload_n C dL_addPump_5 rfl 2 rfl ?_
  refine g_iload_n C dL_addPump_6 rfl 3 rfl ?_
  refine g_iload C dL_addPump_7 rfl 4 rfl ?_
  refine g_callVT (As := [.int (iI x), .int (iI y), .int (iI p), .int (iI f9)]) (wT E bd H ++ [(oc, cj E 1 f)]) C hX (t_X9_addPump_i l E sa hfl o (bd 0) ad T x y p f9 hT (by omega) (by omega) (by omega) (by omega) hc) mX9_addPump iX9_addPump wd548 0 8 rfl rfl rfl rfl rfl (Nat.le_of_ble_eq_true rfl) ⟨Nat.le_of_ble_eq_true rfl, Nat.le_of_ble_eq_true rfl⟩ ⟨Nat.le_of_ble_eq_true rfl, Nat.le_of_ble_eq_true rfl⟩ rfl dL_addPump_9 ?_
  refine g_tcatch C [(0, 14, 17, 13), (0, 14, 21, 15), (0, 14, 25, 20)] ht [] ⟨0, 14, 17, 13⟩ [⟨0, 14, 21, 15⟩, ⟨0, 14, 25, 20⟩] rfl (fun z hz => absurd hz List.not_mem_nil) rfl (by decide) wd405 hNc.2.1 17 rfl (fun zq => ?_)
  refine g_astore C dL_addPump_17 rfl (by decide) rfl ?_
  exact g_wcat C Z rfl ⟨Nat.le_of_ble_eq_true rfl, Nat.le_of_ble_eq_true rfl⟩ rfl dL_addPump_19 dL_addPump_20
set_option maxHeartbeats 4000000 in
set_option maxRecDepth 100000 in
theorem w_addPump_a (l : Launch) (E : gE) (sa : gTx) (hfl : l.stackTraces = false) (o oc : Nat) (ad bd : Nat → Nat) (T H : gS) (f : Nat → Int64) (x : Int) (y : Int) (p : Int) (f9 : Int) (hT : okT T) (h_x : (-2147483648 ≤ x ∧ x ≤ 2147483647)) (h_y : (-2147483648 ≤ y ∧ y ≤ 2147483647)) (h_p : (-2147483648 ≤ p ∧ p ≤ 2147483647)) (h_f9 : (-2147483648 ≤ f9 ∧ f9 ≤ 2147483647)) (hc : tC x y) (h : ¬ ((1 ≤ p ∧ p ≤ 5) ∧ 0 ≤ f9 ∧ f9 ≤ 30)) : gKW l E yL_addPump cL_addPump 7 (some .int) [(0, 14, 17, 13), (0, 14, 21, 15), (0, 14, 25, 20)] rW [.ref o, .int (iI x), .int (iI y), .int (iI p), .int (iI f9), .ref oc] (wC E o ad bd oc T H f) sa (some (.int (iI 2))) (wC E o ad bd oc T H f) := by
  refine gKW_by RL rfl (by decide) [(0, .ref o), (1, .int (iI x)), (2, .int (iI y)), (3, .int (iI p)), (4, .int (iI f9)), (5, .ref oc)] (Nat.le_of_ble_eq_true rfl) rfl ?_
  intro zp ze zs zm za zb zh zc zA zQ ht C hX hNc Z
  refine g_aload C dL_addPump_0 rfl 5 rfl ?_
  refine g_iconst C dL_addPump_2 rfl ?_
  refine g_aload_n C dL_addPump_3 rfl 0 rfl ?_
  refine g_iload_n C dL_addPump_4 rfl 1 rfl ?_
  refine g_iload_n C dL_addPump_5 rfl 2 rfl ?_
  refine g_iload_n C dL_addPump_6 rfl 3 rfl ?_
  refine g_iload C dL_addPump_7 rfl 4 rfl ?_
  refine g_callVT (As := [.int (iI x), .int (iI y), .int (iI p), .int (iI f9)]) (wT E bd H ++ [(oc, cj E 1 f)]) C hX (t_X9_addPump_a l E sa hfl o (bd 0) ad T x y p f9 hT (by omega) (by omega) (by omega) (by omega) hc h) mX9_addPump iX9_addPump wd548 0 8 rfl rfl rfl rfl rfl (Nat.le_of_ble_eq_true rfl) ⟨Nat.le_of_ble_eq_true rfl, Nat.le_of_ble_eq_true rfl⟩ ⟨Nat.le_of_ble_eq_true rfl, Nat.le_of_ble_eq_true rfl⟩ rfl dL_addPump_9 ?_
  refine g_tcatch C [(0, 14, 17, 13), (0, 14, 21, 15), (0, 14, 25, 20)] ht [⟨0, 14, 17, 13⟩] ⟨0, 14, 21, 15⟩ [⟨0, 14, 25, 20⟩] rfl (fun z hz => by rw [List.mem_singleton.mp hz]; exact ⟨by decide, xI, wd405, hNc.1.1⟩) rfl (by decide) wd406 hNc.2.2.1 21 rfl (fun zq => ?_)
  refine g_astore C dL_addPump_21 rfl (by decide) rfl ?_
  exact g_wcat C Z rfl ⟨Nat.le_of_ble_eq_true rfl, Nat.le_of_ble_eq_true rfl⟩ rfl dL_addPump_23 dL_addPump_24
set_option maxHeartbeats 4000000 in
set_option maxRecDepth 100000 in
theorem w_addPump_s (l : Launch) (E : gE) (sa : gTx) (hfl : l.stackTraces = false) (o oc : Nat) (ad bd : Nat → Nat) (T H : gS) (f : Nat → Int64) (x : Int) (y : Int) (p : Int) (f9 : Int) (hT : okT T) (h_x : (-2147483648 ≤ x ∧ x ≤ 2147483647)) (h_y : (-2147483648 ≤ y ∧ y ≤ 2147483647)) (h_p : (-2147483648 ≤ p ∧ p ≤ 2147483647)) (h_f9 : (-2147483648 ≤ f9 ∧ f9 ≤ 2147483647)) (hc : tC x y) (h : (1 ≤ p ∧ p ≤ 5) ∧ 0 ≤ f9 ∧ f9 ≤ 30) (h2 : ¬ (T.2 1 < 5 ∧ fstI (T.1 8) (10 * y + x) (T.2 1).toNat = -1)) : gKW l E yL_addPump cL_addPump 7 (some .int) [(0, 14, 17, 13), (0, 14, 21, 15), (0, 14, 25, 20)] rW [.ref o, .int (iI x), .int (iI y), .int (iI p), .int (iI f9), .ref oc] (wC E o ad bd oc T H f) sa (some (.int (iI 3))) (wC E o ad bd oc T H f) := by
  refine gKW_by RL rfl (by decide) [(0, .ref o), (1, .int (iI x)), (2, .int (iI y)), (3, .int (iI p)), (4, .int (iI f9)), (5, .ref oc)] (Nat.le_of_ble_eq_true rfl) rfl ?_
  intro zp ze zs zm za zb zh zc zA zQ ht C hX hNc Z
  refine g_aload C dL_addPump_0 rfl 5 rfl ?_
  refine g_iconst C dL_addPump_2 rfl ?_
  refine g_aload_n C dL_addPump_3 rfl 0 rfl ?_
  refine g_iload_n C dL_addPump_4 rfl 1 rfl ?_
  refine g_iload_n C dL_addPump_5 rfl 2 rfl ?_
  refine g_iload_n C dL_addPump_6 rfl 3 rfl ?_
  refine g_iload C dL_addPump_7 rfl 4 rfl ?_
  refine g_callVT (As := [.int (iI x), .int (iI y), .int (iI p), .int (iI f9)]) (wT E bd H ++ [(oc, cj E 1 f)]) C hX (t_X9_addPump_s l E sa hfl o (bd 0) ad T x y p f9 hT (by omega) (by omega) (by omega) (by omega) hc h h2) mX9_addPump iX9_addPump wd548 0 8 rfl rfl rfl rfl rfl (Nat.le_of_ble_eq_true rfl) ⟨Nat.le_of_ble_eq_true rfl, Nat.le_of_ble_eq_true rfl⟩ ⟨Nat.le_of_ble_eq_true rfl, Nat.le_of_ble_eq_true rfl⟩ rfl dL_addPump_9 ?_
  refine g_tcatch C [(0, 14, 17, 13), (0, 14, 21, 15), (0, 14, 25, 20)] ht [⟨0, 14, 17, 13⟩, ⟨0, 14, 21, 15⟩] ⟨0, 14, 25, 20⟩ [] rfl (fun z hz => by
    rcases List.mem_cons.mp hz with e | e
    · rw [e]; exact ⟨by decide, xI, wd405, hNc.1.2.1⟩
    · rw [List.mem_singleton.mp e]; exact ⟨by decide, xA, wd406, hNc.1.2.2.1⟩) rfl (by decide) wd513 hNc.2.2.2 25 rfl (fun zq => ?_)
  refine g_astore C dL_addPump_25 rfl (by decide) rfl ?_
  exact g_wcat C Z rfl ⟨Nat.le_of_ble_eq_true rfl, Nat.le_of_ble_eq_true rfl⟩ rfl dL_addPump_27 dL_addPump_28
set_option maxHeartbeats 4000000 in
set_option maxRecDepth 100000 in
theorem w_run_0 (l : Launch) (E : gE) (sa : gTx) (hfl : l.stackTraces = false) (o oc : Nat) (ad bd : Nat → Nat) (T H : gS) (f : Nat → Int64) (p : Int) (hT : okT T) (h_p : (-2147483648 ≤ p ∧ p ≤ 2147483647)) (h : 0 ≤ p ∧ p < T.2 1) : gKW l E yL_run cL_run 4 (some .int) [(0, 16, 19, 13)] rW [.ref o, .int (iI p), .ref oc] (wC E o ad bd oc T H f) sa (some (.int (iI 0))) (wC E o ad bd oc (setA T 11 (fset (T.1 11) p (bI (T.1 11 p = 0)))) H (vp_updL f 0 (lI (bI (T.1 11 p = 0))))) := by
  refine gKW_by RL rfl (by decide) [(0, .ref o), (1, .int (iI p)), (2, .ref oc)] (Nat.le_of_ble_eq_true rfl) rfl ?_
  intro zp ze zs zm za zb zh zc zA zQ ht C hX hNc Z
  refine g_aload_n C dL_run_0 rfl 2 rfl ?_
  refine g_iconst C dL_run_1 rfl ?_
  refine g_aload_n C dL_run_2 rfl 0 rfl ?_
  refine g_iload_n C dL_run_3 rfl 1 rfl ?_
  refine g_callV (As := [.int (iI p)]) (rv := some (.int (iI (bI (T.1 11 p = 0))))) C (wT E bd H ++ [(oc, cj E 1 f)]) (k_X9_run l E o (bd 0) ad T p hT (by omega) h) mX9_run iX9_run wd583 0 8 rfl rfl rfl rfl rfl (Nat.le_of_ble_eq_true rfl) ⟨Nat.le_of_ble_eq_true rfl, Nat.le_of_ble_eq_true rfl⟩ ⟨Nat.le_of_ble_eq_true rfl, Nat.le_of_ble_eq_true rfl⟩ rfl dL_run_4 rfl ?_
  have hb := bI_w (T.1 11 p = 0)
  refine g_widen (kc' := rW.cells) (ks' := rW.slots) (by decide) (by decide) ?_
  refine g_if_eq C dL_run_7 14 (by decide) rfl (by omega) (fun c7 => ?_) (fun c7 => ?_)
  · refine g_lconst (v := lI (bI (T.1 11 p = 0))) C dL_run_14 rfl (by rw [c7]; decide +kernel) ?_
    refine g_last C dL_run_15 rfl 65 rfl ⟨Int.le_refl 0, by omega⟩ (by omega) rfl ?_
    refine g_goto C dL_run_16 22 (by decide) ?_
    refine g_iconst C dL_run_22 rfl ?_
    exact z_iret C Z rfl dL_run_23 rfl rfl
  · have e1 : bI (T.1 11 p = 0) = 1 := by omega
    refine g_lconst (v := lI (bI (T.1 11 p = 0))) C dL_run_10 rfl (by rw [e1]; decide +kernel) ?_
    refine g_goto C dL_run_11 15 (by decide) ?_
    refine g_last C dL_run_15 rfl 65 rfl ⟨Int.le_refl 0, by omega⟩ (by omega) rfl ?_
    refine g_goto C dL_run_16 22 (by decide) ?_
    refine g_iconst C dL_run_22 rfl ?_
    exact z_iret C Z rfl dL_run_23 rfl rfl
set_option maxHeartbeats 4000000 in
set_option maxRecDepth 100000 in
theorem w_run_i (l : Launch) (E : gE) (sa : gTx) (hfl : l.stackTraces = false) (o oc : Nat) (ad bd : Nat → Nat) (T H : gS) (f : Nat → Int64) (p : Int) (hT : okT T) (h_p : (-2147483648 ≤ p ∧ p ≤ 2147483647)) (h : ¬ (0 ≤ p ∧ p < T.2 1)) : gKW l E yL_run cL_run 4 (some .int) [(0, 16, 19, 13)] rW [.ref o, .int (iI p), .ref oc] (wC E o ad bd oc T H f) sa (some (.int (iI 1))) (wC E o ad bd oc T H f) := by
  refine gKW_by RL rfl (by decide) [(0, .ref o), (1, .int (iI p)), (2, .ref oc)] (Nat.le_of_ble_eq_true rfl) rfl ?_
  intro zp ze zs zm za zb zh zc zA zQ ht C hX hNc Z
  refine g_aload_n C dL_run_0 rfl 2 rfl ?_
  refine g_iconst C dL_run_1 rfl ?_
  refine g_aload_n C dL_run_2 rfl 0 rfl ?_
  refine g_iload_n C dL_run_3 rfl 1 rfl ?_
  refine g_callVT (As := [.int (iI p)]) (wT E bd H ++ [(oc, cj E 1 f)]) C hX (t_X9_run_i l E sa hfl o (bd 0) ad T p hT (by omega) h) mX9_run iX9_run wd583 0 8 rfl rfl rfl rfl rfl (Nat.le_of_ble_eq_true rfl) ⟨Nat.le_of_ble_eq_true rfl, Nat.le_of_ble_eq_true rfl⟩ ⟨Nat.le_of_ble_eq_true rfl, Nat.le_of_ble_eq_true rfl⟩ rfl dL_run_4 ?_
  refine g_tcatch C [(0, 16, 19, 13)] ht [] ⟨0, 16, 19, 13⟩ [] rfl (fun z hz => absurd hz List.not_mem_nil) rfl (by decide) wd405 hNc.2.1 19 rfl (fun zq => ?_)
  refine g_astore_n C dL_run_19 rfl (by decide) rfl ?_
  exact g_wcat C Z rfl ⟨Nat.le_of_ble_eq_true rfl, Nat.le_of_ble_eq_true rfl⟩ rfl dL_run_20 dL_run_21
set_option maxHeartbeats 4000000 in
set_option maxRecDepth 100000 in
theorem w_addGauge_0 (l : Launch) (E : gE) (sa : gTx) (hfl : l.stackTraces = false) (o oc : Nat) (ad bd : Nat → Nat) (T H : gS) (f : Nat → Int64) (x : Int) (y : Int) (mk : Int) (hT : okT T) (h_x : (-2147483648 ≤ x ∧ x ≤ 2147483647)) (h_y : (-2147483648 ≤ y ∧ y ≤ 2147483647)) (h_mk : (-2147483648 ≤ mk ∧ mk ≤ 2147483647)) (hc : tC x y) (h : 1 ≤ mk ∧ mk ≤ 20) (h2 : T.2 2 < 4 ∧ fstI (T.1 14) (10 * y + x) (T.2 2).toNat = -1) : gKW l E yL_addGauge cL_addGauge 6 (some .int) [(0, 12, 15, 13), (0, 12, 19, 15), (0, 12, 23, 20)] rW [.ref o, .int (iI x), .int (iI y), .int (iI mk), .ref oc] (wC E o ad bd oc T H f) sa (some (.int (iI 0))) (wC E o ad bd oc (hangS T (10 * y + x) mk) H (vp_updL f 0 (lI (T.2 2)))) := by
  refine gKW_by RL rfl (by decide) [(0, .ref o), (1, .int (iI x)), (2, .int (iI y)), (3, .int (iI mk)), (4, .ref oc)] (Nat.le_of_ble_eq_true rfl) rfl ?_
  intro zp ze zs zm za zb zh zc zA zQ ht C hX hNc Z
  refine g_aload C dL_addGauge_0 rfl 4 rfl ?_
  refine g_iconst C dL_addGauge_2 rfl ?_
  refine g_aload_n C dL_addGauge_3 rfl 0 rfl ?_
  refine g_iload_n C dL_addGauge_4 rfl 1 rfl ?_
  refine g_iload_n C dL_addGauge_5 rfl 2 rfl ?_
  refine g_iload_n C dL_addGauge_6 rfl 3 rfl ?_
  refine g_callV (As := [.int (iI x), .int (iI y), .int (iI mk)]) (rv := some (.int (iI (T.2 2)))) C (wT E bd H ++ [(oc, cj E 1 f)]) (k_X9_addGauge l E o (bd 0) ad T x y mk hT (by omega) (by omega) (by omega) hc h h2) mX9_addGauge iX9_addGauge wd596 0 8 rfl rfl rfl rfl rfl (Nat.le_of_ble_eq_true rfl) ⟨Nat.le_of_ble_eq_true rfl, Nat.le_of_ble_eq_true rfl⟩ ⟨Nat.le_of_ble_eq_true rfl, Nat.le_of_ble_eq_true rfl⟩ rfl dL_addGauge_7 rfl ?_
  exact g_wfair 15 C Z ⟨Nat.le_of_ble_eq_true rfl, Nat.le_of_ble_eq_true rfl⟩ 65 rfl rfl dL_addGauge_10 dL_addGauge_11 dL_addGauge_12 (by decide) dL_addGauge_27 dL_addGauge_28
set_option maxHeartbeats 4000000 in
set_option maxRecDepth 100000 in
theorem w_addGauge_i (l : Launch) (E : gE) (sa : gTx) (hfl : l.stackTraces = false) (o oc : Nat) (ad bd : Nat → Nat) (T H : gS) (f : Nat → Int64) (x : Int) (y : Int) (mk : Int) (hT : okT T) (h_x : (-2147483648 ≤ x ∧ x ≤ 2147483647)) (h_y : (-2147483648 ≤ y ∧ y ≤ 2147483647)) (h_mk : (-2147483648 ≤ mk ∧ mk ≤ 2147483647)) (hc : ¬ tC x y) : gKW l E yL_addGauge cL_addGauge 6 (some .int) [(0, 12, 15, 13), (0, 12, 19, 15), (0, 12, 23, 20)] rW [.ref o, .int (iI x), .int (iI y), .int (iI mk), .ref oc] (wC E o ad bd oc T H f) sa (some (.int (iI 1))) (wC E o ad bd oc T H f) := by
  refine gKW_by RL rfl (by decide) [(0, .ref o), (1, .int (iI x)), (2, .int (iI y)), (3, .int (iI mk)), (4, .ref oc)] (Nat.le_of_ble_eq_true rfl) rfl ?_
  intro zp ze zs zm za zb zh zc zA zQ ht C hX hNc Z
  refine g_aload C dL_addGauge_0 rfl 4 rfl ?_
  refine g_iconst C dL_addGauge_2 rfl ?_
  refine g_aload_n C dL_addGauge_3 rfl 0 rfl ?_
  refine g_iload_n C dL_addGauge_4 rfl 1 rfl ?_
  refine g_iload_n C dL_addGauge_5 rfl 2 rfl ?_
  refine g_iload_n C dL_addGauge_6 rfl 3 rfl ?_
  refine g_callVT (As := [.int (iI x), .int (iI y), .int (iI mk)]) (wT E bd H ++ [(oc, cj E 1 f)]) C hX (t_X9_addGauge_i l E sa hfl o (bd 0) ad T x y mk hT (by omega) (by omega) (by omega) hc) mX9_addGauge iX9_addGauge wd596 0 8 rfl rfl rfl rfl rfl (Nat.le_of_ble_eq_true rfl) ⟨Nat.le_of_ble_eq_true rfl, Nat.le_of_ble_eq_true rfl⟩ ⟨Nat.le_of_ble_eq_true rfl, Nat.le_of_ble_eq_true rfl⟩ rfl dL_addGauge_7 ?_
  refine g_tcatch C [(0, 12, 15, 13), (0, 12, 19, 15), (0, 12, 23, 20)] ht [] ⟨0, 12, 15, 13⟩ [⟨0, 12, 19, 15⟩, ⟨0, 12, 23, 20⟩] rfl (fun z hz => absurd hz List.not_mem_nil) rfl (by decide) wd405 hNc.2.1 15 rfl (fun zq => ?_)
  refine g_astore C dL_addGauge_15 rfl (by decide) rfl ?_
  exact g_wcat C Z rfl ⟨Nat.le_of_ble_eq_true rfl, Nat.le_of_ble_eq_true rfl⟩ rfl dL_addGauge_17 dL_addGauge_18
set_option maxHeartbeats 4000000 in
set_option maxRecDepth 100000 in
theorem w_addGauge_a (l : Launch) (E : gE) (sa : gTx) (hfl : l.stackTraces = false) (o oc : Nat) (ad bd : Nat → Nat) (T H : gS) (f : Nat → Int64) (x : Int) (y : Int) (mk : Int) (hT : okT T) (h_x : (-2147483648 ≤ x ∧ x ≤ 2147483647)) (h_y : (-2147483648 ≤ y ∧ y ≤ 2147483647)) (h_mk : (-2147483648 ≤ mk ∧ mk ≤ 2147483647)) (hc : tC x y) (h : ¬ (1 ≤ mk ∧ mk ≤ 20)) : gKW l E yL_addGauge cL_addGauge 6 (some .int) [(0, 12, 15, 13), (0, 12, 19, 15), (0, 12, 23, 20)] rW [.ref o, .int (iI x), .int (iI y), .int (iI mk), .ref oc] (wC E o ad bd oc T H f) sa (some (.int (iI 2))) (wC E o ad bd oc T H f) := by
  refine gKW_by RL rfl (by decide) [(0, .ref o), (1, .int (iI x)), (2, .int (iI y)), (3, .int (iI mk)), (4, .ref oc)] (Nat.le_of_ble_eq_true rfl) rfl ?_
  intro zp ze zs zm za zb zh zc zA zQ ht C hX hNc Z
  refine g_aload C dL_addGauge_0 rfl 4 rfl ?_
  refine g_iconst C dL_addGauge_2 rfl ?_
  refine g_aload_n C dL_addGauge_3 rfl 0 rfl ?_
  refine g_iload_n C dL_addGauge_4 rfl 1 rfl ?_
  refine g_iload_n C dL_addGauge_5 rfl 2 rfl ?_
  refine g_iload_n C dL_addGauge_6 rfl 3 rfl ?_
  refine g_callVT (As := [.int (iI x), .int (iI y), .int (iI mk)]) (wT E bd H ++ [(oc, cj E 1 f)]) C hX (t_X9_addGauge_a l E sa hfl o (bd 0) ad T x y mk hT (by omega) (by omega) (by omega) hc h) mX9_addGauge iX9_addGauge wd596 0 8 rfl rfl rfl rfl rfl (Nat.le_of_ble_eq_true rfl) ⟨Nat.le_of_ble_eq_true rfl, Nat.le_of_ble_eq_true rfl⟩ ⟨Nat.le_of_ble_eq_true rfl, Nat.le_of_ble_eq_true rfl⟩ rfl dL_addGauge_7 ?_
  refine g_tcatch C [(0, 12, 15, 13), (0, 12, 19, 15), (0, 12, 23, 20)] ht [⟨0, 12, 15, 13⟩] ⟨0, 12, 19, 15⟩ [⟨0, 12, 23, 20⟩] rfl (fun z hz => by rw [List.mem_singleton.mp hz]; exact ⟨by decide, xI, wd405, hNc.1.1⟩) rfl (by decide) wd406 hNc.2.2.1 19 rfl (fun zq => ?_)
  refine g_astore C dL_addGauge_19 rfl (by decide) rfl ?_
  exact g_wcat C Z rfl ⟨Nat.le_of_ble_eq_true rfl, Nat.le_of_ble_eq_true rfl⟩ rfl dL_addGauge_21 dL_addGauge_22
set_option maxHeartbeats 4000000 in
set_option maxRecDepth 100000 in
theorem w_addGauge_s (l : Launch) (E : gE) (sa : gTx) (hfl : l.stackTraces = false) (o oc : Nat) (ad bd : Nat → Nat) (T H : gS) (f : Nat → Int64) (x : Int) (y : Int) (mk : Int) (hT : okT T) (h_x : (-2147483648 ≤ x ∧ x ≤ 2147483647)) (h_y : (-2147483648 ≤ y ∧ y ≤ 2147483647)) (h_mk : (-2147483648 ≤ mk ∧ mk ≤ 2147483647)) (hc : tC x y) (h : 1 ≤ mk ∧ mk ≤ 20) (h2 : ¬ (T.2 2 < 4 ∧ fstI (T.1 14) (10 * y + x) (T.2 2).toNat = -1)) : gKW l E yL_addGauge cL_addGauge 6 (some .int) [(0, 12, 15, 13), (0, 12, 19, 15), (0, 12, 23, 20)] rW [.ref o, .int (iI x), .int (iI y), .int (iI mk), .ref oc] (wC E o ad bd oc T H f) sa (some (.int (iI 3))) (wC E o ad bd oc T H f) := by
  refine gKW_by RL rfl (by decide) [(0, .ref o), (1, .int (iI x)), (2, .int (iI y)), (3, .int (iI mk)), (4, .ref oc)] (Nat.le_of_ble_eq_true rfl) rfl ?_
  intro zp ze zs zm za zb zh zc zA zQ ht C hX hNc Z
  refine g_aload C dL_addGauge_0 rfl 4 rfl ?_
  refine g_iconst C dL_addGauge_2 rfl ?_
  refine g_aload_n C dL_addGauge_3 rfl 0 rfl ?_
  refine g_iload_n C dL_addGauge_4 rfl 1 rfl ?_
  refine g_iload_n C dL_addGauge_5 rfl 2 rfl ?_
  refine g_iload_n C dL_addGauge_6 rfl 3 rfl ?_
  refine g_callVT (As := [.int (iI x), .int (iI y), .int (iI mk)]) (wT E bd H ++ [(oc, cj E 1 f)]) C hX (t_X9_addGauge_s l E sa hfl o (bd 0) ad T x y mk hT (by omega) (by omega) (by omega) hc h h2) mX9_addGauge iX9_addGauge wd596 0 8 rfl rfl rfl rfl rfl (Nat.le_of_ble_eq_true rfl) ⟨Nat.le_of_ble_eq_true rfl, Nat.le_of_ble_eq_true rfl⟩ ⟨Nat.le_of_ble_eq_true rfl, Nat.le_of_ble_eq_true rfl⟩ rfl dL_addGauge_7 ?_
  refine g_tcatch C [(0, 12, 15, 13), (0, 12, 19, 15), (0, 12, 23, 20)] ht [⟨0, 12, 15, 13⟩, ⟨0, 12, 19, 15⟩] ⟨0, 12, 23, 20⟩ [] rfl (fun z hz => by
    rcases List.mem_cons.mp hz with e | e
    · rw [e]; exact ⟨by decide, xI, wd405, hNc.1.2.1⟩
    · rw [List.mem_singleton.mp e]; exact ⟨by decide, xA, wd406, hNc.1.2.2.1⟩) rfl (by decide) wd513 hNc.2.2.2 23 rfl (fun zq => ?_)
  refine g_astore C dL_addGauge_23 rfl (by decide) rfl ?_
  exact g_wcat C Z rfl ⟨Nat.le_of_ble_eq_true rfl, Nat.le_of_ble_eq_true rfl⟩ rfl dL_addGauge_25 dL_addGauge_26
set_option maxHeartbeats 4000000 in
set_option maxRecDepth 100000 in
theorem w_addRefuge_0 (l : Launch) (E : gE) (sa : gTx) (hfl : l.stackTraces = false) (o oc : Nat) (ad bd : Nat → Nat) (T H : gS) (f : Nat → Int64) (x : Int) (y : Int) (rm : Int) (hT : okT T) (h_x : (-2147483648 ≤ x ∧ x ≤ 2147483647)) (h_y : (-2147483648 ≤ y ∧ y ≤ 2147483647)) (h_rm : (-2147483648 ≤ rm ∧ rm ≤ 2147483647)) (hc : tC x y) (h : 1 ≤ rm ∧ rm ≤ 20) (h2 : T.2 3 < 4 ∧ fstI (T.1 17) (10 * y + x) (T.2 3).toNat = -1) : gKW l E yL_addRefuge cL_addRefuge 6 (some .int) [(0, 12, 15, 13), (0, 12, 19, 15), (0, 12, 23, 20)] rW [.ref o, .int (iI x), .int (iI y), .int (iI rm), .ref oc] (wC E o ad bd oc T H f) sa (some (.int (iI 0))) (wC E o ad bd oc (openS T (10 * y + x) rm) H (vp_updL f 0 (lI (T.2 3)))) := by
  refine gKW_by RL rfl (by decide) [(0, .ref o), (1, .int (iI x)), (2, .int (iI y)), (3, .int (iI rm)), (4, .ref oc)] (Nat.le_of_ble_eq_true rfl) rfl ?_
  intro zp ze zs zm za zb zh zc zA zQ ht C hX hNc Z
  refine g_aload C dL_addRefuge_0 rfl 4 rfl ?_
  refine g_iconst C dL_addRefuge_2 rfl ?_
  refine g_aload_n C dL_addRefuge_3 rfl 0 rfl ?_
  refine g_iload_n C dL_addRefuge_4 rfl 1 rfl ?_
  refine g_iload_n C dL_addRefuge_5 rfl 2 rfl ?_
  refine g_iload_n C dL_addRefuge_6 rfl 3 rfl ?_
  refine g_callV (As := [.int (iI x), .int (iI y), .int (iI rm)]) (rv := some (.int (iI (T.2 3)))) C (wT E bd H ++ [(oc, cj E 1 f)]) (k_X9_addRefuge l E o (bd 0) ad T x y rm hT (by omega) (by omega) (by omega) hc h h2) mX9_addRefuge iX9_addRefuge wd610 0 8 rfl rfl rfl rfl rfl (Nat.le_of_ble_eq_true rfl) ⟨Nat.le_of_ble_eq_true rfl, Nat.le_of_ble_eq_true rfl⟩ ⟨Nat.le_of_ble_eq_true rfl, Nat.le_of_ble_eq_true rfl⟩ rfl dL_addRefuge_7 rfl ?_
  exact g_wfair 15 C Z ⟨Nat.le_of_ble_eq_true rfl, Nat.le_of_ble_eq_true rfl⟩ 65 rfl rfl dL_addRefuge_10 dL_addRefuge_11 dL_addRefuge_12 (by decide) dL_addRefuge_27 dL_addRefuge_28
set_option maxHeartbeats 4000000 in
set_option maxRecDepth 100000 in
theorem w_addRefuge_i (l : Launch) (E : gE) (sa : gTx) (hfl : l.stackTraces = false) (o oc : Nat) (ad bd : Nat → Nat) (T H : gS) (f : Nat → Int64) (x : Int) (y : Int) (rm : Int) (hT : okT T) (h_x : (-2147483648 ≤ x ∧ x ≤ 2147483647)) (h_y : (-2147483648 ≤ y ∧ y ≤ 2147483647)) (h_rm : (-2147483648 ≤ rm ∧ rm ≤ 2147483647)) (hc : ¬ tC x y) : gKW l E yL_addRefuge cL_addRefuge 6 (some .int) [(0, 12, 15, 13), (0, 12, 19, 15), (0, 12, 23, 20)] rW [.ref o, .int (iI x), .int (iI y), .int (iI rm), .ref oc] (wC E o ad bd oc T H f) sa (some (.int (iI 1))) (wC E o ad bd oc T H f) := by
  refine gKW_by RL rfl (by decide) [(0, .ref o), (1, .int (iI x)), (2, .int (iI y)), (3, .int (iI rm)), (4, .ref oc)] (Nat.le_of_ble_eq_true rfl) rfl ?_
  intro zp ze zs zm za zb zh zc zA zQ ht C hX hNc Z
  refine g_aload C dL_addRefuge_0 rfl 4 rfl ?_
  refine g_iconst C dL_addRefuge_2 rfl ?_
  refine g_aload_n C dL_addRefuge_3 rfl 0 rfl ?_
  refine g_iload_n C dL_addRefuge_4 rfl 1 rfl ?_
  refine g_iload_n C dL_addRefuge_5 rfl 2 rfl ?_
  refine g_iload_n C dL_addRefuge_6 rfl 3 rfl ?_
  refine g_callVT (As := [.int (iI x), .int (iI y), .int (iI rm)]) (wT E bd H ++ [(oc, cj E 1 f)]) C hX (t_X9_addRefuge_i l E sa hfl o (bd 0) ad T x y rm hT (by omega) (by omega) (by omega) hc) mX9_addRefuge iX9_addRefuge wd610 0 8 rfl rfl rfl rfl rfl (Nat.le_of_ble_eq_true rfl) ⟨Nat.le_of_ble_eq_true rfl, Nat.le_of_ble_eq_true rfl⟩ ⟨Nat.le_of_ble_eq_true rfl, Nat.le_of_ble_eq_true rfl⟩ rfl dL_addRefuge_7 ?_
  refine g_tcatch C [(0, 12, 15, 13), (0, 12, 19, 15), (0, 12, 23, 20)] ht [] ⟨0, 12, 15, 13⟩ [⟨0, 12, 19, 15⟩, ⟨0, 12, 23, 20⟩] rfl (fun z hz => absurd hz List.not_mem_nil) rfl (by decide) wd405 hNc.2.1 15 rfl (fun zq => ?_)
  refine g_astore C dL_addRefuge_15 rfl (by decide) rfl ?_
  exact g_wcat C Z rfl ⟨Nat.le_of_ble_eq_true rfl, Nat.le_of_ble_eq_true rfl⟩ rfl dL_addRefuge_17 dL_addRefuge_18
set_option maxHeartbeats 4000000 in
set_option maxRecDepth 100000 in
theorem w_addRefuge_a (l : Launch) (E : gE) (sa : gTx) (hfl : l.stackTraces = false) (o oc : Nat) (ad bd : Nat → Nat) (T H : gS) (f : Nat → Int64) (x : Int) (y : Int) (rm : Int) (hT : okT T) (h_x : (-2147483648 ≤ x ∧ x ≤ 2147483647)) (h_y : (-2147483648 ≤ y ∧ y ≤ 2147483647)) (h_rm : (-2147483648 ≤ rm ∧ rm ≤ 2147483647)) (hc : tC x y) (h : ¬ (1 ≤ rm ∧ rm ≤ 20)) : gKW l E yL_addRefuge cL_addRefuge 6 (some .int) [(0, 12, 15, 13), (0, 12, 19, 15), (0, 12, 23, 20)] rW [.ref o, .int (iI x), .int (iI y), .int (iI rm), .ref oc] (wC E o ad bd oc T H f) sa (some (.int (iI 2))) (wC E o ad bd oc T H f) := by
  refine gKW_by RL rfl (by decide) [(0, .ref o), (1, .int (iI x)), (2, .int (iI y)), (3, .int (iI rm)), (4, .ref oc)] (Nat.le_of_ble_eq_true rfl) rfl ?_
  intro zp ze zs zm za zb zh zc zA zQ ht C hX hNc Z
  refine g_aload C dL_addRefuge_0 rfl 4 rfl ?_
  refine g_iconst C dL_addRefuge_2 rfl ?_
  refine g_aload_n C dL_addRefuge_3 rfl 0 rfl ?_
  refine g_iload_n C dL_addRefuge_4 rfl 1 rfl ?_
  refine g_iload_n C dL_addRefuge_5 rfl 2 rfl ?_
  refine g_iload_n C dL_addRefuge_6 rfl 3 rfl ?_
  refine g_callVT (As := [.int (iI x), .int (iI y), .int (iI rm)]) (wT E bd H ++ [(oc, cj E 1 f)]) C hX (t_X9_addRefuge_a l E sa hfl o (bd 0) ad T x y rm hT (by omega) (by omega) (by omega) hc h) mX9_addRefuge iX9_addRefuge wd610 0 8 rfl rfl rfl rfl rfl (Nat.le_of_ble_eq_true rfl) ⟨Nat.le_of_ble_eq_true rfl, Nat.le_of_ble_eq_true rfl⟩ ⟨Nat.le_of_ble_eq_true rfl, Nat.le_of_ble_eq_true rfl⟩ rfl dL_addRefuge_7 ?_
  refine g_tcatch C [(0, 12, 15, 13), (0, 12, 19, 15), (0, 12, 23, 20)] ht [⟨0, 12, 15, 13⟩] ⟨0, 12, 19, 15⟩ [⟨0, 12, 23, 20⟩] rfl (fun z hz => by rw [List.mem_singleton.mp hz]; exact ⟨by decide, xI, wd405, hNc.1.1⟩) rfl (by decide) wd406 hNc.2.2.1 19 rfl (fun zq => ?_)
  refine g_astore C dL_addRefuge_19 rfl (by decide) rfl ?_
  exact g_wcat C Z rfl ⟨Nat.le_of_ble_eq_true rfl, Nat.le_of_ble_eq_true rfl⟩ rfl dL_addRefuge_21 dL_addRefuge_22
set_option maxHeartbeats 4000000 in
set_option maxRecDepth 100000 in
theorem w_addRefuge_s (l : Launch) (E : gE) (sa : gTx) (hfl : l.stackTraces = false) (o oc : Nat) (ad bd : Nat → Nat) (T H : gS) (f : Nat → Int64) (x : Int) (y : Int) (rm : Int) (hT : okT T) (h_x : (-2147483648 ≤ x ∧ x ≤ 2147483647)) (h_y : (-2147483648 ≤ y ∧ y ≤ 2147483647)) (h_rm : (-2147483648 ≤ rm ∧ rm ≤ 2147483647)) (hc : tC x y) (h : 1 ≤ rm ∧ rm ≤ 20) (h2 : ¬ (T.2 3 < 4 ∧ fstI (T.1 17) (10 * y + x) (T.2 3).toNat = -1)) : gKW l E yL_addRefuge cL_addRefuge 6 (some .int) [(0, 12, 15, 13), (0, 12, 19, 15), (0, 12, 23, 20)] rW [.ref o, .int (iI x), .int (iI y), .int (iI rm), .ref oc] (wC E o ad bd oc T H f) sa (some (.int (iI 3))) (wC E o ad bd oc T H f) := by
  refine gKW_by RL rfl (by decide) [(0, .ref o), (1, .int (iI x)), (2, .int (iI y)), (3, .int (iI rm)), (4, .ref oc)] (Nat.le_of_ble_eq_true rfl) rfl ?_
  intro zp ze zs zm za zb zh zc zA zQ ht C hX hNc Z
  refine g_aload C dL_addRefuge_0 rfl 4 rfl ?_
  refine g_iconst C dL_addRefuge_2 rfl ?_
  refine g_aload_n C dL_addRefuge_3 rfl 0 rfl ?_
  refine g_iload_n C dL_addRefuge_4 rfl 1 rfl ?_
  refine g_iload_n C dL_addRefuge_5 rfl 2 rfl ?_
  refine g_iload_n C dL_addRefuge_6 rfl 3 rfl ?_
  refine g_callVT (As := [.int (iI x), .int (iI y), .int (iI rm)]) (wT E bd H ++ [(oc, cj E 1 f)]) C hX (t_X9_addRefuge_s l E sa hfl o (bd 0) ad T x y rm hT (by omega) (by omega) (by omega) hc h h2) mX9_addRefuge iX9_addRefuge wd610 0 8 rfl rfl rfl rfl rfl (Nat.le_of_ble_eq_true rfl) ⟨Nat.le_of_ble_eq_true rfl, Nat.le_of_ble_eq_true rfl⟩ ⟨Nat.le_of_ble_eq_true rfl, Nat.le_of_ble_eq_true rfl⟩ rfl dL_addRefuge_7 ?_
  refine g_tcatch C [(0, 12, 15, 13), (0, 12, 19, 15), (0, 12, 23, 20)] ht [⟨0, 12, 15, 13⟩, ⟨0, 12, 19, 15⟩] ⟨0, 12, 23, 20⟩ [] rfl (fun z hz => by
    rcases List.mem_cons.mp hz with e | e
    · rw [e]; exact ⟨by decide, xI, wd405, hNc.1.2.1⟩
    · rw [List.mem_singleton.mp e]; exact ⟨by decide, xA, wd406, hNc.1.2.2.1⟩) rfl (by decide) wd513 hNc.2.2.2 23 rfl (fun zq => ?_)
  refine g_astore C dL_addRefuge_23 rfl (by decide) rfl ?_
  exact g_wcat C Z rfl ⟨Nat.le_of_ble_eq_true rfl, Nat.le_of_ble_eq_true rfl⟩ rfl dL_addRefuge_25 dL_addRefuge_26
set_option maxHeartbeats 4000000 in
set_option maxRecDepth 100000 in
theorem w_settle_0 (l : Launch) (E : gE) (sa : gTx) (hfl : l.stackTraces = false) (o oc : Nat) (ad bd : Nat → Nat) (T H : gS) (f : Nat → Int64) (x : Int) (y : Int) (n : Int) (hT : okT T) (h_x : (-2147483648 ≤ x ∧ x ≤ 2147483647)) (h_y : (-2147483648 ≤ y ∧ y ≤ 2147483647)) (h_n : (-2147483648 ≤ n ∧ n ≤ 2147483647)) (hc : tC x y) (h : 1 ≤ n ∧ n ≤ 6) (h2 : T.2 4 < 10) : gKW l E yL_settle cL_settle 6 (some .int) [(0, 12, 15, 13), (0, 12, 19, 15), (0, 12, 23, 20)] rW [.ref o, .int (iI x), .int (iI y), .int (iI n), .ref oc] (wC E o ad bd oc T H f) sa (some (.int (iI 0))) (wC E o ad bd oc (inS T (10 * y + x) n) H (vp_updL f 0 (lI (T.2 4)))) := by
  refine gKW_by RL rfl (by decide) [(0, .ref o), (1, .int (iI x)), (2, .int (iI y)), (3, .int (iI n)), (4, .ref oc)] (Nat.le_of_ble_eq_true rfl) rfl ?_
  intro zp ze zs zm za zb zh zc zA zQ ht C hX hNc Z
  refine g_aload C dL_settle_0 rfl 4 rfl ?_
  refine g_iconst C dL_settle_2 rfl ?_
  refine g_aload_n C dL_settle_3 rfl 0 rfl ?_
  refine g_iload_n C dL_settle_4 rfl 1 rfl ?_
  refine g_iload_n C dL_settle_5 rfl 2 rfl ?_
  refine g_iload_n C dL_settle_6 rfl 3 rfl ?_
  refine g_callV (As := [.int (iI x), .int (iI y), .int (iI n)]) (rv := some (.int (iI (T.2 4)))) C (wT E bd H ++ [(oc, cj E 1 f)]) (k_X9_settle l E o (bd 0) ad T x y n hT (by omega) (by omega) (by omega) hc h h2) mX9_settle iX9_settle wd624 0 8 rfl rfl rfl rfl rfl (Nat.le_of_ble_eq_true rfl) ⟨Nat.le_of_ble_eq_true rfl, Nat.le_of_ble_eq_true rfl⟩ ⟨Nat.le_of_ble_eq_true rfl, Nat.le_of_ble_eq_true rfl⟩ rfl dL_settle_7 rfl ?_
  exact g_wfair 15 C Z ⟨Nat.le_of_ble_eq_true rfl, Nat.le_of_ble_eq_true rfl⟩ 65 rfl rfl dL_settle_10 dL_settle_11 dL_settle_12 (by decide) dL_settle_27 dL_settle_28
set_option maxHeartbeats 4000000 in
set_option maxRecDepth 100000 in
theorem w_settle_i (l : Launch) (E : gE) (sa : gTx) (hfl : l.stackTraces = false) (o oc : Nat) (ad bd : Nat → Nat) (T H : gS) (f : Nat → Int64) (x : Int) (y : Int) (n : Int) (hT : okT T) (h_x : (-2147483648 ≤ x ∧ x ≤ 2147483647)) (h_y : (-2147483648 ≤ y ∧ y ≤ 2147483647)) (h_n : (-2147483648 ≤ n ∧ n ≤ 2147483647)) (hc : ¬ tC x y) : gKW l E yL_settle cL_settle 6 (some .int) [(0, 12, 15, 13), (0, 12, 19, 15), (0, 12, 23, 20)] rW [.ref o, .int (iI x), .int (iI y), .int (iI n), .ref oc] (wC E o ad bd oc T H f) sa (some (.int (iI 1))) (wC E o ad bd oc T H f) := by
  refine gKW_by RL rfl (by decide) [(0, .ref o), (1, .int (iI x)), (2, .int (iI y)), (3, .int (iI n)), (4, .ref oc)] (Nat.le_of_ble_eq_true rfl) rfl ?_
  intro zp ze zs zm za zb zh zc zA zQ ht C hX hNc Z
  refine g_aload C dL_settle_0 rfl 4 rfl ?_
  refine g_iconst C dL_settle_2 rfl ?_
  refine g_aload_n C dL_settle_3 rfl 0 rfl ?_
  refine g_iload_n C dL_settle_4 rfl 1 rfl ?_
  refine g_iload_n C dL_settle_5 rfl 2 rfl ?_
  refine g_iload_n C dL_settle_6 rfl 3 rfl ?_
  refine g_callVT (As := [.int (iI x), .int (iI y), .int (iI n)]) (wT E bd H ++ [(oc, cj E 1 f)]) C hX (t_X9_settle_i l E sa hfl o (bd 0) ad T x y n hT (by omega) (by omega) (by omega) hc) mX9_settle iX9_settle wd624 0 8 rfl rfl rfl rfl rfl (Nat.le_of_ble_eq_true rfl) ⟨Nat.le_of_ble_eq_true rfl, Nat.le_of_ble_eq_true rfl⟩ ⟨Nat.le_of_ble_eq_true rfl, Nat.le_of_ble_eq_true rfl⟩ rfl dL_settle_7 ?_
  refine g_tcatch C [(0, 12, 15, 13), (0, 12, 19, 15), (0, 12, 23, 20)] ht [] ⟨0, 12, 15, 13⟩ [⟨0, 12, 19, 15⟩, ⟨0, 12, 23, 20⟩] rfl (fun z hz => absurd hz List.not_mem_nil) rfl (by decide) wd405 hNc.2.1 15 rfl (fun zq => ?_)
  refine g_astore C dL_settle_15 rfl (by decide) rfl ?_
  exact g_wcat C Z rfl ⟨Nat.le_of_ble_eq_true rfl, Nat.le_of_ble_eq_true rfl⟩ rfl dL_settle_17 dL_settle_18
set_option maxHeartbeats 4000000 in
set_option maxRecDepth 100000 in
theorem w_settle_a (l : Launch) (E : gE) (sa : gTx) (hfl : l.stackTraces = false) (o oc : Nat) (ad bd : Nat → Nat) (T H : gS) (f : Nat → Int64) (x : Int) (y : Int) (n : Int) (hT : okT T) (h_x : (-2147483648 ≤ x ∧ x ≤ 2147483647)) (h_y : (-2147483648 ≤ y ∧ y ≤ 2147483647)) (h_n : (-2147483648 ≤ n ∧ n ≤ 2147483647)) (hc : tC x y) (h : ¬ (1 ≤ n ∧ n ≤ 6)) : gKW l E yL_settle cL_settle 6 (some .int) [(0, 12, 15, 13), (0, 12, 19, 15), (0, 12, 23, 20)] rW [.ref o, .int (iI x), .int (iI y), .int (iI n), .ref oc] (wC E o ad bd oc T H f) sa (some (.int (iI 2))) (wC E o ad bd oc T H f) := by
  refine gKW_by RL rfl (by decide) [(0, .ref o), (1, .int (iI x)), (2, .int (iI y)), (3, .int (iI n)), (4, .ref oc)] (Nat.le_of_ble_eq_true rfl) rfl ?_
  intro zp ze zs zm za zb zh zc zA zQ ht C hX hNc Z
  refine g_aload C dL_settle_0 rfl 4 rfl ?_
  refine g_iconst C dL_settle_2 rfl ?_
  refine g_aload_n C dL_settle_3 rfl 0 rfl ?_
  refine g_iload_n C dL_settle_4 rfl 1 rfl ?_
  refine g_iload_n C dL_settle_5 rfl 2 rfl ?_
  refine g_iload_n C dL_settle_6 rfl 3 rfl ?_
  refine g_callVT (As := [.int (iI x), .int (iI y), .int (iI n)]) (wT E bd H ++ [(oc, cj E 1 f)]) C hX (t_X9_settle_a l E sa hfl o (bd 0) ad T x y n hT (by omega) (by omega) (by omega) hc h) mX9_settle iX9_settle wd624 0 8 rfl rfl rfl rfl rfl (Nat.le_of_ble_eq_true rfl) ⟨Nat.le_of_ble_eq_true rfl, Nat.le_of_ble_eq_true rfl⟩ ⟨Nat.le_of_ble_eq_true rfl, Nat.le_of_ble_eq_true rfl⟩ rfl dL_settle_7 ?_
  refine g_tcatch C [(0, 12, 15, 13), (0, 12, 19, 15), (0, 12, 23, 20)] ht [⟨0, 12, 15, 13⟩] ⟨0, 12, 19, 15⟩ [⟨0, 12, 23, 20⟩] rfl (fun z hz => by rw [List.mem_singleton.mp hz]; exact ⟨by decide, xI, wd405, hNc.1.1⟩) rfl (by decide) wd406 hNc.2.2.1 19 rfl (fun zq => ?_)
  refine g_astore C dL_settle_19 rfl (by decide) rfl ?_
  exact g_wcat C Z rfl ⟨Nat.le_of_ble_eq_true rfl, Nat.le_of_ble_eq_true rfl⟩ rfl dL_settle_21 dL_settle_22
set_option maxHeartbeats 4000000 in
set_option maxRecDepth 100000 in
theorem w_settle_s (l : Launch) (E : gE) (sa : gTx) (hfl : l.stackTraces = false) (o oc : Nat) (ad bd : Nat → Nat) (T H : gS) (f : Nat → Int64) (x : Int) (y : Int) (n : Int) (hT : okT T) (h_x : (-2147483648 ≤ x ∧ x ≤ 2147483647)) (h_y : (-2147483648 ≤ y ∧ y ≤ 2147483647)) (h_n : (-2147483648 ≤ n ∧ n ≤ 2147483647)) (hc : tC x y) (h : 1 ≤ n ∧ n ≤ 6) (h2 : ¬ T.2 4 < 10) : gKW l E yL_settle cL_settle 6 (some .int) [(0, 12, 15, 13), (0, 12, 19, 15), (0, 12, 23, 20)] rW [.ref o, .int (iI x), .int (iI y), .int (iI n), .ref oc] (wC E o ad bd oc T H f) sa (some (.int (iI 3))) (wC E o ad bd oc T H f) := by
  refine gKW_by RL rfl (by decide) [(0, .ref o), (1, .int (iI x)), (2, .int (iI y)), (3, .int (iI n)), (4, .ref oc)] (Nat.le_of_ble_eq_true rfl) rfl ?_
  intro zp ze zs zm za zb zh zc zA zQ ht C hX hNc Z
  refine g_aload C dL_settle_0 rfl 4 rfl ?_
  refine g_iconst C dL_settle_2 rfl ?_
  refine g_aload_n C dL_settle_3 rfl 0 rfl ?_
  refine g_iload_n C dL_settle_4 rfl 1 rfl ?_
  refine g_iload_n C dL_settle_5 rfl 2 rfl ?_
  refine g_iload_n C dL_settle_6 rfl 3 rfl ?_
  refine g_callVT (As := [.int (iI x), .int (iI y), .int (iI n)]) (wT E bd H ++ [(oc, cj E 1 f)]) C hX (t_X9_settle_s l E sa hfl o (bd 0) ad T x y n hT (by omega) (by omega) (by omega) hc h h2) mX9_settle iX9_settle wd624 0 8 rfl rfl rfl rfl rfl (Nat.le_of_ble_eq_true rfl) ⟨Nat.le_of_ble_eq_true rfl, Nat.le_of_ble_eq_true rfl⟩ ⟨Nat.le_of_ble_eq_true rfl, Nat.le_of_ble_eq_true rfl⟩ rfl dL_settle_7 ?_
  refine g_tcatch C [(0, 12, 15, 13), (0, 12, 19, 15), (0, 12, 23, 20)] ht [⟨0, 12, 15, 13⟩, ⟨0, 12, 19, 15⟩] ⟨0, 12, 23, 20⟩ [] rfl (fun z hz => by
    rcases List.mem_cons.mp hz with e | e
    · rw [e]; exact ⟨by decide, xI, wd405, hNc.1.2.1⟩
    · rw [List.mem_singleton.mp e]; exact ⟨by decide, xA, wd406, hNc.1.2.2.1⟩) rfl (by decide) wd513 hNc.2.2.2 23 rfl (fun zq => ?_)
  refine g_astore C dL_settle_23 rfl (by decide) rfl ?_
  exact g_wcat C Z rfl ⟨Nat.le_of_ble_eq_true rfl, Nat.le_of_ble_eq_true rfl⟩ rfl dL_settle_25 dL_settle_26
set_option maxHeartbeats 4000000 in
set_option maxRecDepth 100000 in
theorem w_addCaller_0 (l : Launch) (E : gE) (sa : gTx) (hfl : l.stackTraces = false) (o oc : Nat) (ad bd : Nat → Nat) (T H : gS) (f : Nat → Int64) (x : Int) (y : Int) (hT : okT T) (h_x : (-2147483648 ≤ x ∧ x ≤ 2147483647)) (h_y : (-2147483648 ≤ y ∧ y ≤ 2147483647)) (hc : tC x y) (h2 : T.2 6 < 3) : gKW l E yL_addCaller cL_addCaller 5 (some .int) [(0, 10, 13, 13), (0, 10, 17, 20)] rW [.ref o, .int (iI x), .int (iI y), .ref oc] (wC E o ad bd oc T H f) sa (some (.int (iI 0))) (wC E o ad bd oc (postS T (10 * y + x)) H (vp_updL f 0 (lI (T.2 6)))) := by
  refine gKW_by RL rfl (by decide) [(0, .ref o), (1, .int (iI x)), (2, .int (iI y)), (3, .ref oc)] (Nat.le_of_ble_eq_true rfl) rfl ?_
  intro zp ze zs zm za zb zh zc zA zQ ht C hX hNc Z
  refine g_aload_n C dL_addCaller_0 rfl 3 rfl ?_
  refine g_iconst C dL_addCaller_1 rfl ?_
  refine g_aload_n C dL_addCaller_2 rfl 0 rfl ?_
  refine g_iload_n C dL_addCaller_3 rfl 1 rfl ?_
  refine g_iload_n C dL_addCaller_4 rfl 2 rfl ?_
  refine g_callV (As := [.int (iI x), .int (iI y)]) (rv := some (.int (iI (T.2 6)))) C (wT E bd H ++ [(oc, cj E 1 f)]) (k_X9_addCaller l E o (bd 0) ad T x y hT (by omega) (by omega) hc h2) mX9_addCaller iX9_addCaller wd639 0 8 rfl rfl rfl rfl rfl (Nat.le_of_ble_eq_true rfl) ⟨Nat.le_of_ble_eq_true rfl, Nat.le_of_ble_eq_true rfl⟩ ⟨Nat.le_of_ble_eq_true rfl, Nat.le_of_ble_eq_true rfl⟩ rfl dL_addCaller_5 rfl ?_
  exact g_wfair 11 C Z ⟨Nat.le_of_ble_eq_true rfl, Nat.le_of_ble_eq_true rfl⟩ 65 rfl rfl dL_addCaller_8 dL_addCaller_9 dL_addCaller_10 (by decide) dL_addCaller_21 dL_addCaller_22
set_option maxHeartbeats 4000000 in
set_option maxRecDepth 100000 in
theorem w_addCaller_i (l : Launch) (E : gE) (sa : gTx) (hfl : l.stackTraces = false) (o oc : Nat) (ad bd : Nat → Nat) (T H : gS) (f : Nat → Int64) (x : Int) (y : Int) (hT : okT T) (h_x : (-2147483648 ≤ x ∧ x ≤ 2147483647)) (h_y : (-2147483648 ≤ y ∧ y ≤ 2147483647)) (hc : ¬ tC x y) : gKW l E yL_addCaller cL_addCaller 5 (some .int) [(0, 10, 13, 13), (0, 10, 17, 20)] rW [.ref o, .int (iI x), .int (iI y), .ref oc] (wC E o ad bd oc T H f) sa (some (.int (iI 1))) (wC E o ad bd oc T H f) := by
  refine gKW_by RL rfl (by decide) [(0, .ref o), (1, .int (iI x)), (2, .int (iI y)), (3, .ref oc)] (Nat.le_of_ble_eq_true rfl) rfl ?_
  intro zp ze zs zm za zb zh zc zA zQ ht C hX hNc Z
  refine g_aload_n C dL_addCaller_0 rfl 3 rfl ?_
  refine g_iconst C dL_addCaller_1 rfl ?_
  refine g_aload_n C dL_addCaller_2 rfl 0 rfl ?_
  refine g_iload_n C dL_addCaller_3 rfl 1 rfl ?_
  refine g_iload_n C dL_addCaller_4 rfl 2 rfl ?_
  refine g_callVT (As := [.int (iI x), .int (iI y)]) (wT E bd H ++ [(oc, cj E 1 f)]) C hX (t_X9_addCaller_i l E sa hfl o (bd 0) ad T x y hT (by omega) (by omega) hc) mX9_addCaller iX9_addCaller wd639 0 8 rfl rfl rfl rfl rfl (Nat.le_of_ble_eq_true rfl) ⟨Nat.le_of_ble_eq_true rfl, Nat.le_of_ble_eq_true rfl⟩ ⟨Nat.le_of_ble_eq_true rfl, Nat.le_of_ble_eq_true rfl⟩ rfl dL_addCaller_5 ?_
  refine g_tcatch C [(0, 10, 13, 13), (0, 10, 17, 20)] ht [] ⟨0, 10, 13, 13⟩ [⟨0, 10, 17, 20⟩] rfl (fun z hz => absurd hz List.not_mem_nil) rfl (by decide) wd405 hNc.2.1 13 rfl (fun zq => ?_)
  refine g_astore C dL_addCaller_13 rfl (by decide) rfl ?_
  exact g_wcat C Z rfl ⟨Nat.le_of_ble_eq_true rfl, Nat.le_of_ble_eq_true rfl⟩ rfl dL_addCaller_15 dL_addCaller_16
set_option maxHeartbeats 4000000 in
set_option maxRecDepth 100000 in
theorem w_addCaller_s (l : Launch) (E : gE) (sa : gTx) (hfl : l.stackTraces = false) (o oc : Nat) (ad bd : Nat → Nat) (T H : gS) (f : Nat → Int64) (x : Int) (y : Int) (hT : okT T) (h_x : (-2147483648 ≤ x ∧ x ≤ 2147483647)) (h_y : (-2147483648 ≤ y ∧ y ≤ 2147483647)) (hc : tC x y) (h2 : ¬ T.2 6 < 3) : gKW l E yL_addCaller cL_addCaller 5 (some .int) [(0, 10, 13, 13), (0, 10, 17, 20)] rW [.ref o, .int (iI x), .int (iI y), .ref oc] (wC E o ad bd oc T H f) sa (some (.int (iI 2))) (wC E o ad bd oc T H f) := by
  refine gKW_by RL rfl (by decide) [(0, .ref o), (1, .int (iI x)), (2, .int (iI y)), (3, .ref oc)] (Nat.le_of_ble_eq_true rfl) rfl ?_
  intro zp ze zs zm za zb zh zc zA zQ ht C hX hNc Z
  refine g_aload_n C dL_addCaller_0 rfl 3 rfl ?_
  refine g_iconst C dL_addCaller_1 rfl ?_
  refine g_aload_n C dL_addCaller_2 rfl 0 rfl ?_
  refine g_iload_n C dL_addCaller_3 rfl 1 rfl ?_
  refine g_iload_n C dL_addCaller_4 rfl 2 rfl ?_
  refine g_callVT (As := [.int (iI x), .int (iI y)]) (wT E bd H ++ [(oc, cj E 1 f)]) C hX (t_X9_addCaller_s l E sa hfl o (bd 0) ad T x y hT (by omega) (by omega) hc h2) mX9_addCaller iX9_addCaller wd639 0 8 rfl rfl rfl rfl rfl (Nat.le_of_ble_eq_true rfl) ⟨Nat.le_of_ble_eq_true rfl, Nat.le_of_ble_eq_true rfl⟩ ⟨Nat.le_of_ble_eq_true rfl, Nat.le_of_ble_eq_true rfl⟩ rfl dL_addCaller_5 ?_
  refine g_tcatch C [(0, 10, 13, 13), (0, 10, 17, 20)] ht [⟨0, 10, 13, 13⟩] ⟨0, 10, 17, 20⟩ [] rfl (fun z hz => by rw [List.mem_singleton.mp hz]; exact ⟨by decide, xI, wd405, hNc.1.2.1⟩) rfl (by decide) wd513 hNc.2.2.2 17 rfl (fun zq => ?_)
  refine g_astore C dL_addCaller_17 rfl (by decide) rfl ?_
  exact g_wcat C Z rfl ⟨Nat.le_of_ble_eq_true rfl, Nat.le_of_ble_eq_true rfl⟩ rfl dL_addCaller_19 dL_addCaller_20
