abbrev r_X10_copy : Room := { frames := 1, cells := 0, slots := 0, locals := 18 }
set_option maxHeartbeats 4000000 in
set_option maxRecDepth 100000 in
theorem k_X10_copy_1 (l : Launch) (E : gE) (ad : Nat → Nat) (S : gS) (bd : Nat → Nat) (H : gS) : gK l E yX10_copy cX10_copy 2 none r_X10_copy [.ref (ad 1), .ref (bd 1)] (wS E ad S ++ (wS E bd H)) (none) (wS E ad S ++ (wS E bd (setA H 1 (fcpy (S.1 1) (H.1 1) 80)))) := by
  refine gK_by RX10 rfl mX10_copy [(0, .ref (ad 1)), (1, .ref (bd 1))] (Nat.le_of_ble_eq_true rfl) rfl ?_
  intro zp ze zs zm za zb zh zc zA zQ C Z
  refine g_aload_n C dX10_copy_0 rfl 0 rfl ?_
  refine g_iconst C dX10_copy_1 rfl ?_
  refine g_aload_n C dX10_copy_2 rfl 1 rfl ?_
  refine g_iconst C dX10_copy_3 rfl ?_
  refine g_aload_n C dX10_copy_4 rfl 0 rfl ?_
  refine g_alen (n := 80) (f := (S.1 1)) C 1 rfl dX10_copy_5 rfl ?_
  refine g_copy (f := (S.1 1)) (g := (H.1 1)) (ws' := wS E ad S ++ (wS E bd (setA H 1 (fcpy (S.1 1) (H.1 1) (80))))) C wd1197 ⟨wd743, wd742, wd20⟩ 1 10 rfl rfl (by omega) rfl (Nat.le_of_ble_eq_true rfl) (Nat.le_of_ble_eq_true rfl) dX10_copy_6 rfl ?_
  exact z_vret C Z dX10_copy_9 rfl rfl
set_option maxHeartbeats 4000000 in
set_option maxRecDepth 100000 in
theorem k_X10_copy_2 (l : Launch) (E : gE) (ad : Nat → Nat) (S : gS) (bd : Nat → Nat) (H : gS) : gK l E yX10_copy cX10_copy 2 none r_X10_copy [.ref (ad 2), .ref (bd 2)] (wS E ad S ++ (wS E bd H)) (none) (wS E ad S ++ (wS E bd (setA H 2 (fcpy (S.1 2) (H.1 2) 80)))) := by
  refine gK_by RX10 rfl mX10_copy [(0, .ref (ad 2)), (1, .ref (bd 2))] (Nat.le_of_ble_eq_true rfl) rfl ?_
  intro zp ze zs zm za zb zh zc zA zQ C Z
  refine g_aload_n C dX10_copy_0 rfl 0 rfl ?_
  refine g_iconst C dX10_copy_1 rfl ?_
  refine g_aload_n C dX10_copy_2 rfl 1 rfl ?_
  refine g_iconst C dX10_copy_3 rfl ?_
  refine g_aload_n C dX10_copy_4 rfl 0 rfl ?_
  refine g_alen (n := 80) (f := (S.1 2)) C 2 rfl dX10_copy_5 rfl ?_
  refine g_copy (f := (S.1 2)) (g := (H.1 2)) (ws' := wS E ad S ++ (wS E bd (setA H 2 (fcpy (S.1 2) (H.1 2) (80))))) C wd1197 ⟨wd743, wd742, wd20⟩ 2 11 rfl rfl (by omega) rfl (Nat.le_of_ble_eq_true rfl) (Nat.le_of_ble_eq_true rfl) dX10_copy_6 rfl ?_
  exact z_vret C Z dX10_copy_9 rfl rfl
set_option maxHeartbeats 4000000 in
set_option maxRecDepth 100000 in
theorem k_X10_copy_3 (l : Launch) (E : gE) (ad : Nat → Nat) (S : gS) (bd : Nat → Nat) (H : gS) : gK l E yX10_copy cX10_copy 2 none r_X10_copy [.ref (ad 3), .ref (bd 3)] (wS E ad S ++ (wS E bd H)) (none) (wS E ad S ++ (wS E bd (setA H 3 (fcpy (S.1 3) (H.1 3) 80)))) := by
  refine gK_by RX10 rfl mX10_copy [(0, .ref (ad 3)), (1, .ref (bd 3))] (Nat.le_of_ble_eq_true rfl) rfl ?_
  intro zp ze zs zm za zb zh zc zA zQ C Z
  refine g_aload_n C dX10_copy_0 rfl 0 rfl ?_
  refine g_iconst C dX10_copy_1 rfl ?_
  refine g_aload_n C dX10_copy_2 rfl 1 rfl ?_
  refine g_iconst C dX10_copy_3 rfl ?_
  refine g_aload_n C dX10_copy_4 rfl 0 rfl ?_
  refine g_alen (n := 80) (f := (S.1 3)) C 3 rfl dX10_copy_5 rfl ?_
  refine g_copy (f := (S.1 3)) (g := (H.1 3)) (ws' := wS E ad S ++ (wS E bd (setA H 3 (fcpy (S.1 3) (H.1 3) (80))))) C wd1197 ⟨wd743, wd742, wd20⟩ 3 12 rfl rfl (by omega) rfl (Nat.le_of_ble_eq_true rfl) (Nat.le_of_ble_eq_true rfl) dX10_copy_6 rfl ?_
  exact z_vret C Z dX10_copy_9 rfl rfl
set_option maxHeartbeats 4000000 in
set_option maxRecDepth 100000 in
theorem k_X10_copy_4 (l : Launch) (E : gE) (ad : Nat → Nat) (S : gS) (bd : Nat → Nat) (H : gS) : gK l E yX10_copy cX10_copy 2 none r_X10_copy [.ref (ad 4), .ref (bd 4)] (wS E ad S ++ (wS E bd H)) (none) (wS E ad S ++ (wS E bd (setA H 4 (fcpy (S.1 4) (H.1 4) 25)))) := by
  refine gK_by RX10 rfl mX10_copy [(0, .ref (ad 4)), (1, .ref (bd 4))] (Nat.le_of_ble_eq_true rfl) rfl ?_
  intro zp ze zs zm za zb zh zc zA zQ C Z
  refine g_aload_n C dX10_copy_0 rfl 0 rfl ?_
  refine g_iconst C dX10_copy_1 rfl ?_
  refine g_aload_n C dX10_copy_2 rfl 1 rfl ?_
  refine g_iconst C dX10_copy_3 rfl ?_
  refine g_aload_n C dX10_copy_4 rfl 0 rfl ?_
  refine g_alen (n := 25) (f := (S.1 4)) C 4 rfl dX10_copy_5 rfl ?_
  refine g_copy (f := (S.1 4)) (g := (H.1 4)) (ws' := wS E ad S ++ (wS E bd (setA H 4 (fcpy (S.1 4) (H.1 4) (25))))) C wd1197 ⟨wd743, wd742, wd20⟩ 4 13 rfl rfl (by omega) rfl (Nat.le_of_ble_eq_true rfl) (Nat.le_of_ble_eq_true rfl) dX10_copy_6 rfl ?_
  exact z_vret C Z dX10_copy_9 rfl rfl
set_option maxHeartbeats 4000000 in
set_option maxRecDepth 100000 in
theorem k_X10_copy_5 (l : Launch) (E : gE) (ad : Nat → Nat) (S : gS) (bd : Nat → Nat) (H : gS) : gK l E yX10_copy cX10_copy 2 none r_X10_copy [.ref (ad 5), .ref (bd 5)] (wS E ad S ++ (wS E bd H)) (none) (wS E ad S ++ (wS E bd (setA H 5 (fcpy (S.1 5) (H.1 5) 8)))) := by
  refine gK_by RX10 rfl mX10_copy [(0, .ref (ad 5)), (1, .ref (bd 5))] (Nat.le_of_ble_eq_true rfl) rfl ?_
  intro zp ze zs zm za zb zh zc zA zQ C Z
  refine g_aload_n C dX10_copy_0 rfl 0 rfl ?_
  refine g_iconst C dX10_copy_1 rfl ?_
  refine g_aload_n C dX10_copy_2 rfl 1 rfl ?_
  refine g_iconst C dX10_copy_3 rfl ?_
  refine g_aload_n C dX10_copy_4 rfl 0 rfl ?_
  refine g_alen (n := 8) (f := (S.1 5)) C 5 rfl dX10_copy_5 rfl ?_
  refine g_copy (f := (S.1 5)) (g := (H.1 5)) (ws' := wS E ad S ++ (wS E bd (setA H 5 (fcpy (S.1 5) (H.1 5) (8))))) C wd1197 ⟨wd743, wd742, wd20⟩ 5 14 rfl rfl (by omega) rfl (Nat.le_of_ble_eq_true rfl) (Nat.le_of_ble_eq_true rfl) dX10_copy_6 rfl ?_
  exact z_vret C Z dX10_copy_9 rfl rfl
set_option maxHeartbeats 4000000 in
set_option maxRecDepth 100000 in
theorem k_X10_copy_6 (l : Launch) (E : gE) (ad : Nat → Nat) (S : gS) (bd : Nat → Nat) (H : gS) : gK l E yX10_copy cX10_copy 2 none r_X10_copy [.ref (ad 6), .ref (bd 6)] (wS E ad S ++ (wS E bd H)) (none) (wS E ad S ++ (wS E bd (setA H 6 (fcpy (S.1 6) (H.1 6) 8)))) := by
  refine gK_by RX10 rfl mX10_copy [(0, .ref (ad 6)), (1, .ref (bd 6))] (Nat.le_of_ble_eq_true rfl) rfl ?_
  intro zp ze zs zm za zb zh zc zA zQ C Z
  refine g_aload_n C dX10_copy_0 rfl 0 rfl ?_
  refine g_iconst C dX10_copy_1 rfl ?_
  refine g_aload_n C dX10_copy_2 rfl 1 rfl ?_
  refine g_iconst C dX10_copy_3 rfl ?_
  refine g_aload_n C dX10_copy_4 rfl 0 rfl ?_
  refine g_alen (n := 8) (f := (S.1 6)) C 6 rfl dX10_copy_5 rfl ?_
  refine g_copy (f := (S.1 6)) (g := (H.1 6)) (ws' := wS E ad S ++ (wS E bd (setA H 6 (fcpy (S.1 6) (H.1 6) (8))))) C wd1197 ⟨wd743, wd742, wd20⟩ 6 15 rfl rfl (by omega) rfl (Nat.le_of_ble_eq_true rfl) (Nat.le_of_ble_eq_true rfl) dX10_copy_6 rfl ?_
  exact z_vret C Z dX10_copy_9 rfl rfl
set_option maxHeartbeats 4000000 in
set_option maxRecDepth 100000 in
theorem k_X10_copy_7 (l : Launch) (E : gE) (ad : Nat → Nat) (S : gS) (bd : Nat → Nat) (H : gS) : gK l E yX10_copy cX10_copy 2 none r_X10_copy [.ref (ad 7), .ref (bd 7)] (wS E ad S ++ (wS E bd H)) (none) (wS E ad S ++ (wS E bd (setA H 7 (fcpy (S.1 7) (H.1 7) 40)))) := by
  refine gK_by RX10 rfl mX10_copy [(0, .ref (ad 7)), (1, .ref (bd 7))] (Nat.le_of_ble_eq_true rfl) rfl ?_
  intro zp ze zs zm za zb zh zc zA zQ C Z
  refine g_aload_n C dX10_copy_0 rfl 0 rfl ?_
  refine g_iconst C dX10_copy_1 rfl ?_
  refine g_aload_n C dX10_copy_2 rfl 1 rfl ?_
  refine g_iconst C dX10_copy_3 rfl ?_
  refine g_aload_n C dX10_copy_4 rfl 0 rfl ?_
  refine g_alen (n := 40) (f := (S.1 7)) C 7 rfl dX10_copy_5 rfl ?_
  refine g_copy (f := (S.1 7)) (g := (H.1 7)) (ws' := wS E ad S ++ (wS E bd (setA H 7 (fcpy (S.1 7) (H.1 7) (40))))) C wd1197 ⟨wd743, wd742, wd20⟩ 7 16 rfl rfl (by omega) rfl (Nat.le_of_ble_eq_true rfl) (Nat.le_of_ble_eq_true rfl) dX10_copy_6 rfl ?_
  exact z_vret C Z dX10_copy_9 rfl rfl
set_option maxHeartbeats 4000000 in
set_option maxRecDepth 100000 in
theorem k_X10_copy_8 (l : Launch) (E : gE) (ad : Nat → Nat) (S : gS) (bd : Nat → Nat) (H : gS) : gK l E yX10_copy cX10_copy 2 none r_X10_copy [.ref (ad 8), .ref (bd 8)] (wS E ad S ++ (wS E bd H)) (none) (wS E ad S ++ (wS E bd (setA H 8 (fcpy (S.1 8) (H.1 8) 6)))) := by
  refine gK_by RX10 rfl mX10_copy [(0, .ref (ad 8)), (1, .ref (bd 8))] (Nat.le_of_ble_eq_true rfl) rfl ?_
  intro zp ze zs zm za zb zh zc zA zQ C Z
  refine g_aload_n C dX10_copy_0 rfl 0 rfl ?_
  refine g_iconst C dX10_copy_1 rfl ?_
  refine g_aload_n C dX10_copy_2 rfl 1 rfl ?_
  refine g_iconst C dX10_copy_3 rfl ?_
  refine g_aload_n C dX10_copy_4 rfl 0 rfl ?_
  refine g_alen (n := 6) (f := (S.1 8)) C 8 rfl dX10_copy_5 rfl ?_
  refine g_copy (f := (S.1 8)) (g := (H.1 8)) (ws' := wS E ad S ++ (wS E bd (setA H 8 (fcpy (S.1 8) (H.1 8) (6))))) C wd1197 ⟨wd743, wd742, wd20⟩ 8 17 rfl rfl (by omega) rfl (Nat.le_of_ble_eq_true rfl) (Nat.le_of_ble_eq_true rfl) dX10_copy_6 rfl ?_
  exact z_vret C Z dX10_copy_9 rfl rfl
abbrev r_X10_become : Room := { frames := 2, cells := 0, slots := 0, locals := 39 }
set_option maxHeartbeats 4000000 in
set_option maxRecDepth 100000 in
theorem k_X10_become (l : Launch) (E : gE) (bd : Nat → Nat) (H : gS) (ad : Nat → Nat) (S : gS) : gK l E yX10_become cX10_become 2 none r_X10_become [.ref (bd 0), .ref (ad 0)] (wS E bd H ++ (wS E ad S)) (none) (wS E bd (becS S H) ++ (wS E ad S)) := by
  refine gK_by RX10 rfl mX10_become [(0, .ref (bd 0)), (1, .ref (ad 0))] (Nat.le_of_ble_eq_true rfl) rfl ?_
  intro zp ze zs zm za zb zh zc zA zQ C Z
  refine g_aload_n C dX10_become_0 rfl 0 rfl ?_
  refine g_aload_n C dX10_become_1 rfl 1 rfl ?_
  refine g_get (v := .int (iI (S.2 0))) (T := TX10) (N := 10) (ci := 9) C in_X10 9 rfl rfl 0 (by decide) wd893 (Or.inl rfl) rfl dX10_become_2 rfl ?_
  refine g_put (T := TX10) (N := 10) (ci := 9) (ws' := wS E bd (setI H 0 (S.2 0)) ++ (wS E ad S)) C in_X10 tyX10 tyX10_ok nmX10 0 rfl rfl 0 (by decide) wd893 (Or.inl rfl) rfl (ty := .int) (by decide +kernel) rfl rfl (Nat.le_of_ble_eq_true rfl) rfl dX10_become_5 rfl ?_
  refine g_aload_n C dX10_become_8 rfl 0 rfl ?_
  refine g_aload_n C dX10_become_9 rfl 1 rfl ?_
  refine g_get (v := .int (iI (S.2 1))) (T := TX10) (N := 10) (ci := 9) C in_X10 9 rfl rfl 1 (by decide) wd895 (Or.inl rfl) rfl dX10_become_10 rfl ?_
  refine g_put (T := TX10) (N := 10) (ci := 9) (ws' := wS E bd (setI (setI H 0 (S.2 0)) 1 (S.2 1)) ++ (wS E ad S)) C in_X10 tyX10 tyX10_ok nmX10 0 rfl rfl 1 (by decide) wd895 (Or.inl rfl) rfl (ty := .int) (by decide +kernel) rfl rfl (Nat.le_of_ble_eq_true rfl) rfl dX10_become_13 rfl ?_
  refine g_aload_n C dX10_become_16 rfl 1 rfl ?_
  refine g_get (v := .ref (ad 1)) (T := TX10) (N := 10) (ci := 9) C in_X10 9 rfl rfl 2 (by decide) wd897 (Or.inl rfl) rfl dX10_become_17 rfl ?_
  refine g_aload_n C dX10_become_20 rfl 0 rfl ?_
  refine g_get (v := .ref (bd 1)) (T := TX10) (N := 10) (ci := 9) C in_X10 0 rfl rfl 2 (by decide) wd897 (Or.inl rfl) rfl dX10_become_21 rfl ?_
  refine g_perm (ws1 := wS E ad S ++ (wS E bd (setI (setI H 0 (S.2 0)) 1 (S.2 1)))) pm_10 ?_
  refine g_callS0 (As := [.ref (ad 1), .ref (bd 1)]) (rv := none) (w1 := wS E ad S ++ (wS E bd (setI (setI (setA H 1 (fcpy (S.1 1) (H.1 1) 80)) 0 (S.2 0)) 1 (S.2 1)))) (kc' := 0) (ks' := 0) C (k_X10_copy_1 l E ad S bd (setI (setI H 0 (S.2 0)) 1 (S.2 1))) mX10_copy wd1195 wd1194 rfl rfl (Nat.le_of_ble_eq_true rfl) ⟨Nat.le_of_ble_eq_true rfl, Nat.le_of_ble_eq_true rfl⟩ ⟨Nat.le_of_ble_eq_true rfl, Nat.le_of_ble_eq_true rfl⟩ rfl rfl dX10_become_24 rfl ?_
  refine g_perm (ws1 := wS E bd (setI (setI (setA H 1 (fcpy (S.1 1) (H.1 1) 80)) 0 (S.2 0)) 1 (S.2 1)) ++ (wS E ad S)) pm_10 ?_
  refine g_aload_n C dX10_become_27 rfl 1 rfl ?_
  refine g_get (v := .ref (ad 2)) (T := TX10) (N := 10) (ci := 9) C in_X10 9 rfl rfl 3 (by decide) wd899 (Or.inl rfl) rfl dX10_become_28 rfl ?_
  refine g_aload_n C dX10_become_31 rfl 0 rfl ?_
  refine g_get (v := .ref (bd 2)) (T := TX10) (N := 10) (ci := 9) C in_X10 0 rfl rfl 3 (by decide) wd899 (Or.inl rfl) rfl dX10_become_32 rfl ?_
  refine g_perm (ws1 := wS E ad S ++ (wS E bd (setI (setI (setA H 1 (fcpy (S.1 1) (H.1 1) 80)) 0 (S.2 0)) 1 (S.2 1)))) pm_10 ?_
  refine g_callS0 (As := [.ref (ad 2), .ref (bd 2)]) (rv := none) (w1 := wS E ad S ++ (wS E bd (setI (setI (setA (setA H 1 (fcpy (S.1 1) (H.1 1) 80)) 2 (fcpy (S.1 2) (H.1 2) 80)) 0 (S.2 0)) 1 (S.2 1)))) (kc' := 0) (ks' := 0) C (k_X10_copy_2 l E ad S bd (setI (setI (setA H 1 (fcpy (S.1 1) (H.1 1) 80)) 0 (S.2 0)) 1 (S.2 1))) mX10_copy wd1195 wd1194 rfl rfl (Nat.le_of_ble_eq_true rfl) ⟨Nat.le_of_ble_eq_true rfl, Nat.le_of_ble_eq_true rfl⟩ ⟨Nat.le_of_ble_eq_true rfl, Nat.le_of_ble_eq_true rfl⟩ rfl rfl dX10_become_35 rfl ?_
  refine g_perm (ws1 := wS E bd (setI (setI (setA (setA H 1 (fcpy (S.1 1) (H.1 1) 80)) 2 (fcpy (S.1 2) (H.1 2) 80)) 0 (S.2 0)) 1 (S.2 1)) ++ (wS E ad S)) pm_10 ?_
  refine g_aload_n C dX10_become_38 rfl 1 rfl ?_
  refine g_get (v := .ref (ad 3)) (T := TX10) (N := 10) (ci := 9) C in_X10 9 rfl rfl 4 (by decide) wd901 (Or.inl rfl) rfl dX10_become_39 rfl ?_
  refine g_aload_n C dX10_become_42 rfl 0 rfl ?_
  refine g_get (v := .ref (bd 3)) (T := TX10) (N := 10) (ci := 9) C in_X10 0 rfl rfl 4 (by decide) wd901 (Or.inl rfl) rfl dX10_become_43 rfl ?_
  refine g_perm (ws1 := wS E ad S ++ (wS E bd (setI (setI (setA (setA H 1 (fcpy (S.1 1) (H.1 1) 80)) 2 (fcpy (S.1 2) (H.1 2) 80)) 0 (S.2 0)) 1 (S.2 1)))) pm_10 ?_
  refine g_callS0 (As := [.ref (ad 3), .ref (bd 3)]) (rv := none) (w1 := wS E ad S ++ (wS E bd (setI (setI (setA (setA (setA H 1 (fcpy (S.1 1) (H.1 1) 80)) 2 (fcpy (S.1 2) (H.1 2) 80)) 3 (fcpy (S.1 3) (H.1 3) 80)) 0 (S.2 0)) 1 (S.2 1)))) (kc' := 0) (ks' := 0) C (k_X10_copy_3 l E ad S bd (setI (setI (setA (setA H 1 (fcpy (S.1 1) (H.1 1) 80)) 2 (fcpy (S.1 2) (H.1 2) 80)) 0 (S.2 0)) 1 (S.2 1))) mX10_copy wd1195 wd1194 rfl rfl (Nat.le_of_ble_eq_true rfl) ⟨Nat.le_of_ble_eq_true rfl, Nat.le_of_ble_eq_true rfl⟩ ⟨Nat.le_of_ble_eq_true rfl, Nat.le_of_ble_eq_true rfl⟩ rfl rfl dX10_become_46 rfl ?_
  refine g_perm (ws1 := wS E bd (setI (setI (setA (setA (setA H 1 (fcpy (S.1 1) (H.1 1) 80)) 2 (fcpy (S.1 2) (H.1 2) 80)) 3 (fcpy (S.1 3) (H.1 3) 80)) 0 (S.2 0)) 1 (S.2 1)) ++ (wS E ad S)) pm_10 ?_
  refine g_aload_n C dX10_become_49 rfl 1 rfl ?_
  refine g_get (v := .ref (ad 4)) (T := TX10) (N := 10) (ci := 9) C in_X10 9 rfl rfl 5 (by decide) wd903 (Or.inl rfl) rfl dX10_become_50 rfl ?_
  refine g_aload_n C dX10_become_53 rfl 0 rfl ?_
  refine g_get (v := .ref (bd 4)) (T := TX10) (N := 10) (ci := 9) C in_X10 0 rfl rfl 5 (by decide) wd903 (Or.inl rfl) rfl dX10_become_54 rfl ?_
  refine g_perm (ws1 := wS E ad S ++ (wS E bd (setI (setI (setA (setA (setA H 1 (fcpy (S.1 1) (H.1 1) 80)) 2 (fcpy (S.1 2) (H.1 2) 80)) 3 (fcpy (S.1 3) (H.1 3) 80)) 0 (S.2 0)) 1 (S.2 1)))) pm_10 ?_
  refine g_callS0 (As := [.ref (ad 4), .ref (bd 4)]) (rv := none) (w1 := wS E ad S ++ (wS E bd (setI (setI (setA (setA (setA (setA H 1 (fcpy (S.1 1) (H.1 1) 80)) 2 (fcpy (S.1 2) (H.1 2) 80)) 3 (fcpy (S.1 3) (H.1 3) 80)) 4 (fcpy (S.1 4) (H.1 4) 25)) 0 (S.2 0)) 1 (S.2 1)))) (kc' := 0) (ks' := 0) C (k_X10_copy_4 l E ad S bd (setI (setI (setA (setA (setA H 1 (fcpy (S.1 1) (H.1 1) 80)) 2 (fcpy (S.1 2) (H.1 2) 80)) 3 (fcpy (S.1 3) (H.1 3) 80)) 0 (S.2 0)) 1 (S.2 1))) mX10_copy wd1195 wd1194 rfl rfl (Nat.le_of_ble_eq_true rfl) ⟨Nat.le_of_ble_eq_true rfl, Nat.le_of_ble_eq_true rfl⟩ ⟨Nat.le_of_ble_eq_true rfl, Nat.le_of_ble_eq_true rfl⟩ rfl rfl dX10_become_57 rfl ?_
  refine g_perm (ws1 := wS E bd (setI (setI (setA (setA (setA (setA H 1 (fcpy (S.1 1) (H.1 1) 80)) 2 (fcpy (S.1 2) (H.1 2) 80)) 3 (fcpy (S.1 3) (H.1 3) 80)) 4 (fcpy (S.1 4) (H.1 4) 25)) 0 (S.2 0)) 1 (S.2 1)) ++ (wS E ad S)) pm_10 ?_
  refine g_aload_n C dX10_become_60 rfl 1 rfl ?_
  refine g_get (v := .ref (ad 5)) (T := TX10) (N := 10) (ci := 9) C in_X10 9 rfl rfl 6 (by decide) wd905 (Or.inl rfl) rfl dX10_become_61 rfl ?_
  refine g_aload_n C dX10_become_64 rfl 0 rfl ?_
  refine g_get (v := .ref (bd 5)) (T := TX10) (N := 10) (ci := 9) C in_X10 0 rfl rfl 6 (by decide) wd905 (Or.inl rfl) rfl dX10_become_65 rfl ?_
  refine g_perm (ws1 := wS E ad S ++ (wS E bd (setI (setI (setA (setA (setA (setA H 1 (fcpy (S.1 1) (H.1 1) 80)) 2 (fcpy (S.1 2) (H.1 2) 80)) 3 (fcpy (S.1 3) (H.1 3) 80)) 4 (fcpy (S.1 4) (H.1 4) 25)) 0 (S.2 0)) 1 (S.2 1)))) pm_10 ?_
  refine g_callS0 (As := [.ref (ad 5), .ref (bd 5)]) (rv := none) (w1 := wS E ad S ++ (wS E bd (setI (setI (setA (setA (setA (setA (setA H 1 (fcpy (S.1 1) (H.1 1) 80)) 2 (fcpy (S.1 2) (H.1 2) 80)) 3 (fcpy (S.1 3) (H.1 3) 80)) 4 (fcpy (S.1 4) (H.1 4) 25)) 5 (fcpy (S.1 5) (H.1 5) 8)) 0 (S.2 0)) 1 (S.2 1)))) (kc' := 0) (ks' := 0) C (k_X10_copy_5 l E ad S bd (setI (setI (setA (setA (setA (setA H 1 (fcpy (S.1 1) (H.1 1) 80)) 2 (fcpy (S.1 2) (H.1 2) 80)) 3 (fcpy (S.1 3) (H.1 3) 80)) 4 (fcpy (S.1 4) (H.1 4) 25)) 0 (S.2 0)) 1 (S.2 1))) mX10_copy wd1195 wd1194 rfl rfl (Nat.le_of_ble_eq_true rfl) ⟨Nat.le_of_ble_eq_true rfl, Nat.le_of_ble_eq_true rfl⟩ ⟨Nat.le_of_ble_eq_true rfl, Nat.le_of_ble_eq_true rfl⟩ rfl rfl dX10_become_68 rfl ?_
  refine g_perm (ws1 := wS E bd (setI (setI (setA (setA (setA (setA (setA H 1 (fcpy (S.1 1) (H.1 1) 80)) 2 (fcpy (S.1 2) (H.1 2) 80)) 3 (fcpy (S.1 3) (H.1 3) 80)) 4 (fcpy (S.1 4) (H.1 4) 25)) 5 (fcpy (S.1 5) (H.1 5) 8)) 0 (S.2 0)) 1 (S.2 1)) ++ (wS E ad S)) pm_10 ?_
  refine g_aload_n C dX10_become_71 rfl 1 rfl ?_
  refine g_get (v := .ref (ad 6)) (T := TX10) (N := 10) (ci := 9) C in_X10 9 rfl rfl 7 (by decide) wd907 (Or.inl rfl) rfl dX10_become_72 rfl ?_
  refine g_aload_n C dX10_become_75 rfl 0 rfl ?_
  refine g_get (v := .ref (bd 6)) (T := TX10) (N := 10) (ci := 9) C in_X10 0 rfl rfl 7 (by decide) wd907 (Or.inl rfl) rfl dX10_become_76 rfl ?_
  refine g_perm (ws1 := wS E ad S ++ (wS E bd (setI (setI (setA (setA (setA (setA (setA H 1 (fcpy (S.1 1) (H.1 1) 80)) 2 (fcpy (S.1 2) (H.1 2) 80)) 3 (fcpy (S.1 3) (H.1 3) 80)) 4 (fcpy (S.1 4) (H.1 4) 25)) 5 (fcpy (S.1 5) (H.1 5) 8)) 0 (S.2 0)) 1 (S.2 1)))) pm_10 ?_
  refine g_callS0 (As := [.ref (ad 6), .ref (bd 6)]) (rv := none) (w1 := wS E ad S ++ (wS E bd (setI (setI (setA (setA (setA (setA (setA (setA H 1 (fcpy (S.1 1) (H.1 1) 80)) 2 (fcpy (S.1 2) (H.1 2) 80)) 3 (fcpy (S.1 3) (H.1 3) 80)) 4 (fcpy (S.1 4) (H.1 4) 25)) 5 (fcpy (S.1 5) (H.1 5) 8)) 6 (fcpy (S.1 6) (H.1 6) 8)) 0 (S.2 0)) 1 (S.2 1)))) (kc' := 0) (ks' := 0) C (k_X10_copy_6 l E ad S bd (setI (setI (setA (setA (setA (setA (setA H 1 (fcpy (S.1 1) (H.1 1) 80)) 2 (fcpy (S.1 2) (H.1 2) 80)) 3 (fcpy (S.1 3) (H.1 3) 80)) 4 (fcpy (S.1 4) (H.1 4) 25)) 5 (fcpy (S.1 5) (H.1 5) 8)) 0 (S.2 0)) 1 (S.2 1))) mX10_copy wd1195 wd1194 rfl rfl (Nat.le_of_ble_eq_true rfl) ⟨Nat.le_of_ble_eq_true rfl, Nat.le_of_ble_eq_true rfl⟩ ⟨Nat.le_of_ble_eq_true rfl, Nat.le_of_ble_eq_true rfl⟩ rfl rfl dX10_become_79 rfl ?_
  refine g_perm (ws1 := wS E bd (setI (setI (setA (setA (setA (setA (setA (setA H 1 (fcpy (S.1 1) (H.1 1) 80)) 2 (fcpy (S.1 2) (H.1 2) 80)) 3 (fcpy (S.1 3) (H.1 3) 80)) 4 (fcpy (S.1 4) (H.1 4) 25)) 5 (fcpy (S.1 5) (H.1 5) 8)) 6 (fcpy (S.1 6) (H.1 6) 8)) 0 (S.2 0)) 1 (S.2 1)) ++ (wS E ad S)) pm_10 ?_
  refine g_aload_n C dX10_become_82 rfl 1 rfl ?_
  refine g_get (v := .ref (ad 7)) (T := TX10) (N := 10) (ci := 9) C in_X10 9 rfl rfl 8 (by decide) wd909 (Or.inl rfl) rfl dX10_become_83 rfl ?_
  refine g_aload_n C dX10_become_86 rfl 0 rfl ?_
  refine g_get (v := .ref (bd 7)) (T := TX10) (N := 10) (ci := 9) C in_X10 0 rfl rfl 8 (by decide) wd909 (Or.inl rfl) rfl dX10_become_87 rfl ?_
  refine g_perm (ws1 := wS E ad S ++ (wS E bd (setI (setI (setA (setA (setA (setA (setA (setA H 1 (fcpy (S.1 1) (H.1 1) 80)) 2 (fcpy (S.1 2) (H.1 2) 80)) 3 (fcpy (S.1 3) (H.1 3) 80)) 4 (fcpy (S.1 4) (H.1 4) 25)) 5 (fcpy (S.1 5) (H.1 5) 8)) 6 (fcpy (S.1 6) (H.1 6) 8)) 0 (S.2 0)) 1 (S.2 1)))) pm_10 ?_
  refine g_callS0 (As := [.ref (ad 7), .ref (bd 7)]) (rv := none) (w1 := wS E ad S ++ (wS E bd (setI (setI (setA (setA (setA (setA (setA (setA (setA H 1 (fcpy (S.1 1) (H.1 1) 80)) 2 (fcpy (S.1 2) (H.1 2) 80)) 3 (fcpy (S.1 3) (H.1 3) 80)) 4 (fcpy (S.1 4) (H.1 4) 25)) 5 (fcpy (S.1 5) (H.1 5) 8)) 6 (fcpy (S.1 6) (H.1 6) 8)) 7 (fcpy (S.1 7) (H.1 7) 40)) 0 (S.2 0)) 1 (S.2 1)))) (kc' := 0) (ks' := 0) C (k_X10_copy_7 l E ad S bd (setI (setI (setA (setA (setA (setA (setA (setA H 1 (fcpy (S.1 1) (H.1 1) 80)) 2 (fcpy (S.1 2) (H.1 2) 80)) 3 (fcpy (S.1 3) (H.1 3) 80)) 4 (fcpy (S.1 4) (H.1 4) 25)) 5 (fcpy (S.1 5) (H.1 5) 8)) 6 (fcpy (S.1 6) (H.1 6) 8)) 0 (S.2 0)) 1 (S.2 1))) mX10_copy wd1195 wd1194 rfl rfl (Nat.le_of_ble_eq_true rfl) ⟨Nat.le_of_ble_eq_true rfl, Nat.le_of_ble_eq_true rfl⟩ ⟨Nat.le_of_ble_eq_true rfl, Nat.le_of_ble_eq_true rfl⟩ rfl rfl dX10_become_90 rfl ?_
  refine g_perm (ws1 := wS E bd (setI (setI (setA (setA (setA (setA (setA (setA (setA H 1 (fcpy (S.1 1) (H.1 1) 80)) 2 (fcpy (S.1 2) (H.1 2) 80)) 3 (fcpy (S.1 3) (H.1 3) 80)) 4 (fcpy (S.1 4) (H.1 4) 25)) 5 (fcpy (S.1 5) (H.1 5) 8)) 6 (fcpy (S.1 6) (H.1 6) 8)) 7 (fcpy (S.1 7) (H.1 7) 40)) 0 (S.2 0)) 1 (S.2 1)) ++ (wS E ad S)) pm_10 ?_
  refine g_aload_n C dX10_become_93 rfl 1 rfl ?_
  refine g_get (v := .ref (ad 8)) (T := TX10) (N := 10) (ci := 9) C in_X10 9 rfl rfl 9 (by decide) wd911 (Or.inl rfl) rfl dX10_become_94 rfl ?_
  refine g_aload_n C dX10_become_97 rfl 0 rfl ?_
  refine g_get (v := .ref (bd 8)) (T := TX10) (N := 10) (ci := 9) C in_X10 0 rfl rfl 9 (by decide) wd911 (Or.inl rfl) rfl dX10_become_98 rfl ?_
  refine g_perm (ws1 := wS E ad S ++ (wS E bd (setI (setI (setA (setA (setA (setA (setA (setA (setA H 1 (fcpy (S.1 1) (H.1 1) 80)) 2 (fcpy (S.1 2) (H.1 2) 80)) 3 (fcpy (S.1 3) (H.1 3) 80)) 4 (fcpy (S.1 4) (H.1 4) 25)) 5 (fcpy (S.1 5) (H.1 5) 8)) 6 (fcpy (S.1 6) (H.1 6) 8)) 7 (fcpy (S.1 7) (H.1 7) 40)) 0 (S.2 0)) 1 (S.2 1)))) pm_10 ?_
  refine g_callS0 (As := [.ref (ad 8), .ref (bd 8)]) (rv := none) (w1 := wS E ad S ++ (wS E bd (setI (setI (setA (setA (setA (setA (setA (setA (setA (setA H 1 (fcpy (S.1 1) (H.1 1) 80)) 2 (fcpy (S.1 2) (H.1 2) 80)) 3 (fcpy (S.1 3) (H.1 3) 80)) 4 (fcpy (S.1 4) (H.1 4) 25)) 5 (fcpy (S.1 5) (H.1 5) 8)) 6 (fcpy (S.1 6) (H.1 6) 8)) 7 (fcpy (S.1 7) (H.1 7) 40)) 8 (fcpy (S.1 8) (H.1 8) 6)) 0 (S.2 0)) 1 (S.2 1)))) (kc' := 0) (ks' := 0) C (k_X10_copy_8 l E ad S bd (setI (setI (setA (setA (setA (setA (setA (setA (setA H 1 (fcpy (S.1 1) (H.1 1) 80)) 2 (fcpy (S.1 2) (H.1 2) 80)) 3 (fcpy (S.1 3) (H.1 3) 80)) 4 (fcpy (S.1 4) (H.1 4) 25)) 5 (fcpy (S.1 5) (H.1 5) 8)) 6 (fcpy (S.1 6) (H.1 6) 8)) 7 (fcpy (S.1 7) (H.1 7) 40)) 0 (S.2 0)) 1 (S.2 1))) mX10_copy wd1195 wd1194 rfl rfl (Nat.le_of_ble_eq_true rfl) ⟨Nat.le_of_ble_eq_true rfl, Nat.le_of_ble_eq_true rfl⟩ ⟨Nat.le_of_ble_eq_true rfl, Nat.le_of_ble_eq_true rfl⟩ rfl rfl dX10_become_101 rfl ?_
  refine g_perm (ws1 := wS E bd (setI (setI (setA (setA (setA (setA (setA (setA (setA (setA H 1 (fcpy (S.1 1) (H.1 1) 80)) 2 (fcpy (S.1 2) (H.1 2) 80)) 3 (fcpy (S.1 3) (H.1 3) 80)) 4 (fcpy (S.1 4) (H.1 4) 25)) 5 (fcpy (S.1 5) (H.1 5) 8)) 6 (fcpy (S.1 6) (H.1 6) 8)) 7 (fcpy (S.1 7) (H.1 7) 40)) 8 (fcpy (S.1 8) (H.1 8) 6)) 0 (S.2 0)) 1 (S.2 1)) ++ (wS E ad S)) pm_10 ?_
  exact z_vret C Z dX10_become_104 rfl rfl
