abbrev r_X4_init : Room := { frames := 1, cells := 0, slots := 0, locals := 12 }
set_option maxHeartbeats 4000000 in
set_option maxRecDepth 100000 in
theorem k_X4_init_X5 (l : Launch) (E : gE) (o a : Nat) : gK l E yX4_init cX4_init 2 none r_X4_init [.ref o, .ref a] ([(o, .inr (4, [.null, .int (iI 0), .null, .null, .null, .null]))]) (none) ([(o, .inr (4, [.ref a, .int (iI 0), .null, .null, .null, .null]))]) := by
  refine gK_byN RX4 rfl mX4_init [(0, .ref o), (1, .ref a)] (Nat.le_of_ble_eq_true rfl) rfl ?_
  intro zp ze zs zm za zb zh zc zA zQ hin9 C Z
  refine g_aload_n C dX4_init_0 rfl 0 rfl ?_
  refine g_objInit C wd75 ⟨wd27, wd28⟩ (Nat.le_of_ble_eq_true rfl) (Nat.le_of_ble_eq_true rfl) dX4_init_1 rfl ?_
  refine g_aload_n C dX4_init_4 rfl 0 rfl ?_
  refine g_aload_n C dX4_init_5 rfl 1 rfl ?_
  refine g_putF (T := TX5) (N := 6) (ci := 4) (ws' := [(o, .inr (4, [.ref a, .int (iI 0), .null, .null, .null, .null]))]) C hin9 in_X5 tyX5 tyX5_ok nmX5 0 rfl rfl 0 (by decide) wd81 rfl rfl (ty := (.array .int)) (by decide +kernel) rfl rfl (Nat.le_of_ble_eq_true rfl) rfl dX4_init_6 rfl ?_
  exact z_vret C Z dX4_init_9 rfl rfl
set_option maxHeartbeats 4000000 in
set_option maxRecDepth 100000 in
theorem k_X4_init_X1 (l : Launch) (E : gE) (o a : Nat) : gK l E yX4_init cX4_init 2 none r_X4_init [.ref o, .ref a] ([(o, .inr (1, [.null, .int (iI 0), .null]))]) (none) ([(o, .inr (1, [.ref a, .int (iI 0), .null]))]) := by
  refine gK_byN RX4 rfl mX4_init [(0, .ref o), (1, .ref a)] (Nat.le_of_ble_eq_true rfl) rfl ?_
  intro zp ze zs zm za zb zh zc zA zQ hin9 C Z
  refine g_aload_n C dX4_init_0 rfl 0 rfl ?_
  refine g_objInit C wd75 ⟨wd27, wd28⟩ (Nat.le_of_ble_eq_true rfl) (Nat.le_of_ble_eq_true rfl) dX4_init_1 rfl ?_
  refine g_aload_n C dX4_init_4 rfl 0 rfl ?_
  refine g_aload_n C dX4_init_5 rfl 1 rfl ?_
  refine g_putF (T := TX1) (N := 3) (ci := 1) (ws' := [(o, .inr (1, [.ref a, .int (iI 0), .null]))]) C hin9 in_X1 tyX1 tyX1_ok nmX1 0 rfl rfl 0 (by decide) wd81 rfl rfl (ty := (.array .int)) (by decide +kernel) rfl rfl (Nat.le_of_ble_eq_true rfl) rfl dX4_init_6 rfl ?_
  exact z_vret C Z dX4_init_9 rfl rfl
set_option maxHeartbeats 4000000 in
set_option maxRecDepth 100000 in
theorem k_X4_init_X6 (l : Launch) (E : gE) (o a : Nat) : gK l E yX4_init cX4_init 2 none r_X4_init [.ref o, .ref a] ([(o, .inr (5, [.null, .int (iI 0), .null, .null, .null]))]) (none) ([(o, .inr (5, [.ref a, .int (iI 0), .null, .null, .null]))]) := by
  refine gK_byN RX4 rfl mX4_init [(0, .ref o), (1, .ref a)] (Nat.le_of_ble_eq_true rfl) rfl ?_
  intro zp ze zs zm za zb zh zc zA zQ hin9 C Z
  refine g_aload_n C dX4_init_0 rfl 0 rfl ?_
  refine g_objInit C wd75 ⟨wd27, wd28⟩ (Nat.le_of_ble_eq_true rfl) (Nat.le_of_ble_eq_true rfl) dX4_init_1 rfl ?_
  refine g_aload_n C dX4_init_4 rfl 0 rfl ?_
  refine g_aload_n C dX4_init_5 rfl 1 rfl ?_
  refine g_putF (T := TX6) (N := 5) (ci := 5) (ws' := [(o, .inr (5, [.ref a, .int (iI 0), .null, .null, .null]))]) C hin9 in_X6 tyX6 tyX6_ok nmX6 0 rfl rfl 0 (by decide) wd81 rfl rfl (ty := (.array .int)) (by decide +kernel) rfl rfl (Nat.le_of_ble_eq_true rfl) rfl dX4_init_6 rfl ?_
  exact z_vret C Z dX4_init_9 rfl rfl
set_option maxHeartbeats 4000000 in
set_option maxRecDepth 100000 in
theorem k_X4_init_X2 (l : Launch) (E : gE) (o a : Nat) : gK l E yX4_init cX4_init 2 none r_X4_init [.ref o, .ref a] ([(o, .inr (2, [.null, .int (iI 0), .null, .null, .int (iI 0)]))]) (none) ([(o, .inr (2, [.ref a, .int (iI 0), .null, .null, .int (iI 0)]))]) := by
  refine gK_byN RX4 rfl mX4_init [(0, .ref o), (1, .ref a)] (Nat.le_of_ble_eq_true rfl) rfl ?_
  intro zp ze zs zm za zb zh zc zA zQ hin9 C Z
  refine g_aload_n C dX4_init_0 rfl 0 rfl ?_
  refine g_objInit C wd75 ⟨wd27, wd28⟩ (Nat.le_of_ble_eq_true rfl) (Nat.le_of_ble_eq_true rfl) dX4_init_1 rfl ?_
  refine g_aload_n C dX4_init_4 rfl 0 rfl ?_
  refine g_aload_n C dX4_init_5 rfl 1 rfl ?_
  refine g_putF (T := TX2) (N := 5) (ci := 2) (ws' := [(o, .inr (2, [.ref a, .int (iI 0), .null, .null, .int (iI 0)]))]) C hin9 in_X2 tyX2 tyX2_ok nmX2 0 rfl rfl 0 (by decide) wd81 rfl rfl (ty := (.array .int)) (by decide +kernel) rfl rfl (Nat.le_of_ble_eq_true rfl) rfl dX4_init_6 rfl ?_
  exact z_vret C Z dX4_init_9 rfl rfl
set_option maxHeartbeats 4000000 in
set_option maxRecDepth 100000 in
theorem k_X4_init_X0 (l : Launch) (E : gE) (o a : Nat) : gK l E yX4_init cX4_init 2 none r_X4_init [.ref o, .ref a] ([(o, .inr (0, [.null, .int (iI 0), .null]))]) (none) ([(o, .inr (0, [.ref a, .int (iI 0), .null]))]) := by
  refine gK_byN RX4 rfl mX4_init [(0, .ref o), (1, .ref a)] (Nat.le_of_ble_eq_true rfl) rfl ?_
  intro zp ze zs zm za zb zh zc zA zQ hin9 C Z
  refine g_aload_n C dX4_init_0 rfl 0 rfl ?_
  refine g_objInit C wd75 ⟨wd27, wd28⟩ (Nat.le_of_ble_eq_true rfl) (Nat.le_of_ble_eq_true rfl) dX4_init_1 rfl ?_
  refine g_aload_n C dX4_init_4 rfl 0 rfl ?_
  refine g_aload_n C dX4_init_5 rfl 1 rfl ?_
  refine g_putF (T := TX0) (N := 3) (ci := 0) (ws' := [(o, .inr (0, [.ref a, .int (iI 0), .null]))]) C hin9 in_X0 tyX0 tyX0_ok nmX0 0 rfl rfl 0 (by decide) wd81 rfl rfl (ty := (.array .int)) (by decide +kernel) rfl rfl (Nat.le_of_ble_eq_true rfl) rfl dX4_init_6 rfl ?_
  exact z_vret C Z dX4_init_9 rfl rfl
abbrev r_X5_init : Room := { frames := 2, cells := 5, slots := 25, locals := 33 }
set_option maxHeartbeats 4000000 in
set_option maxRecDepth 100000 in
theorem k_X5_init (l : Launch) (E : gE) (o : Nat) : gKX l E yX5_init cX5_init 1 r_X5_init [.ref o] ([(o, .inr (4, [.null, .int (iI 0), .null, .null, .null, .null]))]) (fun w => ∃ a1 a2 a3 a4 a5 : Nat, w = [(o, .inr (4, [.ref a1, .int (iI 0), .ref a2, .ref a3, .ref a4, .ref a5])), (a1, ca E 5 (fun _ => 0)), (a2, ca E 5 (fun _ => 0)), (a3, ca E 5 (fun _ => 0)), (a4, cz E 5 (fun _ => 0)), (a5, ca E 5 (fun _ => 0))]) := by
  refine gKX_byN RX5 rfl mX5_init [(0, .ref o)] (Nat.le_of_ble_eq_true rfl) rfl ?_
  intro zp ze zs zm za zb zh zc zA zQ hin9 C Z
  refine g_aload_n C dX5_init_0 rfl 0 rfl ?_
  refine g_iconst C dX5_init_1 rfl ?_
  refine g_newa (N := 5) C wd66 rfl (by decide) ⟨Nat.le_of_ble_eq_true rfl, Nat.le_of_ble_eq_true rfl⟩ dX5_init_2 rfl (fun na2 => ?_)
  refine g_to [0] (ws1 := [(o, .inr (4, [.null, .int (iI 0), .null, .null, .null, .null])), (na2, ca E 5 (fun _ => 0))]) ?_ rfl rfl rfl
  refine g_callIf (As := [.ref na2]) (rv := none) (w1 := [(o, .inr (4, [.ref na2, .int (iI 0), .null, .null, .null, .null]))]) (kc' := 1) (ks' := 5) C ([(na2, ca E 5 (fun _ => 0))]) (k_X4_init_X5 l E o na2) mX4_init wd73 rfl wd72 rfl rfl (Nat.le_of_ble_eq_true rfl) ⟨Nat.le_of_ble_eq_true rfl, Nat.le_of_ble_eq_true rfl⟩ ⟨Nat.le_of_ble_eq_true rfl, Nat.le_of_ble_eq_true rfl⟩ rfl rfl rfl dX5_init_4 rfl ?_
  refine g_to [0] (ws1 := [(o, .inr (4, [.ref na2, .int (iI 0), .null, .null, .null, .null])), (na2, ca E 5 (fun _ => 0))]) ?_ rfl rfl rfl
  refine g_aload_n C dX5_init_7 rfl 0 rfl ?_
  refine g_iconst C dX5_init_8 rfl ?_
  refine g_newa (N := 5) C wd66 rfl (by decide) ⟨Nat.le_of_ble_eq_true rfl, Nat.le_of_ble_eq_true rfl⟩ dX5_init_9 rfl (fun na9 => ?_)
  refine g_to [0] (ws1 := [(o, .inr (4, [.ref na2, .int (iI 0), .null, .null, .null, .null])), (na2, ca E 5 (fun _ => 0)), (na9, ca E 5 (fun _ => 0))]) ?_ rfl rfl rfl
  refine g_putF (T := TX5) (N := 6) (ci := 4) (ws' := [(o, .inr (4, [.ref na2, .int (iI 0), .ref na9, .null, .null, .null])), (na2, ca E 5 (fun _ => 0)), (na9, ca E 5 (fun _ => 0))]) C hin9 in_X5 tyX5 tyX5_ok nmX5 0 rfl rfl 2 (by decide) wd76 rfl rfl (ty := (.array .int)) (by decide +kernel) rfl rfl (Nat.le_of_ble_eq_true rfl) rfl dX5_init_11 rfl ?_
  refine g_aload_n C dX5_init_14 rfl 0 rfl ?_
  refine g_iconst C dX5_init_15 rfl ?_
  refine g_newa (N := 5) C wd66 rfl (by decide) ⟨Nat.le_of_ble_eq_true rfl, Nat.le_of_ble_eq_true rfl⟩ dX5_init_16 rfl (fun na16 => ?_)
  refine g_to [0] (ws1 := [(o, .inr (4, [.ref na2, .int (iI 0), .ref na9, .null, .null, .null])), (na2, ca E 5 (fun _ => 0)), (na9, ca E 5 (fun _ => 0)), (na16, ca E 5 (fun _ => 0))]) ?_ rfl rfl rfl
  refine g_putF (T := TX5) (N := 6) (ci := 4) (ws' := [(o, .inr (4, [.ref na2, .int (iI 0), .ref na9, .ref na16, .null, .null])), (na2, ca E 5 (fun _ => 0)), (na9, ca E 5 (fun _ => 0)), (na16, ca E 5 (fun _ => 0))]) C hin9 in_X5 tyX5 tyX5_ok nmX5 0 rfl rfl 3 (by decide) wd77 rfl rfl (ty := (.array .int)) (by decide +kernel) rfl rfl (Nat.le_of_ble_eq_true rfl) rfl dX5_init_18 rfl ?_
  refine g_aload_n C dX5_init_21 rfl 0 rfl ?_
  refine g_iconst C dX5_init_22 rfl ?_
  refine g_newz (N := 5) C wd126 rfl (by decide) ⟨Nat.le_of_ble_eq_true rfl, Nat.le_of_ble_eq_true rfl⟩ dX5_init_23 rfl (fun na23 => ?_)
  refine g_to [0] (ws1 := [(o, .inr (4, [.ref na2, .int (iI 0), .ref na9, .ref na16, .null, .null])), (na2, ca E 5 (fun _ => 0)), (na9, ca E 5 (fun _ => 0)), (na16, ca E 5 (fun _ => 0)), (na23, cz E 5 (fun _ => 0))]) ?_ rfl rfl rfl
  refine g_putF (T := TX5) (N := 6) (ci := 4) (ws' := [(o, .inr (4, [.ref na2, .int (iI 0), .ref na9, .ref na16, .ref na23, .null])), (na2, ca E 5 (fun _ => 0)), (na9, ca E 5 (fun _ => 0)), (na16, ca E 5 (fun _ => 0)), (na23, cz E 5 (fun _ => 0))]) C hin9 in_X5 tyX5 tyX5_ok nmX5 0 rfl rfl 4 (by decide) wd78 rfl rfl (ty := (.array .boolean)) (by decide +kernel) rfl rfl (Nat.le_of_ble_eq_true rfl) rfl dX5_init_25 rfl ?_
  refine g_aload_n C dX5_init_28 rfl 0 rfl ?_
  refine g_iconst C dX5_init_29 rfl ?_
  refine g_newa (N := 5) C wd66 rfl (by decide) ⟨Nat.le_of_ble_eq_true rfl, Nat.le_of_ble_eq_true rfl⟩ dX5_init_30 rfl (fun na30 => ?_)
  refine g_to [0] (ws1 := [(o, .inr (4, [.ref na2, .int (iI 0), .ref na9, .ref na16, .ref na23, .null])), (na2, ca E 5 (fun _ => 0)), (na9, ca E 5 (fun _ => 0)), (na16, ca E 5 (fun _ => 0)), (na23, cz E 5 (fun _ => 0)), (na30, ca E 5 (fun _ => 0))]) ?_ rfl rfl rfl
  refine g_putF (T := TX5) (N := 6) (ci := 4) (ws' := [(o, .inr (4, [.ref na2, .int (iI 0), .ref na9, .ref na16, .ref na23, .ref na30])), (na2, ca E 5 (fun _ => 0)), (na9, ca E 5 (fun _ => 0)), (na16, ca E 5 (fun _ => 0)), (na23, cz E 5 (fun _ => 0)), (na30, ca E 5 (fun _ => 0))]) C hin9 in_X5 tyX5 tyX5_ok nmX5 0 rfl rfl 5 (by decide) wd80 rfl rfl (ty := (.array .int)) (by decide +kernel) rfl rfl (Nat.le_of_ble_eq_true rfl) rfl dX5_init_32 rfl ?_
  exact z_vretX C Z dX5_init_35 (⟨na2, na9, na16, na23, na30, rfl⟩)
abbrev r_X1_init : Room := { frames := 2, cells := 2, slots := 8, locals := 33 }
set_option maxHeartbeats 4000000 in
set_option maxRecDepth 100000 in
theorem k_X1_init (l : Launch) (E : gE) (o : Nat) : gKX l E yX1_init cX1_init 1 r_X1_init [.ref o] ([(o, .inr (1, [.null, .int (iI 0), .null]))]) (fun w => ∃ a1 a2 : Nat, w = [(o, .inr (1, [.ref a1, .int (iI 0), .ref a2])), (a1, ca E 4 (fun _ => 0)), (a2, ca E 4 (fun _ => 0))]) := by
  refine gKX_byN RX1 rfl mX1_init [(0, .ref o)] (Nat.le_of_ble_eq_true rfl) rfl ?_
  intro zp ze zs zm za zb zh zc zA zQ hin9 C Z
  refine g_aload_n C dX1_init_0 rfl 0 rfl ?_
  refine g_iconst C dX1_init_1 rfl ?_
  refine g_newa (N := 4) C wd66 rfl (by decide) ⟨Nat.le_of_ble_eq_true rfl, Nat.le_of_ble_eq_true rfl⟩ dX1_init_2 rfl (fun na2 => ?_)
  refine g_to [0] (ws1 := [(o, .inr (1, [.null, .int (iI 0), .null])), (na2, ca E 4 (fun _ => 0))]) ?_ rfl rfl rfl
  refine g_callIf (As := [.ref na2]) (rv := none) (w1 := [(o, .inr (1, [.ref na2, .int (iI 0), .null]))]) (kc' := 1) (ks' := 4) C ([(na2, ca E 4 (fun _ => 0))]) (k_X4_init_X1 l E o na2) mX4_init wd73 rfl wd132 rfl rfl (Nat.le_of_ble_eq_true rfl) ⟨Nat.le_of_ble_eq_true rfl, Nat.le_of_ble_eq_true rfl⟩ ⟨Nat.le_of_ble_eq_true rfl, Nat.le_of_ble_eq_true rfl⟩ rfl rfl rfl dX1_init_4 rfl ?_
  refine g_to [0] (ws1 := [(o, .inr (1, [.ref na2, .int (iI 0), .null])), (na2, ca E 4 (fun _ => 0))]) ?_ rfl rfl rfl
  refine g_aload_n C dX1_init_7 rfl 0 rfl ?_
  refine g_iconst C dX1_init_8 rfl ?_
  refine g_newa (N := 4) C wd66 rfl (by decide) ⟨Nat.le_of_ble_eq_true rfl, Nat.le_of_ble_eq_true rfl⟩ dX1_init_9 rfl (fun na9 => ?_)
  refine g_to [0] (ws1 := [(o, .inr (1, [.ref na2, .int (iI 0), .null])), (na2, ca E 4 (fun _ => 0)), (na9, ca E 4 (fun _ => 0))]) ?_ rfl rfl rfl
  refine g_putF (T := TX1) (N := 3) (ci := 1) (ws' := [(o, .inr (1, [.ref na2, .int (iI 0), .ref na9])), (na2, ca E 4 (fun _ => 0)), (na9, ca E 4 (fun _ => 0))]) C hin9 in_X1 tyX1 tyX1_ok nmX1 0 rfl rfl 2 (by decide) wd133 rfl rfl (ty := (.array .int)) (by decide +kernel) rfl rfl (Nat.le_of_ble_eq_true rfl) rfl dX1_init_11 rfl ?_
  exact z_vretX C Z dX1_init_14 (⟨na2, na9, rfl⟩)
abbrev r_X6_init : Room := { frames := 2, cells := 4, slots := 16, locals := 33 }
set_option maxHeartbeats 4000000 in
set_option maxRecDepth 100000 in
theorem k_X6_init (l : Launch) (E : gE) (o : Nat) : gKX l E yX6_init cX6_init 1 r_X6_init [.ref o] ([(o, .inr (5, [.null, .int (iI 0), .null, .null, .null]))]) (fun w => ∃ a1 a2 a3 a4 : Nat, w = [(o, .inr (5, [.ref a1, .int (iI 0), .ref a2, .ref a3, .ref a4])), (a1, ca E 4 (fun _ => 0)), (a2, ca E 4 (fun _ => 0)), (a3, ca E 4 (fun _ => 0)), (a4, ca E 4 (fun _ => 0))]) := by
  refine gKX_byN RX6 rfl mX6_init [(0, .ref o)] (Nat.le_of_ble_eq_true rfl) rfl ?_
  intro zp ze zs zm za zb zh zc zA zQ hin9 C Z
  refine g_aload_n C dX6_init_0 rfl 0 rfl ?_
  refine g_iconst C dX6_init_1 rfl ?_
  refine g_newa (N := 4) C wd66 rfl (by decide) ⟨Nat.le_of_ble_eq_true rfl, Nat.le_of_ble_eq_true rfl⟩ dX6_init_2 rfl (fun na2 => ?_)
  refine g_to [0] (ws1 := [(o, .inr (5, [.null, .int (iI 0), .null, .null, .null])), (na2, ca E 4 (fun _ => 0))]) ?_ rfl rfl rfl
  refine g_callIf (As := [.ref na2]) (rv := none) (w1 := [(o, .inr (5, [.ref na2, .int (iI 0), .null, .null, .null]))]) (kc' := 1) (ks' := 4) C ([(na2, ca E 4 (fun _ => 0))]) (k_X4_init_X6 l E o na2) mX4_init wd73 rfl wd144 rfl rfl (Nat.le_of_ble_eq_true rfl) ⟨Nat.le_of_ble_eq_true rfl, Nat.le_of_ble_eq_true rfl⟩ ⟨Nat.le_of_ble_eq_true rfl, Nat.le_of_ble_eq_true rfl⟩ rfl rfl rfl dX6_init_4 rfl ?_
  refine g_to [0] (ws1 := [(o, .inr (5, [.ref na2, .int (iI 0), .null, .null, .null])), (na2, ca E 4 (fun _ => 0))]) ?_ rfl rfl rfl
  refine g_aload_n C dX6_init_7 rfl 0 rfl ?_
  refine g_iconst C dX6_init_8 rfl ?_
  refine g_newa (N := 4) C wd66 rfl (by decide) ⟨Nat.le_of_ble_eq_true rfl, Nat.le_of_ble_eq_true rfl⟩ dX6_init_9 rfl (fun na9 => ?_)
  refine g_to [0] (ws1 := [(o, .inr (5, [.ref na2, .int (iI 0), .null, .null, .null])), (na2, ca E 4 (fun _ => 0)), (na9, ca E 4 (fun _ => 0))]) ?_ rfl rfl rfl
  refine g_putF (T := TX6) (N := 5) (ci := 5) (ws' := [(o, .inr (5, [.ref na2, .int (iI 0), .ref na9, .null, .null])), (na2, ca E 4 (fun _ => 0)), (na9, ca E 4 (fun _ => 0))]) C hin9 in_X6 tyX6 tyX6_ok nmX6 0 rfl rfl 2 (by decide) wd145 rfl rfl (ty := (.array .int)) (by decide +kernel) rfl rfl (Nat.le_of_ble_eq_true rfl) rfl dX6_init_11 rfl ?_
  refine g_aload_n C dX6_init_14 rfl 0 rfl ?_
  refine g_iconst C dX6_init_15 rfl ?_
  refine g_newa (N := 4) C wd66 rfl (by decide) ⟨Nat.le_of_ble_eq_true rfl, Nat.le_of_ble_eq_true rfl⟩ dX6_init_16 rfl (fun na16 => ?_)
  refine g_to [0] (ws1 := [(o, .inr (5, [.ref na2, .int (iI 0), .ref na9, .null, .null])), (na2, ca E 4 (fun _ => 0)), (na9, ca E 4 (fun _ => 0)), (na16, ca E 4 (fun _ => 0))]) ?_ rfl rfl rfl
  refine g_putF (T := TX6) (N := 5) (ci := 5) (ws' := [(o, .inr (5, [.ref na2, .int (iI 0), .ref na9, .ref na16, .null])), (na2, ca E 4 (fun _ => 0)), (na9, ca E 4 (fun _ => 0)), (na16, ca E 4 (fun _ => 0))]) C hin9 in_X6 tyX6 tyX6_ok nmX6 0 rfl rfl 3 (by decide) wd146 rfl rfl (ty := (.array .int)) (by decide +kernel) rfl rfl (Nat.le_of_ble_eq_true rfl) rfl dX6_init_18 rfl ?_
  refine g_aload_n C dX6_init_21 rfl 0 rfl ?_
  refine g_iconst C dX6_init_22 rfl ?_
  refine g_newa (N := 4) C wd66 rfl (by decide) ⟨Nat.le_of_ble_eq_true rfl, Nat.le_of_ble_eq_true rfl⟩ dX6_init_23 rfl (fun na23 => ?_)
  refine g_to [0] (ws1 := [(o, .inr (5, [.ref na2, .int (iI 0), .ref na9, .ref na16, .null])), (na2, ca E 4 (fun _ => 0)), (na9, ca E 4 (fun _ => 0)), (na16, ca E 4 (fun _ => 0)), (na23, ca E 4 (fun _ => 0))]) ?_ rfl rfl rfl
  refine g_putF (T := TX6) (N := 5) (ci := 5) (ws' := [(o, .inr (5, [.ref na2, .int (iI 0), .ref na9, .ref na16, .ref na23])), (na2, ca E 4 (fun _ => 0)), (na9, ca E 4 (fun _ => 0)), (na16, ca E 4 (fun _ => 0)), (na23, ca E 4 (fun _ => 0))]) C hin9 in_X6 tyX6 tyX6_ok nmX6 0 rfl rfl 4 (by decide) wd147 rfl rfl (ty := (.array .int)) (by decide +kernel) rfl rfl (Nat.le_of_ble_eq_true rfl) rfl dX6_init_25 rfl ?_
  exact z_vretX C Z dX6_init_28 (⟨na2, na9, na16, na23, rfl⟩)
abbrev r_X2_init : Room := { frames := 2, cells := 3, slots := 30, locals := 33 }
set_option maxHeartbeats 4000000 in
set_option maxRecDepth 100000 in
theorem k_X2_init (l : Launch) (E : gE) (o : Nat) : gKX l E yX2_init cX2_init 1 r_X2_init [.ref o] ([(o, .inr (2, [.null, .int (iI 0), .null, .null, .int (iI 0)]))]) (fun w => ∃ a1 a2 a3 : Nat, w = [(o, .inr (2, [.ref a1, .int (iI 0), .ref a2, .ref a3, .int (iI 0)])), (a1, ca E 10 (fun _ => 0)), (a2, ca E 10 (fun _ => 0)), (a3, ca E 10 (fun _ => 0))]) := by
  refine gKX_byN RX2 rfl mX2_init [(0, .ref o)] (Nat.le_of_ble_eq_true rfl) rfl ?_
  intro zp ze zs zm za zb zh zc zA zQ hin9 C Z
  refine g_aload_n C dX2_init_0 rfl 0 rfl ?_
  refine g_bipush C dX2_init_1 rfl rfl ?_
  refine g_newa (N := 10) C wd66 rfl (by decide) ⟨Nat.le_of_ble_eq_true rfl, Nat.le_of_ble_eq_true rfl⟩ dX2_init_3 rfl (fun na3 => ?_)
  refine g_to [0] (ws1 := [(o, .inr (2, [.null, .int (iI 0), .null, .null, .int (iI 0)])), (na3, ca E 10 (fun _ => 0))]) ?_ rfl rfl rfl
  refine g_callIf (As := [.ref na3]) (rv := none) (w1 := [(o, .inr (2, [.ref na3, .int (iI 0), .null, .null, .int (iI 0)]))]) (kc' := 1) (ks' := 10) C ([(na3, ca E 10 (fun _ => 0))]) (k_X4_init_X2 l E o na3) mX4_init wd73 rfl wd162 rfl rfl (Nat.le_of_ble_eq_true rfl) ⟨Nat.le_of_ble_eq_true rfl, Nat.le_of_ble_eq_true rfl⟩ ⟨Nat.le_of_ble_eq_true rfl, Nat.le_of_ble_eq_true rfl⟩ rfl rfl rfl dX2_init_5 rfl ?_
  refine g_to [0] (ws1 := [(o, .inr (2, [.ref na3, .int (iI 0), .null, .null, .int (iI 0)])), (na3, ca E 10 (fun _ => 0))]) ?_ rfl rfl rfl
  refine g_aload_n C dX2_init_8 rfl 0 rfl ?_
  refine g_bipush C dX2_init_9 rfl rfl ?_
  refine g_newa (N := 10) C wd66 rfl (by decide) ⟨Nat.le_of_ble_eq_true rfl, Nat.le_of_ble_eq_true rfl⟩ dX2_init_11 rfl (fun na11 => ?_)
  refine g_to [0] (ws1 := [(o, .inr (2, [.ref na3, .int (iI 0), .null, .null, .int (iI 0)])), (na3, ca E 10 (fun _ => 0)), (na11, ca E 10 (fun _ => 0))]) ?_ rfl rfl rfl
  refine g_putF (T := TX2) (N := 5) (ci := 2) (ws' := [(o, .inr (2, [.ref na3, .int (iI 0), .ref na11, .null, .int (iI 0)])), (na3, ca E 10 (fun _ => 0)), (na11, ca E 10 (fun _ => 0))]) C hin9 in_X2 tyX2 tyX2_ok nmX2 0 rfl rfl 2 (by decide) wd163 rfl rfl (ty := (.array .int)) (by decide +kernel) rfl rfl (Nat.le_of_ble_eq_true rfl) rfl dX2_init_13 rfl ?_
  refine g_aload_n C dX2_init_16 rfl 0 rfl ?_
  refine g_bipush C dX2_init_17 rfl rfl ?_
  refine g_newa (N := 10) C wd66 rfl (by decide) ⟨Nat.le_of_ble_eq_true rfl, Nat.le_of_ble_eq_true rfl⟩ dX2_init_19 rfl (fun na19 => ?_)
  refine g_to [0] (ws1 := [(o, .inr (2, [.ref na3, .int (iI 0), .ref na11, .null, .int (iI 0)])), (na3, ca E 10 (fun _ => 0)), (na11, ca E 10 (fun _ => 0)), (na19, ca E 10 (fun _ => 0))]) ?_ rfl rfl rfl
  refine g_putF (T := TX2) (N := 5) (ci := 2) (ws' := [(o, .inr (2, [.ref na3, .int (iI 0), .ref na11, .ref na19, .int (iI 0)])), (na3, ca E 10 (fun _ => 0)), (na11, ca E 10 (fun _ => 0)), (na19, ca E 10 (fun _ => 0))]) C hin9 in_X2 tyX2 tyX2_ok nmX2 0 rfl rfl 3 (by decide) wd165 rfl rfl (ty := (.array .int)) (by decide +kernel) rfl rfl (Nat.le_of_ble_eq_true rfl) rfl dX2_init_21 rfl ?_
  exact z_vretX C Z dX2_init_24 (⟨na3, na11, na19, rfl⟩)
abbrev r_X0_init : Room := { frames := 2, cells := 2, slots := 6, locals := 33 }
set_option maxHeartbeats 4000000 in
set_option maxRecDepth 100000 in
theorem k_X0_init (l : Launch) (E : gE) (o : Nat) : gKX l E yX0_init cX0_init 1 r_X0_init [.ref o] ([(o, .inr (0, [.null, .int (iI 0), .null]))]) (fun w => ∃ a1 a2 : Nat, w = [(o, .inr (0, [.ref a1, .int (iI 0), .ref a2])), (a1, ca E 3 (fun _ => 0)), (a2, ca E 3 (fun _ => 0))]) := by
  refine gKX_byN RX0 rfl mX0_init [(0, .ref o)] (Nat.le_of_ble_eq_true rfl) rfl ?_
  intro zp ze zs zm za zb zh zc zA zQ hin9 C Z
  refine g_aload_n C dX0_init_0 rfl 0 rfl ?_
  refine g_iconst C dX0_init_1 rfl ?_
  refine g_newa (N := 3) C wd66 rfl (by decide) ⟨Nat.le_of_ble_eq_true rfl, Nat.le_of_ble_eq_true rfl⟩ dX0_init_2 rfl (fun na2 => ?_)
  refine g_to [0] (ws1 := [(o, .inr (0, [.null, .int (iI 0), .null])), (na2, ca E 3 (fun _ => 0))]) ?_ rfl rfl rfl
  refine g_callIf (As := [.ref na2]) (rv := none) (w1 := [(o, .inr (0, [.ref na2, .int (iI 0), .null]))]) (kc' := 1) (ks' := 3) C ([(na2, ca E 3 (fun _ => 0))]) (k_X4_init_X0 l E o na2) mX4_init wd73 rfl wd184 rfl rfl (Nat.le_of_ble_eq_true rfl) ⟨Nat.le_of_ble_eq_true rfl, Nat.le_of_ble_eq_true rfl⟩ ⟨Nat.le_of_ble_eq_true rfl, Nat.le_of_ble_eq_true rfl⟩ rfl rfl rfl dX0_init_4 rfl ?_
  refine g_to [0] (ws1 := [(o, .inr (0, [.ref na2, .int (iI 0), .null])), (na2, ca E 3 (fun _ => 0))]) ?_ rfl rfl rfl
  refine g_aload_n C dX0_init_7 rfl 0 rfl ?_
  refine g_iconst C dX0_init_8 rfl ?_
  refine g_newa (N := 3) C wd66 rfl (by decide) ⟨Nat.le_of_ble_eq_true rfl, Nat.le_of_ble_eq_true rfl⟩ dX0_init_9 rfl (fun na9 => ?_)
  refine g_to [0] (ws1 := [(o, .inr (0, [.ref na2, .int (iI 0), .null])), (na2, ca E 3 (fun _ => 0)), (na9, ca E 3 (fun _ => 0))]) ?_ rfl rfl rfl
  refine g_putF (T := TX0) (N := 3) (ci := 0) (ws' := [(o, .inr (0, [.ref na2, .int (iI 0), .ref na9])), (na2, ca E 3 (fun _ => 0)), (na9, ca E 3 (fun _ => 0))]) C hin9 in_X0 tyX0 tyX0_ok nmX0 0 rfl rfl 2 (by decide) wd185 rfl rfl (ty := (.array .int)) (by decide +kernel) rfl rfl (Nat.le_of_ble_eq_true rfl) rfl dX0_init_11 rfl ?_
  exact z_vretX C Z dX0_init_14 (⟨na2, na9, rfl⟩)
abbrev r_X8_init : Room := { frames := 1, cells := 3, slots := 240, locals := 12 }
set_option maxHeartbeats 4000000 in
set_option maxRecDepth 100000 in
theorem k_X8_init (l : Launch) (E : gE) (o : Nat) : gKX l E yX8_init cX8_init 1 r_X8_init [.ref o] ([(o, .inr (7, [.null, .null, .null, .int (iI 0)]))]) (fun w => ∃ a1 a2 a3 : Nat, w = [(o, .inr (7, [.ref a1, .ref a2, .ref a3, .int (iI 0)])), (a1, ca E 80 (fun _ => 0)), (a2, ca E 80 (fun _ => 0)), (a3, ca E 80 (fun _ => 0))]) := by
  refine gKX_byN RX8 rfl mX8_init [(0, .ref o)] (Nat.le_of_ble_eq_true rfl) rfl ?_
  intro zp ze zs zm za zb zh zc zA zQ hin9 C Z
  refine g_aload_n C dX8_init_0 rfl 0 rfl ?_
  refine g_objInit C wd196 ⟨wd27, wd28⟩ (Nat.le_of_ble_eq_true rfl) (Nat.le_of_ble_eq_true rfl) dX8_init_1 rfl ?_
  refine g_aload_n C dX8_init_4 rfl 0 rfl ?_
  refine g_bipush C dX8_init_5 rfl rfl ?_
  refine g_newa (N := 80) C wd66 rfl (by decide) ⟨Nat.le_of_ble_eq_true rfl, Nat.le_of_ble_eq_true rfl⟩ dX8_init_7 rfl (fun na7 => ?_)
  refine g_to [0] (ws1 := [(o, .inr (7, [.null, .null, .null, .int (iI 0)])), (na7, ca E 80 (fun _ => 0))]) ?_ rfl rfl rfl
  refine g_putF (T := TX8) (N := 4) (ci := 7) (ws' := [(o, .inr (7, [.ref na7, .null, .null, .int (iI 0)])), (na7, ca E 80 (fun _ => 0))]) C hin9 in_X8 tyX8 tyX8_ok nmX8 0 rfl rfl 0 (by decide) wd197 rfl rfl (ty := (.array .int)) (by decide +kernel) rfl rfl (Nat.le_of_ble_eq_true rfl) rfl dX8_init_9 rfl ?_
  refine g_aload_n C dX8_init_12 rfl 0 rfl ?_
  refine g_bipush C dX8_init_13 rfl rfl ?_
  refine g_newa (N := 80) C wd66 rfl (by decide) ⟨Nat.le_of_ble_eq_true rfl, Nat.le_of_ble_eq_true rfl⟩ dX8_init_15 rfl (fun na15 => ?_)
  refine g_to [0] (ws1 := [(o, .inr (7, [.ref na7, .null, .null, .int (iI 0)])), (na7, ca E 80 (fun _ => 0)), (na15, ca E 80 (fun _ => 0))]) ?_ rfl rfl rfl
  refine g_putF (T := TX8) (N := 4) (ci := 7) (ws' := [(o, .inr (7, [.ref na7, .ref na15, .null, .int (iI 0)])), (na7, ca E 80 (fun _ => 0)), (na15, ca E 80 (fun _ => 0))]) C hin9 in_X8 tyX8 tyX8_ok nmX8 0 rfl rfl 1 (by decide) wd199 rfl rfl (ty := (.array .int)) (by decide +kernel) rfl rfl (Nat.le_of_ble_eq_true rfl) rfl dX8_init_17 rfl ?_
  refine g_aload_n C dX8_init_20 rfl 0 rfl ?_
  refine g_bipush C dX8_init_21 rfl rfl ?_
  refine g_newa (N := 80) C wd66 rfl (by decide) ⟨Nat.le_of_ble_eq_true rfl, Nat.le_of_ble_eq_true rfl⟩ dX8_init_23 rfl (fun na23 => ?_)
  refine g_to [0] (ws1 := [(o, .inr (7, [.ref na7, .ref na15, .null, .int (iI 0)])), (na7, ca E 80 (fun _ => 0)), (na15, ca E 80 (fun _ => 0)), (na23, ca E 80 (fun _ => 0))]) ?_ rfl rfl rfl
  refine g_putF (T := TX8) (N := 4) (ci := 7) (ws' := [(o, .inr (7, [.ref na7, .ref na15, .ref na23, .int (iI 0)])), (na7, ca E 80 (fun _ => 0)), (na15, ca E 80 (fun _ => 0)), (na23, ca E 80 (fun _ => 0))]) C hin9 in_X8 tyX8 tyX8_ok nmX8 0 rfl rfl 2 (by decide) wd202 rfl rfl (ty := (.array .int)) (by decide +kernel) rfl rfl (Nat.le_of_ble_eq_true rfl) rfl dX8_init_25 rfl ?_
  exact z_vretX C Z dX8_init_28 (⟨na7, na15, na23, rfl⟩)
abbrev r_X3_init : Room := { frames := 1, cells := 5, slots := 332, locals := 12 }
set_option maxHeartbeats 4000000 in
set_option maxRecDepth 100000 in
theorem k_X3_init (l : Launch) (E : gE) (o : Nat) : gKX l E yX3_init cX3_init 2 r_X3_init [.ref o] ([(o, .inr (3, [.null, .null, .null, .null, .null]))]) (fun w => ∃ a1 a2 a3 a4 a5 : Nat, w = [(o, .inr (3, [.ref a1, .ref a2, .ref a3, .ref a4, .ref a5])), (a1, ca E 80 gnd), (a2, ca E 80 (fun _ => 0)), (a3, ca E 80 (fun _ => 0)), (a4, ca E 80 (fun _ => 0)), (a5, ca E 12 (fun _ => 0))]) := by
  refine gKX_byN RX3 rfl mX3_init [(0, .ref o)] (Nat.le_of_ble_eq_true rfl) rfl ?_
  intro zp ze zs zm za zb zh zc zA zQ hin9 C Z
  refine g_aload_n C dX3_init_0 rfl 0 rfl ?_
  refine g_objInit C wd40 ⟨wd27, wd28⟩ (Nat.le_of_ble_eq_true rfl) (Nat.le_of_ble_eq_true rfl) dX3_init_1 rfl ?_
  refine g_aload_n C dX3_init_4 rfl 0 rfl ?_
  refine g_bipush C dX3_init_5 rfl rfl ?_
  refine g_newa (N := 80) C wd66 rfl (by decide) ⟨Nat.le_of_ble_eq_true rfl, Nat.le_of_ble_eq_true rfl⟩ dX3_init_7 rfl (fun na7 => ?_)
  refine g_to [0] (ws1 := [(o, .inr (3, [.null, .null, .null, .null, .null])), (na7, ca E 80 (fun _ => 0))]) ?_ rfl rfl rfl
  refine g_putF (T := TX3) (N := 5) (ci := 3) (ws' := [(o, .inr (3, [.ref na7, .null, .null, .null, .null])), (na7, ca E 80 (fun _ => 0))]) C hin9 in_X3 tyX3 tyX3_ok nmX3 0 rfl rfl 0 (by decide) wd41 rfl rfl (ty := (.array .int)) (by decide +kernel) rfl rfl (Nat.le_of_ble_eq_true rfl) rfl dX3_init_9 rfl ?_
  refine g_aload_n C dX3_init_12 rfl 0 rfl ?_
  refine g_bipush C dX3_init_13 rfl rfl ?_
  refine g_newa (N := 80) C wd66 rfl (by decide) ⟨Nat.le_of_ble_eq_true rfl, Nat.le_of_ble_eq_true rfl⟩ dX3_init_15 rfl (fun na15 => ?_)
  refine g_to [0] (ws1 := [(o, .inr (3, [.ref na7, .null, .null, .null, .null])), (na7, ca E 80 (fun _ => 0)), (na15, ca E 80 (fun _ => 0))]) ?_ rfl rfl rfl
  refine g_putF (T := TX3) (N := 5) (ci := 3) (ws' := [(o, .inr (3, [.ref na7, .ref na15, .null, .null, .null])), (na7, ca E 80 (fun _ => 0)), (na15, ca E 80 (fun _ => 0))]) C hin9 in_X3 tyX3 tyX3_ok nmX3 0 rfl rfl 1 (by decide) wd44 rfl rfl (ty := (.array .int)) (by decide +kernel) rfl rfl (Nat.le_of_ble_eq_true rfl) rfl dX3_init_17 rfl ?_
  refine g_aload_n C dX3_init_20 rfl 0 rfl ?_
  refine g_bipush C dX3_init_21 rfl rfl ?_
  refine g_newa (N := 80) C wd66 rfl (by decide) ⟨Nat.le_of_ble_eq_true rfl, Nat.le_of_ble_eq_true rfl⟩ dX3_init_23 rfl (fun na23 => ?_)
  refine g_to [0] (ws1 := [(o, .inr (3, [.ref na7, .ref na15, .null, .null, .null])), (na7, ca E 80 (fun _ => 0)), (na15, ca E 80 (fun _ => 0)), (na23, ca E 80 (fun _ => 0))]) ?_ rfl rfl rfl
  refine g_putF (T := TX3) (N := 5) (ci := 3) (ws' := [(o, .inr (3, [.ref na7, .ref na15, .ref na23, .null, .null])), (na7, ca E 80 (fun _ => 0)), (na15, ca E 80 (fun _ => 0)), (na23, ca E 80 (fun _ => 0))]) C hin9 in_X3 tyX3 tyX3_ok nmX3 0 rfl rfl 2 (by decide) wd47 rfl rfl (ty := (.array .int)) (by decide +kernel) rfl rfl (Nat.le_of_ble_eq_true rfl) rfl dX3_init_25 rfl ?_
  refine g_aload_n C dX3_init_28 rfl 0 rfl ?_
  refine g_bipush C dX3_init_29 rfl rfl ?_
  refine g_newa (N := 80) C wd66 rfl (by decide) ⟨Nat.le_of_ble_eq_true rfl, Nat.le_of_ble_eq_true rfl⟩ dX3_init_31 rfl (fun na31 => ?_)
  refine g_to [0] (ws1 := [(o, .inr (3, [.ref na7, .ref na15, .ref na23, .null, .null])), (na7, ca E 80 (fun _ => 0)), (na15, ca E 80 (fun _ => 0)), (na23, ca E 80 (fun _ => 0)), (na31, ca E 80 (fun _ => 0))]) ?_ rfl rfl rfl
  refine g_putF (T := TX3) (N := 5) (ci := 3) (ws' := [(o, .inr (3, [.ref na7, .ref na15, .ref na23, .ref na31, .null])), (na7, ca E 80 (fun _ => 0)), (na15, ca E 80 (fun _ => 0)), (na23, ca E 80 (fun _ => 0)), (na31, ca E 80 (fun _ => 0))]) C hin9 in_X3 tyX3 tyX3_ok nmX3 0 rfl rfl 3 (by decide) wd52 rfl rfl (ty := (.array .int)) (by decide +kernel) rfl rfl (Nat.le_of_ble_eq_true rfl) rfl dX3_init_33 rfl ?_
  refine g_aload_n C dX3_init_36 rfl 0 rfl ?_
  refine g_bipush C dX3_init_37 rfl rfl ?_
  refine g_newa (N := 12) C wd66 rfl (by decide) ⟨Nat.le_of_ble_eq_true rfl, Nat.le_of_ble_eq_true rfl⟩ dX3_init_39 rfl (fun na39 => ?_)
  refine g_to [0] (ws1 := [(o, .inr (3, [.ref na7, .ref na15, .ref na23, .ref na31, .null])), (na7, ca E 80 (fun _ => 0)), (na15, ca E 80 (fun _ => 0)), (na23, ca E 80 (fun _ => 0)), (na31, ca E 80 (fun _ => 0)), (na39, ca E 12 (fun _ => 0))]) ?_ rfl rfl rfl
  refine g_putF (T := TX3) (N := 5) (ci := 3) (ws' := [(o, .inr (3, [.ref na7, .ref na15, .ref na23, .ref na31, .ref na39])), (na7, ca E 80 (fun _ => 0)), (na15, ca E 80 (fun _ => 0)), (na23, ca E 80 (fun _ => 0)), (na31, ca E 80 (fun _ => 0)), (na39, ca E 12 (fun _ => 0))]) C hin9 in_X3 tyX3 tyX3_ok nmX3 0 rfl rfl 4 (by decide) wd53 rfl rfl (ty := (.array .int)) (by decide +kernel) rfl rfl (Nat.le_of_ble_eq_true rfl) rfl dX3_init_41 rfl ?_
  refine g_iconst C dX3_init_44 rfl ?_
  refine g_istore_n (lv' := [(1, .int (iI (0))), (0, .ref o)]) C dX3_init_45 rfl (by decide) rfl ?_
  have L46 : ∀ k9 : Nat, k9 ≤ 80 → gG E zp l ze r_X3_init zs zm za zb zh zc zA 2 5 332 zQ ([(o, .inr (3, [.ref na7, .ref na15, .ref na23, .ref na31, .ref na39])), (na7, ca E 80 (itr (riseB 2) (fun _ => 0) k9)), (na15, ca E 80 (fun _ => 0)), (na23, ca E 80 (fun _ => 0)), (na31, ca E 80 (fun _ => 0)), (na39, ca E 12 (fun _ => 0))]) 46 [(1, .int (iI (k9 : Int))), (0, .ref o)] [] := by
    refine g_up (80) _ ?_
    intro k9 ih46 hk46
    obtain ⟨x, hx46⟩ : ∃ z, z = itr (riseB 2) (fun _ => 0) k9 := ⟨_, rfl⟩
    rw [← hx46]
    refine g_iload_n C dX3_init_46 rfl 0 rfl ?_
    refine g_bipush C dX3_init_47 rfl rfl ?_
    refine g_icmp_ge C dX3_init_49 65 (by decide) rfl (by omega) (by omega) (fun c49 => ?_) (fun c49 => ?_)
    · skip
      have hz46 : x = gnd := by rw [hx46, show k9 = 80 from by omega] <;> rfl
      exact z_vretX C Z dX3_init_65 (⟨na7, na15, na23, na31, na39, by rw [hz46]⟩)
    · skip
      refine g_aload_n C dX3_init_52 rfl 1 rfl ?_
      refine g_get (v := .ref na7) (T := TX3) (N := 5) (ci := 3) C in_X3 0 rfl rfl 0 (by decide) wd41 (Or.inl rfl) rfl dX3_init_53 rfl ?_
      refine g_iload_n C dX3_init_56 rfl 0 rfl ?_
      refine g_iconst C dX3_init_57 rfl ?_
      refine g_iast (f := x) (ws' := [(o, .inr (3, [.ref na7, .ref na15, .ref na23, .ref na31, .ref na39])), (na7, ca E 80 (fset x (k9 : Int) (2))), (na15, ca E 80 (fun _ => 0)), (na23, ca E 80 (fun _ => 0)), (na31, ca E 80 (fun _ => 0)), (na39, ca E 12 (fun _ => 0))]) C dX3_init_58 rfl 1 rfl (by omega) (by decide) rfl ?_
      refine g_iinc (lv' := [(1, .int (iI ((k9 : Int) + 1))), (0, .ref o)]) C dX3_init_59 rfl 0 rfl (by decide) rfl ?_
      refine g_goto C dX3_init_62 46 (by decide) ?_
      have e46 : (riseB 2) k9 x = (fset x (k9 : Int) (2)) := by
        rfl
      have i46 := ih46 (by omega)
      rw [show itr (riseB 2) (fun _ => 0) (k9 + 1) = (fset x (k9 : Int) (2)) from by rw [← e46, hx46]; rfl] at i46
      exact g_to [0, 1] (i46) rfl rfl rfl
  refine g_to [0, 1] (L46 0 (by omega)) rfl rfl rfl
abbrev r_X7_init : Room := { frames := 3, cells := 31, slots := 688, locals := 53 }
set_option maxHeartbeats 4000000 in
set_option maxRecDepth 100000 in
theorem k_X7_init (l : Launch) (E : gE) (o : Nat) : gKX l E yX7_init cX7_init 1 r_X7_init [.ref o] ([(o, .inr (6, [.int (iI 0), .null, .null, .null, .null, .null, .null, .null]))]) (fun w => ∃ ad : Nat → Nat, ad 0 = o ∧ w = wT E ad gT0) := by
  refine gKX_byN RX7 rfl mX7_init [(0, .ref o)] (Nat.le_of_ble_eq_true rfl) rfl ?_
  intro zp ze zs zm za zb zh zc zA zQ hin9 C Z
  refine g_aload_n C dX7_init_0 rfl 0 rfl ?_
  refine g_objInit C wd34 ⟨wd27, wd28⟩ (Nat.le_of_ble_eq_true rfl) (Nat.le_of_ble_eq_true rfl) dX7_init_1 rfl ?_
  refine g_aload_n C dX7_init_4 rfl 0 rfl ?_
  refine g_new (T := TX3) (N := 5) (ci := 3) (fs := [.null, .null, .null, .null, .null]) C in_X3 tyX3 tyX3_ok ⟨wd35, wd36, wd3⟩ rfl (by intro j hj; have h9 : j = 0 ∨ j = 1 ∨ j = 2 ∨ j = 3 ∨ j = 4 := (by omega); rcases h9 with h9 | h9 | h9 | h9 | h9 <;> subst h9 <;> rfl) ⟨Nat.le_of_ble_eq_true rfl, Nat.le_of_ble_eq_true rfl⟩ dX7_init_5 rfl (fun nw5 => ?_)
  refine g_dup C dX7_init_8 rfl rfl ?_
  refine g_perm (ws1 := [(nw5, .inr (3, [.null, .null, .null, .null, .null]))] ++ ([(o, .inr (6, [.int (iI 0), .null, .null, .null, .null, .null, .null, .null]))])) pm_10 ?_
  refine g_callIX (As := []) (kc' := 6) (ks' := 337) C ([(o, .inr (6, [.int (iI 0), .null, .null, .null, .null, .null, .null, .null]))]) (k_X3_init l E nw5) mX3_init wd38 rfl wd37 rfl rfl (Nat.le_of_ble_eq_true rfl) ⟨Nat.le_of_ble_eq_true rfl, Nat.le_of_ble_eq_true rfl⟩ ⟨Nat.le_of_ble_eq_true rfl, Nat.le_of_ble_eq_true rfl⟩ rfl dX7_init_9 rfl rfl rfl ?_
  intro w9 hw9
  obtain ⟨a1_9, a2_9, a3_9, a4_9, a5_9, rfl⟩ := hw9
  refine g_perm (ws1 := [(o, .inr (6, [.int (iI 0), .null, .null, .null, .null, .null, .null, .null]))] ++ ([(nw5, .inr (3, [.ref a1_9, .ref a2_9, .ref a3_9, .ref a4_9, .ref a5_9])), (a1_9, ca E 80 gnd), (a2_9, ca E 80 (fun _ => 0)), (a3_9, ca E 80 (fun _ => 0)), (a4_9, ca E 80 (fun _ => 0)), (a5_9, ca E 12 (fun _ => 0))])) pm_10 ?_
  refine g_to [0] (ws1 := [(o, .inr (6, [.int (iI 0), .null, .null, .null, .null, .null, .null, .null])), (nw5, .inr (3, [.ref a1_9, .ref a2_9, .ref a3_9, .ref a4_9, .ref a5_9])), (a1_9, ca E 80 gnd), (a2_9, ca E 80 (fun _ => 0)), (a3_9, ca E 80 (fun _ => 0)), (a4_9, ca E 80 (fun _ => 0)), (a5_9, ca E 12 (fun _ => 0))]) ?_ rfl rfl rfl
  refine g_putF (T := TX7) (N := 8) (ci := 6) (ws' := [(o, .inr (6, [.int (iI 0), .ref nw5, .null, .null, .null, .null, .null, .null])), (nw5, .inr (3, [.ref a1_9, .ref a2_9, .ref a3_9, .ref a4_9, .ref a5_9])), (a1_9, ca E 80 gnd), (a2_9, ca E 80 (fun _ => 0)), (a3_9, ca E 80 (fun _ => 0)), (a4_9, ca E 80 (fun _ => 0)), (a5_9, ca E 12 (fun _ => 0))]) C hin9 in_X7 tyX7 tyX7_ok nmX7 0 rfl rfl 1 (by decide) wd214 rfl rfl (ty := (.object "FloodWardens$Land")) (by decide +kernel) rfl rfl (Nat.le_of_ble_eq_true rfl) rfl dX7_init_12 rfl ?_
  refine g_aload_n C dX7_init_15 rfl 0 rfl ?_
  refine g_new (T := TX5) (N := 6) (ci := 4) (fs := [.null, .int (iI 0), .null, .null, .null, .null]) C in_X5 tyX5 tyX5_ok ⟨wd67, wd68, wd5⟩ rfl (by intro j hj; have h9 : j = 0 ∨ j = 1 ∨ j = 2 ∨ j = 3 ∨ j = 4 ∨ j = 5 := (by omega); rcases h9 with h9 | h9 | h9 | h9 | h9 | h9 <;> subst h9 <;> rfl) ⟨Nat.le_of_ble_eq_true rfl, Nat.le_of_ble_eq_true rfl⟩ dX7_init_16 rfl (fun nw16 => ?_)
  refine g_dup C dX7_init_19 rfl rfl ?_
  refine g_perm (ws1 := [(nw16, .inr (4, [.null, .int (iI 0), .null, .null, .null, .null]))] ++ ([(o, .inr (6, [.int (iI 0), .ref nw5, .null, .null, .null, .null, .null, .null])), (nw5, .inr (3, [.ref a1_9, .ref a2_9, .ref a3_9, .ref a4_9, .ref a5_9])), (a1_9, ca E 80 gnd), (a2_9, ca E 80 (fun _ => 0)), (a3_9, ca E 80 (fun _ => 0)), (a4_9, ca E 80 (fun _ => 0)), (a5_9, ca E 12 (fun _ => 0))])) pm_10 ?_
  refine g_callIX (As := []) (kc' := 12) (ks' := 368) C ([(o, .inr (6, [.int (iI 0), .ref nw5, .null, .null, .null, .null, .null, .null])), (nw5, .inr (3, [.ref a1_9, .ref a2_9, .ref a3_9, .ref a4_9, .ref a5_9])), (a1_9, ca E 80 gnd), (a2_9, ca E 80 (fun _ => 0)), (a3_9, ca E 80 (fun _ => 0)), (a4_9, ca E 80 (fun _ => 0)), (a5_9, ca E 12 (fun _ => 0))]) (k_X5_init l E nw16) mX5_init wd70 rfl wd69 rfl rfl (Nat.le_of_ble_eq_true rfl) ⟨Nat.le_of_ble_eq_true rfl, Nat.le_of_ble_eq_true rfl⟩ ⟨Nat.le_of_ble_eq_true rfl, Nat.le_of_ble_eq_true rfl⟩ rfl dX7_init_20 rfl rfl rfl ?_
  intro w20 hw20
  obtain ⟨a1_20, a2_20, a3_20, a4_20, a5_20, rfl⟩ := hw20
  refine g_perm (ws1 := [(o, .inr (6, [.int (iI 0), .ref nw5, .null, .null, .null, .null, .null, .null])), (nw5, .inr (3, [.ref a1_9, .ref a2_9, .ref a3_9, .ref a4_9, .ref a5_9])), (a1_9, ca E 80 gnd), (a2_9, ca E 80 (fun _ => 0)), (a3_9, ca E 80 (fun _ => 0)), (a4_9, ca E 80 (fun _ => 0)), (a5_9, ca E 12 (fun _ => 0))] ++ ([(nw16, .inr (4, [.ref a1_20, .int (iI 0), .ref a2_20, .ref a3_20, .ref a4_20, .ref a5_20])), (a1_20, ca E 5 (fun _ => 0)), (a2_20, ca E 5 (fun _ => 0)), (a3_20, ca E 5 (fun _ => 0)), (a4_20, cz E 5 (fun _ => 0)), (a5_20, ca E 5 (fun _ => 0))])) pm_10 ?_
  refine g_to [0] (ws1 := [(o, .inr (6, [.int (iI 0), .ref nw5, .null, .null, .null, .null, .null, .null])), (nw5, .inr (3, [.ref a1_9, .ref a2_9, .ref a3_9, .ref a4_9, .ref a5_9])), (a1_9, ca E 80 gnd), (a2_9, ca E 80 (fun _ => 0)), (a3_9, ca E 80 (fun _ => 0)), (a4_9, ca E 80 (fun _ => 0)), (a5_9, ca E 12 (fun _ => 0)), (nw16, .inr (4, [.ref a1_20, .int (iI 0), .ref a2_20, .ref a3_20, .ref a4_20, .ref a5_20])), (a1_20, ca E 5 (fun _ => 0)), (a2_20, ca E 5 (fun _ => 0)), (a3_20, ca E 5 (fun _ => 0)), (a4_20, cz E 5 (fun _ => 0)), (a5_20, ca E 5 (fun _ => 0))]) ?_ rfl rfl rfl
  refine g_putF (T := TX7) (N := 8) (ci := 6) (ws' := [(o, .inr (6, [.int (iI 0), .ref nw5, .ref nw16, .null, .null, .null, .null, .null])), (nw5, .inr (3, [.ref a1_9, .ref a2_9, .ref a3_9, .ref a4_9, .ref a5_9])), (a1_9, ca E 80 gnd), (a2_9, ca E 80 (fun _ => 0)), (a3_9, ca E 80 (fun _ => 0)), (a4_9, ca E 80 (fun _ => 0)), (a5_9, ca E 12 (fun _ => 0)), (nw16, .inr (4, [.ref a1_20, .int (iI 0), .ref a2_20, .ref a3_20, .ref a4_20, .ref a5_20])), (a1_20, ca E 5 (fun _ => 0)), (a2_20, ca E 5 (fun _ => 0)), (a3_20, ca E 5 (fun _ => 0)), (a4_20, cz E 5 (fun _ => 0)), (a5_20, ca E 5 (fun _ => 0))]) C hin9 in_X7 tyX7 tyX7_ok nmX7 0 rfl rfl 2 (by decide) wd216 rfl rfl (ty := (.object "FloodWardens$Pumps")) (by decide +kernel) rfl rfl (Nat.le_of_ble_eq_true rfl) rfl dX7_init_23 rfl ?_
  refine g_aload_n C dX7_init_26 rfl 0 rfl ?_
  refine g_new (T := TX1) (N := 3) (ci := 1) (fs := [.null, .int (iI 0), .null]) C in_X1 tyX1 tyX1_ok ⟨wd127, wd128, wd6⟩ rfl (by intro j hj; have h9 : j = 0 ∨ j = 1 ∨ j = 2 := (by omega); rcases h9 with h9 | h9 | h9 <;> subst h9 <;> rfl) ⟨Nat.le_of_ble_eq_true rfl, Nat.le_of_ble_eq_true rfl⟩ dX7_init_27 rfl (fun nw27 => ?_)
  refine g_dup C dX7_init_30 rfl rfl ?_
  refine g_perm (ws1 := [(nw27, .inr (1, [.null, .int (iI 0), .null]))] ++ ([(o, .inr (6, [.int (iI 0), .ref nw5, .ref nw16, .null, .null, .null, .null, .null])), (nw5, .inr (3, [.ref a1_9, .ref a2_9, .ref a3_9, .ref a4_9, .ref a5_9])), (a1_9, ca E 80 gnd), (a2_9, ca E 80 (fun _ => 0)), (a3_9, ca E 80 (fun _ => 0)), (a4_9, ca E 80 (fun _ => 0)), (a5_9, ca E 12 (fun _ => 0)), (nw16, .inr (4, [.ref a1_20, .int (iI 0), .ref a2_20, .ref a3_20, .ref a4_20, .ref a5_20])), (a1_20, ca E 5 (fun _ => 0)), (a2_20, ca E 5 (fun _ => 0)), (a3_20, ca E 5 (fun _ => 0)), (a4_20, cz E 5 (fun _ => 0)), (a5_20, ca E 5 (fun _ => 0))])) pm_10 ?_
  refine g_callIX (As := []) (kc' := 15) (ks' := 379) C ([(o, .inr (6, [.int (iI 0), .ref nw5, .ref nw16, .null, .null, .null, .null, .null])), (nw5, .inr (3, [.ref a1_9, .ref a2_9, .ref a3_9, .ref a4_9, .ref a5_9])), (a1_9, ca E 80 gnd), (a2_9, ca E 80 (fun _ => 0)), (a3_9, ca E 80 (fun _ => 0)), (a4_9, ca E 80 (fun _ => 0)), (a5_9, ca E 12 (fun _ => 0)), (nw16, .inr (4, [.ref a1_20, .int (iI 0), .ref a2_20, .ref a3_20, .ref a4_20, .ref a5_20])), (a1_20, ca E 5 (fun _ => 0)), (a2_20, ca E 5 (fun _ => 0)), (a3_20, ca E 5 (fun _ => 0)), (a4_20, cz E 5 (fun _ => 0)), (a5_20, ca E 5 (fun _ => 0))]) (k_X1_init l E nw27) mX1_init wd130 rfl wd129 rfl rfl (Nat.le_of_ble_eq_true rfl) ⟨Nat.le_of_ble_eq_true rfl, Nat.le_of_ble_eq_true rfl⟩ ⟨Nat.le_of_ble_eq_true rfl, Nat.le_of_ble_eq_true rfl⟩ rfl dX7_init_31 rfl rfl rfl ?_
  intro w31 hw31
  obtain ⟨a1_31, a2_31, rfl⟩ := hw31
  refine g_perm (ws1 := [(o, .inr (6, [.int (iI 0), .ref nw5, .ref nw16, .null, .null, .null, .null, .null])), (nw5, .inr (3, [.ref a1_9, .ref a2_9, .ref a3_9, .ref a4_9, .ref a5_9])), (a1_9, ca E 80 gnd), (a2_9, ca E 80 (fun _ => 0)), (a3_9, ca E 80 (fun _ => 0)), (a4_9, ca E 80 (fun _ => 0)), (a5_9, ca E 12 (fun _ => 0)), (nw16, .inr (4, [.ref a1_20, .int (iI 0), .ref a2_20, .ref a3_20, .ref a4_20, .ref a5_20])), (a1_20, ca E 5 (fun _ => 0)), (a2_20, ca E 5 (fun _ => 0)), (a3_20, ca E 5 (fun _ => 0)), (a4_20, cz E 5 (fun _ => 0)), (a5_20, ca E 5 (fun _ => 0))] ++ ([(nw27, .inr (1, [.ref a1_31, .int (iI 0), .ref a2_31])), (a1_31, ca E 4 (fun _ => 0)), (a2_31, ca E 4 (fun _ => 0))])) pm_10 ?_
  refine g_to [0] (ws1 := [(o, .inr (6, [.int (iI 0), .ref nw5, .ref nw16, .null, .null, .null, .null, .null])), (nw5, .inr (3, [.ref a1_9, .ref a2_9, .ref a3_9, .ref a4_9, .ref a5_9])), (a1_9, ca E 80 gnd), (a2_9, ca E 80 (fun _ => 0)), (a3_9, ca E 80 (fun _ => 0)), (a4_9, ca E 80 (fun _ => 0)), (a5_9, ca E 12 (fun _ => 0)), (nw16, .inr (4, [.ref a1_20, .int (iI 0), .ref a2_20, .ref a3_20, .ref a4_20, .ref a5_20])), (a1_20, ca E 5 (fun _ => 0)), (a2_20, ca E 5 (fun _ => 0)), (a3_20, ca E 5 (fun _ => 0)), (a4_20, cz E 5 (fun _ => 0)), (a5_20, ca E 5 (fun _ => 0)), (nw27, .inr (1, [.ref a1_31, .int (iI 0), .ref a2_31])), (a1_31, ca E 4 (fun _ => 0)), (a2_31, ca E 4 (fun _ => 0))]) ?_ rfl rfl rfl
  refine g_putF (T := TX7) (N := 8) (ci := 6) (ws' := [(o, .inr (6, [.int (iI 0), .ref nw5, .ref nw16, .ref nw27, .null, .null, .null, .null])), (nw5, .inr (3, [.ref a1_9, .ref a2_9, .ref a3_9, .ref a4_9, .ref a5_9])), (a1_9, ca E 80 gnd), (a2_9, ca E 80 (fun _ => 0)), (a3_9, ca E 80 (fun _ => 0)), (a4_9, ca E 80 (fun _ => 0)), (a5_9, ca E 12 (fun _ => 0)), (nw16, .inr (4, [.ref a1_20, .int (iI 0), .ref a2_20, .ref a3_20, .ref a4_20, .ref a5_20])), (a1_20, ca E 5 (fun _ => 0)), (a2_20, ca E 5 (fun _ => 0)), (a3_20, ca E 5 (fun _ => 0)), (a4_20, cz E 5 (fun _ => 0)), (a5_20, ca E 5 (fun _ => 0)), (nw27, .inr (1, [.ref a1_31, .int (iI 0), .ref a2_31])), (a1_31, ca E 4 (fun _ => 0)), (a2_31, ca E 4 (fun _ => 0))]) C hin9 in_X7 tyX7 tyX7_ok nmX7 0 rfl rfl 3 (by decide) wd218 rfl rfl (ty := (.object "FloodWardens$Gauges")) (by decide +kernel) rfl rfl (Nat.le_of_ble_eq_true rfl) rfl dX7_init_34 rfl ?_
  refine g_aload_n C dX7_init_37 rfl 0 rfl ?_
  refine g_new (T := TX6) (N := 5) (ci := 5) (fs := [.null, .int (iI 0), .null, .null, .null]) C in_X6 tyX6 tyX6_ok ⟨wd139, wd140, wd7⟩ rfl (by intro j hj; have h9 : j = 0 ∨ j = 1 ∨ j = 2 ∨ j = 3 ∨ j = 4 := (by omega); rcases h9 with h9 | h9 | h9 | h9 | h9 <;> subst h9 <;> rfl) ⟨Nat.le_of_ble_eq_true rfl, Nat.le_of_ble_eq_true rfl⟩ dX7_init_38 rfl (fun nw38 => ?_)
  refine g_dup C dX7_init_41 rfl rfl ?_
  refine g_perm (ws1 := [(nw38, .inr (5, [.null, .int (iI 0), .null, .null, .null]))] ++ ([(o, .inr (6, [.int (iI 0), .ref nw5, .ref nw16, .ref nw27, .null, .null, .null, .null])), (nw5, .inr (3, [.ref a1_9, .ref a2_9, .ref a3_9, .ref a4_9, .ref a5_9])), (a1_9, ca E 80 gnd), (a2_9, ca E 80 (fun _ => 0)), (a3_9, ca E 80 (fun _ => 0)), (a4_9, ca E 80 (fun _ => 0)), (a5_9, ca E 12 (fun _ => 0)), (nw16, .inr (4, [.ref a1_20, .int (iI 0), .ref a2_20, .ref a3_20, .ref a4_20, .ref a5_20])), (a1_20, ca E 5 (fun _ => 0)), (a2_20, ca E 5 (fun _ => 0)), (a3_20, ca E 5 (fun _ => 0)), (a4_20, cz E 5 (fun _ => 0)), (a5_20, ca E 5 (fun _ => 0)), (nw27, .inr (1, [.ref a1_31, .int (iI 0), .ref a2_31])), (a1_31, ca E 4 (fun _ => 0)), (a2_31, ca E 4 (fun _ => 0))])) pm_10 ?_
  refine g_callIX (As := []) (kc' := 20) (ks' := 400) C ([(o, .inr (6, [.int (iI 0), .ref nw5, .ref nw16, .ref nw27, .null, .null, .null, .null])), (nw5, .inr (3, [.ref a1_9, .ref a2_9, .ref a3_9, .ref a4_9, .ref a5_9])), (a1_9, ca E 80 gnd), (a2_9, ca E 80 (fun _ => 0)), (a3_9, ca E 80 (fun _ => 0)), (a4_9, ca E 80 (fun _ => 0)), (a5_9, ca E 12 (fun _ => 0)), (nw16, .inr (4, [.ref a1_20, .int (iI 0), .ref a2_20, .ref a3_20, .ref a4_20, .ref a5_20])), (a1_20, ca E 5 (fun _ => 0)), (a2_20, ca E 5 (fun _ => 0)), (a3_20, ca E 5 (fun _ => 0)), (a4_20, cz E 5 (fun _ => 0)), (a5_20, ca E 5 (fun _ => 0)), (nw27, .inr (1, [.ref a1_31, .int (iI 0), .ref a2_31])), (a1_31, ca E 4 (fun _ => 0)), (a2_31, ca E 4 (fun _ => 0))]) (k_X6_init l E nw38) mX6_init wd142 rfl wd141 rfl rfl (Nat.le_of_ble_eq_true rfl) ⟨Nat.le_of_ble_eq_true rfl, Nat.le_of_ble_eq_true rfl⟩ ⟨Nat.le_of_ble_eq_true rfl, Nat.le_of_ble_eq_true rfl⟩ rfl dX7_init_42 rfl rfl rfl ?_
  intro w42 hw42
  obtain ⟨a1_42, a2_42, a3_42, a4_42, rfl⟩ := hw42
  refine g_perm (ws1 := [(o, .inr (6, [.int (iI 0), .ref nw5, .ref nw16, .ref nw27, .null, .null, .null, .null])), (nw5, .inr (3, [.ref a1_9, .ref a2_9, .ref a3_9, .ref a4_9, .ref a5_9])), (a1_9, ca E 80 gnd), (a2_9, ca E 80 (fun _ => 0)), (a3_9, ca E 80 (fun _ => 0)), (a4_9, ca E 80 (fun _ => 0)), (a5_9, ca E 12 (fun _ => 0)), (nw16, .inr (4, [.ref a1_20, .int (iI 0), .ref a2_20, .ref a3_20, .ref a4_20, .ref a5_20])), (a1_20, ca E 5 (fun _ => 0)), (a2_20, ca E 5 (fun _ => 0)), (a3_20, ca E 5 (fun _ => 0)), (a4_20, cz E 5 (fun _ => 0)), (a5_20, ca E 5 (fun _ => 0)), (nw27, .inr (1, [.ref a1_31, .int (iI 0), .ref a2_31])), (a1_31, ca E 4 (fun _ => 0)), (a2_31, ca E 4 (fun _ => 0))] ++ ([(nw38, .inr (5, [.ref a1_42, .int (iI 0), .ref a2_42, .ref a3_42, .ref a4_42])), (a1_42, ca E 4 (fun _ => 0)), (a2_42, ca E 4 (fun _ => 0)), (a3_42, ca E 4 (fun _ => 0)), (a4_42, ca E 4 (fun _ => 0))])) pm_10 ?_
  refine g_to [0] (ws1 := [(o, .inr (6, [.int (iI 0), .ref nw5, .ref nw16, .ref nw27, .null, .null, .null, .null])), (nw5, .inr (3, [.ref a1_9, .ref a2_9, .ref a3_9, .ref a4_9, .ref a5_9])), (a1_9, ca E 80 gnd), (a2_9, ca E 80 (fun _ => 0)), (a3_9, ca E 80 (fun _ => 0)), (a4_9, ca E 80 (fun _ => 0)), (a5_9, ca E 12 (fun _ => 0)), (nw16, .inr (4, [.ref a1_20, .int (iI 0), .ref a2_20, .ref a3_20, .ref a4_20, .ref a5_20])), (a1_20, ca E 5 (fun _ => 0)), (a2_20, ca E 5 (fun _ => 0)), (a3_20, ca E 5 (fun _ => 0)), (a4_20, cz E 5 (fun _ => 0)), (a5_20, ca E 5 (fun _ => 0)), (nw27, .inr (1, [.ref a1_31, .int (iI 0), .ref a2_31])), (a1_31, ca E 4 (fun _ => 0)), (a2_31, ca E 4 (fun _ => 0)), (nw38, .inr (5, [.ref a1_42, .int (iI 0), .ref a2_42, .ref a3_42, .ref a4_42])), (a1_42, ca E 4 (fun _ => 0)), (a2_42, ca E 4 (fun _ => 0)), (a3_42, ca E 4 (fun _ => 0)), (a4_42, ca E 4 (fun _ => 0))]) ?_ rfl rfl rfl
  refine g_putF (T := TX7) (N := 8) (ci := 6) (ws' := [(o, .inr (6, [.int (iI 0), .ref nw5, .ref nw16, .ref nw27, .ref nw38, .null, .null, .null])), (nw5, .inr (3, [.ref a1_9, .ref a2_9, .ref a3_9, .ref a4_9, .ref a5_9])), (a1_9, ca E 80 gnd), (a2_9, ca E 80 (fun _ => 0)), (a3_9, ca E 80 (fun _ => 0)), (a4_9, ca E 80 (fun _ => 0)), (a5_9, ca E 12 (fun _ => 0)), (nw16, .inr (4, [.ref a1_20, .int (iI 0), .ref a2_20, .ref a3_20, .ref a4_20, .ref a5_20])), (a1_20, ca E 5 (fun _ => 0)), (a2_20, ca E 5 (fun _ => 0)), (a3_20, ca E 5 (fun _ => 0)), (a4_20, cz E 5 (fun _ => 0)), (a5_20, ca E 5 (fun _ => 0)), (nw27, .inr (1, [.ref a1_31, .int (iI 0), .ref a2_31])), (a1_31, ca E 4 (fun _ => 0)), (a2_31, ca E 4 (fun _ => 0)), (nw38, .inr (5, [.ref a1_42, .int (iI 0), .ref a2_42, .ref a3_42, .ref a4_42])), (a1_42, ca E 4 (fun _ => 0)), (a2_42, ca E 4 (fun _ => 0)), (a3_42, ca E 4 (fun _ => 0)), (a4_42, ca E 4 (fun _ => 0))]) C hin9 in_X7 tyX7 tyX7_ok nmX7 0 rfl rfl 4 (by decide) wd220 rfl rfl (ty := (.object "FloodWardens$Refuges")) (by decide +kernel) rfl rfl (Nat.le_of_ble_eq_true rfl) rfl dX7_init_45 rfl ?_
  refine g_aload_n C dX7_init_48 rfl 0 rfl ?_
  refine g_new (T := TX2) (N := 5) (ci := 2) (fs := [.null, .int (iI 0), .null, .null, .int (iI 0)]) C in_X2 tyX2 tyX2_ok ⟨wd157, wd158, wd8⟩ rfl (by intro j hj; have h9 : j = 0 ∨ j = 1 ∨ j = 2 ∨ j = 3 ∨ j = 4 := (by omega); rcases h9 with h9 | h9 | h9 | h9 | h9 <;> subst h9 <;> rfl) ⟨Nat.le_of_ble_eq_true rfl, Nat.le_of_ble_eq_true rfl⟩ dX7_init_49 rfl (fun nw49 => ?_)
  refine g_dup C dX7_init_52 rfl rfl ?_
  refine g_perm (ws1 := [(nw49, .inr (2, [.null, .int (iI 0), .null, .null, .int (iI 0)]))] ++ ([(o, .inr (6, [.int (iI 0), .ref nw5, .ref nw16, .ref nw27, .ref nw38, .null, .null, .null])), (nw5, .inr (3, [.ref a1_9, .ref a2_9, .ref a3_9, .ref a4_9, .ref a5_9])), (a1_9, ca E 80 gnd), (a2_9, ca E 80 (fun _ => 0)), (a3_9, ca E 80 (fun _ => 0)), (a4_9, ca E 80 (fun _ => 0)), (a5_9, ca E 12 (fun _ => 0)), (nw16, .inr (4, [.ref a1_20, .int (iI 0), .ref a2_20, .ref a3_20, .ref a4_20, .ref a5_20])), (a1_20, ca E 5 (fun _ => 0)), (a2_20, ca E 5 (fun _ => 0)), (a3_20, ca E 5 (fun _ => 0)), (a4_20, cz E 5 (fun _ => 0)), (a5_20, ca E 5 (fun _ => 0)), (nw27, .inr (1, [.ref a1_31, .int (iI 0), .ref a2_31])), (a1_31, ca E 4 (fun _ => 0)), (a2_31, ca E 4 (fun _ => 0)), (nw38, .inr (5, [.ref a1_42, .int (iI 0), .ref a2_42, .ref a3_42, .ref a4_42])), (a1_42, ca E 4 (fun _ => 0)), (a2_42, ca E 4 (fun _ => 0)), (a3_42, ca E 4 (fun _ => 0)), (a4_42, ca E 4 (fun _ => 0))])) pm_10 ?_
  refine g_callIX (As := []) (kc' := 24) (ks' := 435) C ([(o, .inr (6, [.int (iI 0), .ref nw5, .ref nw16, .ref nw27, .ref nw38, .null, .null, .null])), (nw5, .inr (3, [.ref a1_9, .ref a2_9, .ref a3_9, .ref a4_9, .ref a5_9])), (a1_9, ca E 80 gnd), (a2_9, ca E 80 (fun _ => 0)), (a3_9, ca E 80 (fun _ => 0)), (a4_9, ca E 80 (fun _ => 0)), (a5_9, ca E 12 (fun _ => 0)), (nw16, .inr (4, [.ref a1_20, .int (iI 0), .ref a2_20, .ref a3_20, .ref a4_20, .ref a5_20])), (a1_20, ca E 5 (fun _ => 0)), (a2_20, ca E 5 (fun _ => 0)), (a3_20, ca E 5 (fun _ => 0)), (a4_20, cz E 5 (fun _ => 0)), (a5_20, ca E 5 (fun _ => 0)), (nw27, .inr (1, [.ref a1_31, .int (iI 0), .ref a2_31])), (a1_31, ca E 4 (fun _ => 0)), (a2_31, ca E 4 (fun _ => 0)), (nw38, .inr (5, [.ref a1_42, .int (iI 0), .ref a2_42, .ref a3_42, .ref a4_42])), (a1_42, ca E 4 (fun _ => 0)), (a2_42, ca E 4 (fun _ => 0)), (a3_42, ca E 4 (fun _ => 0)), (a4_42, ca E 4 (fun _ => 0))]) (k_X2_init l E nw49) mX2_init wd160 rfl wd159 rfl rfl (Nat.le_of_ble_eq_true rfl) ⟨Nat.le_of_ble_eq_true rfl, Nat.le_of_ble_eq_true rfl⟩ ⟨Nat.le_of_ble_eq_true rfl, Nat.le_of_ble_eq_true rfl⟩ rfl dX7_init_53 rfl rfl rfl ?_
  intro w53 hw53
  obtain ⟨a1_53, a2_53, a3_53, rfl⟩ := hw53
  refine g_perm (ws1 := [(o, .inr (6, [.int (iI 0), .ref nw5, .ref nw16, .ref nw27, .ref nw38, .null, .null, .null])), (nw5, .inr (3, [.ref a1_9, .ref a2_9, .ref a3_9, .ref a4_9, .ref a5_9])), (a1_9, ca E 80 gnd), (a2_9, ca E 80 (fun _ => 0)), (a3_9, ca E 80 (fun _ => 0)), (a4_9, ca E 80 (fun _ => 0)), (a5_9, ca E 12 (fun _ => 0)), (nw16, .inr (4, [.ref a1_20, .int (iI 0), .ref a2_20, .ref a3_20, .ref a4_20, .ref a5_20])), (a1_20, ca E 5 (fun _ => 0)), (a2_20, ca E 5 (fun _ => 0)), (a3_20, ca E 5 (fun _ => 0)), (a4_20, cz E 5 (fun _ => 0)), (a5_20, ca E 5 (fun _ => 0)), (nw27, .inr (1, [.ref a1_31, .int (iI 0), .ref a2_31])), (a1_31, ca E 4 (fun _ => 0)), (a2_31, ca E 4 (fun _ => 0)), (nw38, .inr (5, [.ref a1_42, .int (iI 0), .ref a2_42, .ref a3_42, .ref a4_42])), (a1_42, ca E 4 (fun _ => 0)), (a2_42, ca E 4 (fun _ => 0)), (a3_42, ca E 4 (fun _ => 0)), (a4_42, ca E 4 (fun _ => 0))] ++ ([(nw49, .inr (2, [.ref a1_53, .int (iI 0), .ref a2_53, .ref a3_53, .int (iI 0)])), (a1_53, ca E 10 (fun _ => 0)), (a2_53, ca E 10 (fun _ => 0)), (a3_53, ca E 10 (fun _ => 0))])) pm_10 ?_
  refine g_to [0] (ws1 := [(o, .inr (6, [.int (iI 0), .ref nw5, .ref nw16, .ref nw27, .ref nw38, .null, .null, .null])), (nw5, .inr (3, [.ref a1_9, .ref a2_9, .ref a3_9, .ref a4_9, .ref a5_9])), (a1_9, ca E 80 gnd), (a2_9, ca E 80 (fun _ => 0)), (a3_9, ca E 80 (fun _ => 0)), (a4_9, ca E 80 (fun _ => 0)), (a5_9, ca E 12 (fun _ => 0)), (nw16, .inr (4, [.ref a1_20, .int (iI 0), .ref a2_20, .ref a3_20, .ref a4_20, .ref a5_20])), (a1_20, ca E 5 (fun _ => 0)), (a2_20, ca E 5 (fun _ => 0)), (a3_20, ca E 5 (fun _ => 0)), (a4_20, cz E 5 (fun _ => 0)), (a5_20, ca E 5 (fun _ => 0)), (nw27, .inr (1, [.ref a1_31, .int (iI 0), .ref a2_31])), (a1_31, ca E 4 (fun _ => 0)), (a2_31, ca E 4 (fun _ => 0)), (nw38, .inr (5, [.ref a1_42, .int (iI 0), .ref a2_42, .ref a3_42, .ref a4_42])), (a1_42, ca E 4 (fun _ => 0)), (a2_42, ca E 4 (fun _ => 0)), (a3_42, ca E 4 (fun _ => 0)), (a4_42, ca E 4 (fun _ => 0)), (nw49, .inr (2, [.ref a1_53, .int (iI 0), .ref a2_53, .ref a3_53, .int (iI 0)])), (a1_53, ca E 10 (fun _ => 0)), (a2_53, ca E 10 (fun _ => 0)), (a3_53, ca E 10 (fun _ => 0))]) ?_ rfl rfl rfl
  refine g_putF (T := TX7) (N := 8) (ci := 6) (ws' := [(o, .inr (6, [.int (iI 0), .ref nw5, .ref nw16, .ref nw27, .ref nw38, .ref nw49, .null, .null])), (nw5, .inr (3, [.ref a1_9, .ref a2_9, .ref a3_9, .ref a4_9, .ref a5_9])), (a1_9, ca E 80 gnd), (a2_9, ca E 80 (fun _ => 0)), (a3_9, ca E 80 (fun _ => 0)), (a4_9, ca E 80 (fun _ => 0)), (a5_9, ca E 12 (fun _ => 0)), (nw16, .inr (4, [.ref a1_20, .int (iI 0), .ref a2_20, .ref a3_20, .ref a4_20, .ref a5_20])), (a1_20, ca E 5 (fun _ => 0)), (a2_20, ca E 5 (fun _ => 0)), (a3_20, ca E 5 (fun _ => 0)), (a4_20, cz E 5 (fun _ => 0)), (a5_20, ca E 5 (fun _ => 0)), (nw27, .inr (1, [.ref a1_31, .int (iI 0), .ref a2_31])), (a1_31, ca E 4 (fun _ => 0)), (a2_31, ca E 4 (fun _ => 0)), (nw38, .inr (5, [.ref a1_42, .int (iI 0), .ref a2_42, .ref a3_42, .ref a4_42])), (a1_42, ca E 4 (fun _ => 0)), (a2_42, ca E 4 (fun _ => 0)), (a3_42, ca E 4 (fun _ => 0)), (a4_42, ca E 4 (fun _ => 0)), (nw49, .inr (2, [.ref a1_53, .int (iI 0), .ref a2_53, .ref a3_53, .int (iI 0)])), (a1_53, ca E 10 (fun _ => 0)), (a2_53, ca E 10 (fun _ => 0)), (a3_53, ca E 10 (fun _ => 0))]) C hin9 in_X7 tyX7 tyX7_ok nmX7 0 rfl rfl 5 (by decide) wd222 rfl rfl (ty := (.object "FloodWardens$Households")) (by decide +kernel) rfl rfl (Nat.le_of_ble_eq_true rfl) rfl dX7_init_56 rfl ?_
  refine g_aload_n C dX7_init_59 rfl 0 rfl ?_
  refine g_new (T := TX0) (N := 3) (ci := 0) (fs := [.null, .int (iI 0), .null]) C in_X0 tyX0 tyX0_ok ⟨wd179, wd180, wd9⟩ rfl (by intro j hj; have h9 : j = 0 ∨ j = 1 ∨ j = 2 := (by omega); rcases h9 with h9 | h9 | h9 <;> subst h9 <;> rfl) ⟨Nat.le_of_ble_eq_true rfl, Nat.le_of_ble_eq_true rfl⟩ dX7_init_60 rfl (fun nw60 => ?_)
  refine g_dup C dX7_init_63 rfl rfl ?_
  refine g_perm (ws1 := [(nw60, .inr (0, [.null, .int (iI 0), .null]))] ++ ([(o, .inr (6, [.int (iI 0), .ref nw5, .ref nw16, .ref nw27, .ref nw38, .ref nw49, .null, .null])), (nw5, .inr (3, [.ref a1_9, .ref a2_9, .ref a3_9, .ref a4_9, .ref a5_9])), (a1_9, ca E 80 gnd), (a2_9, ca E 80 (fun _ => 0)), (a3_9, ca E 80 (fun _ => 0)), (a4_9, ca E 80 (fun _ => 0)), (a5_9, ca E 12 (fun _ => 0)), (nw16, .inr (4, [.ref a1_20, .int (iI 0), .ref a2_20, .ref a3_20, .ref a4_20, .ref a5_20])), (a1_20, ca E 5 (fun _ => 0)), (a2_20, ca E 5 (fun _ => 0)), (a3_20, ca E 5 (fun _ => 0)), (a4_20, cz E 5 (fun _ => 0)), (a5_20, ca E 5 (fun _ => 0)), (nw27, .inr (1, [.ref a1_31, .int (iI 0), .ref a2_31])), (a1_31, ca E 4 (fun _ => 0)), (a2_31, ca E 4 (fun _ => 0)), (nw38, .inr (5, [.ref a1_42, .int (iI 0), .ref a2_42, .ref a3_42, .ref a4_42])), (a1_42, ca E 4 (fun _ => 0)), (a2_42, ca E 4 (fun _ => 0)), (a3_42, ca E 4 (fun _ => 0)), (a4_42, ca E 4 (fun _ => 0)), (nw49, .inr (2, [.ref a1_53, .int (iI 0), .ref a2_53, .ref a3_53, .int (iI 0)])), (a1_53, ca E 10 (fun _ => 0)), (a2_53, ca E 10 (fun _ => 0)), (a3_53, ca E 10 (fun _ => 0))])) pm_10 ?_
  refine g_callIX (As := []) (kc' := 27) (ks' := 444) C ([(o, .inr (6, [.int (iI 0), .ref nw5, .ref nw16, .ref nw27, .ref nw38, .ref nw49, .null, .null])), (nw5, .inr (3, [.ref a1_9, .ref a2_9, .ref a3_9, .ref a4_9, .ref a5_9])), (a1_9, ca E 80 gnd), (a2_9, ca E 80 (fun _ => 0)), (a3_9, ca E 80 (fun _ => 0)), (a4_9, ca E 80 (fun _ => 0)), (a5_9, ca E 12 (fun _ => 0)), (nw16, .inr (4, [.ref a1_20, .int (iI 0), .ref a2_20, .ref a3_20, .ref a4_20, .ref a5_20])), (a1_20, ca E 5 (fun _ => 0)), (a2_20, ca E 5 (fun _ => 0)), (a3_20, ca E 5 (fun _ => 0)), (a4_20, cz E 5 (fun _ => 0)), (a5_20, ca E 5 (fun _ => 0)), (nw27, .inr (1, [.ref a1_31, .int (iI 0), .ref a2_31])), (a1_31, ca E 4 (fun _ => 0)), (a2_31, ca E 4 (fun _ => 0)), (nw38, .inr (5, [.ref a1_42, .int (iI 0), .ref a2_42, .ref a3_42, .ref a4_42])), (a1_42, ca E 4 (fun _ => 0)), (a2_42, ca E 4 (fun _ => 0)), (a3_42, ca E 4 (fun _ => 0)), (a4_42, ca E 4 (fun _ => 0)), (nw49, .inr (2, [.ref a1_53, .int (iI 0), .ref a2_53, .ref a3_53, .int (iI 0)])), (a1_53, ca E 10 (fun _ => 0)), (a2_53, ca E 10 (fun _ => 0)), (a3_53, ca E 10 (fun _ => 0))]) (k_X0_init l E nw60) mX0_init wd182 rfl wd181 rfl rfl (Nat.le_of_ble_eq_true rfl) ⟨Nat.le_of_ble_eq_true rfl, Nat.le_of_ble_eq_true rfl⟩ ⟨Nat.le_of_ble_eq_true rfl, Nat.le_of_ble_eq_true rfl⟩ rfl dX7_init_64 rfl rfl rfl ?_
  intro w64 hw64
  obtain ⟨a1_64, a2_64, rfl⟩ := hw64
  refine g_perm (ws1 := [(o, .inr (6, [.int (iI 0), .ref nw5, .ref nw16, .ref nw27, .ref nw38, .ref nw49, .null, .null])), (nw5, .inr (3, [.ref a1_9, .ref a2_9, .ref a3_9, .ref a4_9, .ref a5_9])), (a1_9, ca E 80 gnd), (a2_9, ca E 80 (fun _ => 0)), (a3_9, ca E 80 (fun _ => 0)), (a4_9, ca E 80 (fun _ => 0)), (a5_9, ca E 12 (fun _ => 0)), (nw16, .inr (4, [.ref a1_20, .int (iI 0), .ref a2_20, .ref a3_20, .ref a4_20, .ref a5_20])), (a1_20, ca E 5 (fun _ => 0)), (a2_20, ca E 5 (fun _ => 0)), (a3_20, ca E 5 (fun _ => 0)), (a4_20, cz E 5 (fun _ => 0)), (a5_20, ca E 5 (fun _ => 0)), (nw27, .inr (1, [.ref a1_31, .int (iI 0), .ref a2_31])), (a1_31, ca E 4 (fun _ => 0)), (a2_31, ca E 4 (fun _ => 0)), (nw38, .inr (5, [.ref a1_42, .int (iI 0), .ref a2_42, .ref a3_42, .ref a4_42])), (a1_42, ca E 4 (fun _ => 0)), (a2_42, ca E 4 (fun _ => 0)), (a3_42, ca E 4 (fun _ => 0)), (a4_42, ca E 4 (fun _ => 0)), (nw49, .inr (2, [.ref a1_53, .int (iI 0), .ref a2_53, .ref a3_53, .int (iI 0)])), (a1_53, ca E 10 (fun _ => 0)), (a2_53, ca E 10 (fun _ => 0)), (a3_53, ca E 10 (fun _ => 0))] ++ ([(nw60, .inr (0, [.ref a1_64, .int (iI 0), .ref a2_64])), (a1_64, ca E 3 (fun _ => 0)), (a2_64, ca E 3 (fun _ => 0))])) pm_10 ?_
  refine g_to [0] (ws1 := [(o, .inr (6, [.int (iI 0), .ref nw5, .ref nw16, .ref nw27, .ref nw38, .ref nw49, .null, .null])), (nw5, .inr (3, [.ref a1_9, .ref a2_9, .ref a3_9, .ref a4_9, .ref a5_9])), (a1_9, ca E 80 gnd), (a2_9, ca E 80 (fun _ => 0)), (a3_9, ca E 80 (fun _ => 0)), (a4_9, ca E 80 (fun _ => 0)), (a5_9, ca E 12 (fun _ => 0)), (nw16, .inr (4, [.ref a1_20, .int (iI 0), .ref a2_20, .ref a3_20, .ref a4_20, .ref a5_20])), (a1_20, ca E 5 (fun _ => 0)), (a2_20, ca E 5 (fun _ => 0)), (a3_20, ca E 5 (fun _ => 0)), (a4_20, cz E 5 (fun _ => 0)), (a5_20, ca E 5 (fun _ => 0)), (nw27, .inr (1, [.ref a1_31, .int (iI 0), .ref a2_31])), (a1_31, ca E 4 (fun _ => 0)), (a2_31, ca E 4 (fun _ => 0)), (nw38, .inr (5, [.ref a1_42, .int (iI 0), .ref a2_42, .ref a3_42, .ref a4_42])), (a1_42, ca E 4 (fun _ => 0)), (a2_42, ca E 4 (fun _ => 0)), (a3_42, ca E 4 (fun _ => 0)), (a4_42, ca E 4 (fun _ => 0)), (nw49, .inr (2, [.ref a1_53, .int (iI 0), .ref a2_53, .ref a3_53, .int (iI 0)])), (a1_53, ca E 10 (fun _ => 0)), (a2_53, ca E 10 (fun _ => 0)), (a3_53, ca E 10 (fun _ => 0)), (nw60, .inr (0, [.ref a1_64, .int (iI 0), .ref a2_64])), (a1_64, ca E 3 (fun _ => 0)), (a2_64, ca E 3 (fun _ => 0))]) ?_ rfl rfl rfl
  refine g_putF (T := TX7) (N := 8) (ci := 6) (ws' := [(o, .inr (6, [.int (iI 0), .ref nw5, .ref nw16, .ref nw27, .ref nw38, .ref nw49, .ref nw60, .null])), (nw5, .inr (3, [.ref a1_9, .ref a2_9, .ref a3_9, .ref a4_9, .ref a5_9])), (a1_9, ca E 80 gnd), (a2_9, ca E 80 (fun _ => 0)), (a3_9, ca E 80 (fun _ => 0)), (a4_9, ca E 80 (fun _ => 0)), (a5_9, ca E 12 (fun _ => 0)), (nw16, .inr (4, [.ref a1_20, .int (iI 0), .ref a2_20, .ref a3_20, .ref a4_20, .ref a5_20])), (a1_20, ca E 5 (fun _ => 0)), (a2_20, ca E 5 (fun _ => 0)), (a3_20, ca E 5 (fun _ => 0)), (a4_20, cz E 5 (fun _ => 0)), (a5_20, ca E 5 (fun _ => 0)), (nw27, .inr (1, [.ref a1_31, .int (iI 0), .ref a2_31])), (a1_31, ca E 4 (fun _ => 0)), (a2_31, ca E 4 (fun _ => 0)), (nw38, .inr (5, [.ref a1_42, .int (iI 0), .ref a2_42, .ref a3_42, .ref a4_42])), (a1_42, ca E 4 (fun _ => 0)), (a2_42, ca E 4 (fun _ => 0)), (a3_42, ca E 4 (fun _ => 0)), (a4_42, ca E 4 (fun _ => 0)), (nw49, .inr (2, [.ref a1_53, .int (iI 0), .ref a2_53, .ref a3_53, .int (iI 0)])), (a1_53, ca E 10 (fun _ => 0)), (a2_53, ca E 10 (fun _ => 0)), (a3_53, ca E 10 (fun _ => 0)), (nw60, .inr (0, [.ref a1_64, .int (iI 0), .ref a2_64])), (a1_64, ca E 3 (fun _ => 0)), (a2_64, ca E 3 (fun _ => 0))]) C hin9 in_X7 tyX7 tyX7_ok nmX7 0 rfl rfl 6 (by decide) wd224 rfl rfl (ty := (.object "FloodWardens$Callers")) (by decide +kernel) rfl rfl (Nat.le_of_ble_eq_true rfl) rfl dX7_init_67 rfl ?_
  refine g_aload_n C dX7_init_70 rfl 0 rfl ?_
  refine g_new (T := TX8) (N := 4) (ci := 7) (fs := [.null, .null, .null, .int (iI 0)]) C in_X8 tyX8 tyX8_ok ⟨wd191, wd192, wd10⟩ rfl (by intro j hj; have h9 : j = 0 ∨ j = 1 ∨ j = 2 ∨ j = 3 := (by omega); rcases h9 with h9 | h9 | h9 | h9 <;> subst h9 <;> rfl) ⟨Nat.le_of_ble_eq_true rfl, Nat.le_of_ble_eq_true rfl⟩ dX7_init_71 rfl (fun nw71 => ?_)
  refine g_dup C dX7_init_74 rfl rfl ?_
  refine g_perm (ws1 := [(nw71, .inr (7, [.null, .null, .null, .int (iI 0)]))] ++ ([(o, .inr (6, [.int (iI 0), .ref nw5, .ref nw16, .ref nw27, .ref nw38, .ref nw49, .ref nw60, .null])), (nw5, .inr (3, [.ref a1_9, .ref a2_9, .ref a3_9, .ref a4_9, .ref a5_9])), (a1_9, ca E 80 gnd), (a2_9, ca E 80 (fun _ => 0)), (a3_9, ca E 80 (fun _ => 0)), (a4_9, ca E 80 (fun _ => 0)), (a5_9, ca E 12 (fun _ => 0)), (nw16, .inr (4, [.ref a1_20, .int (iI 0), .ref a2_20, .ref a3_20, .ref a4_20, .ref a5_20])), (a1_20, ca E 5 (fun _ => 0)), (a2_20, ca E 5 (fun _ => 0)), (a3_20, ca E 5 (fun _ => 0)), (a4_20, cz E 5 (fun _ => 0)), (a5_20, ca E 5 (fun _ => 0)), (nw27, .inr (1, [.ref a1_31, .int (iI 0), .ref a2_31])), (a1_31, ca E 4 (fun _ => 0)), (a2_31, ca E 4 (fun _ => 0)), (nw38, .inr (5, [.ref a1_42, .int (iI 0), .ref a2_42, .ref a3_42, .ref a4_42])), (a1_42, ca E 4 (fun _ => 0)), (a2_42, ca E 4 (fun _ => 0)), (a3_42, ca E 4 (fun _ => 0)), (a4_42, ca E 4 (fun _ => 0)), (nw49, .inr (2, [.ref a1_53, .int (iI 0), .ref a2_53, .ref a3_53, .int (iI 0)])), (a1_53, ca E 10 (fun _ => 0)), (a2_53, ca E 10 (fun _ => 0)), (a3_53, ca E 10 (fun _ => 0)), (nw60, .inr (0, [.ref a1_64, .int (iI 0), .ref a2_64])), (a1_64, ca E 3 (fun _ => 0)), (a2_64, ca E 3 (fun _ => 0))])) pm_10 ?_
  refine g_callINX (As := []) (kc' := 31) (ks' := 688) C "FloodWardens" ([(o, .inr (6, [.int (iI 0), .ref nw5, .ref nw16, .ref nw27, .ref nw38, .ref nw49, .ref nw60, .null])), (nw5, .inr (3, [.ref a1_9, .ref a2_9, .ref a3_9, .ref a4_9, .ref a5_9])), (a1_9, ca E 80 gnd), (a2_9, ca E 80 (fun _ => 0)), (a3_9, ca E 80 (fun _ => 0)), (a4_9, ca E 80 (fun _ => 0)), (a5_9, ca E 12 (fun _ => 0)), (nw16, .inr (4, [.ref a1_20, .int (iI 0), .ref a2_20, .ref a3_20, .ref a4_20, .ref a5_20])), (a1_20, ca E 5 (fun _ => 0)), (a2_20, ca E 5 (fun _ => 0)), (a3_20, ca E 5 (fun _ => 0)), (a4_20, cz E 5 (fun _ => 0)), (a5_20, ca E 5 (fun _ => 0)), (nw27, .inr (1, [.ref a1_31, .int (iI 0), .ref a2_31])), (a1_31, ca E 4 (fun _ => 0)), (a2_31, ca E 4 (fun _ => 0)), (nw38, .inr (5, [.ref a1_42, .int (iI 0), .ref a2_42, .ref a3_42, .ref a4_42])), (a1_42, ca E 4 (fun _ => 0)), (a2_42, ca E 4 (fun _ => 0)), (a3_42, ca E 4 (fun _ => 0)), (a4_42, ca E 4 (fun _ => 0)), (nw49, .inr (2, [.ref a1_53, .int (iI 0), .ref a2_53, .ref a3_53, .int (iI 0)])), (a1_53, ca E 10 (fun _ => 0)), (a2_53, ca E 10 (fun _ => 0)), (a3_53, ca E 10 (fun _ => 0)), (nw60, .inr (0, [.ref a1_64, .int (iI 0), .ref a2_64])), (a1_64, ca E 3 (fun _ => 0)), (a2_64, ca E 3 (fun _ => 0))]) (k_X8_init l E nw71) mX8_init wd194 rfl ⟨by decide +kernel, rfl⟩ rfl rfl (Nat.le_of_ble_eq_true rfl) ⟨Nat.le_of_ble_eq_true rfl, Nat.le_of_ble_eq_true rfl⟩ ⟨Nat.le_of_ble_eq_true rfl, Nat.le_of_ble_eq_true rfl⟩ rfl dX7_init_75 rfl rfl rfl ?_
  intro w75 hw75
  obtain ⟨a1_75, a2_75, a3_75, rfl⟩ := hw75
  refine g_perm (ws1 := [(o, .inr (6, [.int (iI 0), .ref nw5, .ref nw16, .ref nw27, .ref nw38, .ref nw49, .ref nw60, .null])), (nw5, .inr (3, [.ref a1_9, .ref a2_9, .ref a3_9, .ref a4_9, .ref a5_9])), (a1_9, ca E 80 gnd), (a2_9, ca E 80 (fun _ => 0)), (a3_9, ca E 80 (fun _ => 0)), (a4_9, ca E 80 (fun _ => 0)), (a5_9, ca E 12 (fun _ => 0)), (nw16, .inr (4, [.ref a1_20, .int (iI 0), .ref a2_20, .ref a3_20, .ref a4_20, .ref a5_20])), (a1_20, ca E 5 (fun _ => 0)), (a2_20, ca E 5 (fun _ => 0)), (a3_20, ca E 5 (fun _ => 0)), (a4_20, cz E 5 (fun _ => 0)), (a5_20, ca E 5 (fun _ => 0)), (nw27, .inr (1, [.ref a1_31, .int (iI 0), .ref a2_31])), (a1_31, ca E 4 (fun _ => 0)), (a2_31, ca E 4 (fun _ => 0)), (nw38, .inr (5, [.ref a1_42, .int (iI 0), .ref a2_42, .ref a3_42, .ref a4_42])), (a1_42, ca E 4 (fun _ => 0)), (a2_42, ca E 4 (fun _ => 0)), (a3_42, ca E 4 (fun _ => 0)), (a4_42, ca E 4 (fun _ => 0)), (nw49, .inr (2, [.ref a1_53, .int (iI 0), .ref a2_53, .ref a3_53, .int (iI 0)])), (a1_53, ca E 10 (fun _ => 0)), (a2_53, ca E 10 (fun _ => 0)), (a3_53, ca E 10 (fun _ => 0)), (nw60, .inr (0, [.ref a1_64, .int (iI 0), .ref a2_64])), (a1_64, ca E 3 (fun _ => 0)), (a2_64, ca E 3 (fun _ => 0))] ++ ([(nw71, .inr (7, [.ref a1_75, .ref a2_75, .ref a3_75, .int (iI 0)])), (a1_75, ca E 80 (fun _ => 0)), (a2_75, ca E 80 (fun _ => 0)), (a3_75, ca E 80 (fun _ => 0))])) pm_10 ?_
  refine g_to [0] (ws1 := [(o, .inr (6, [.int (iI 0), .ref nw5, .ref nw16, .ref nw27, .ref nw38, .ref nw49, .ref nw60, .null])), (nw5, .inr (3, [.ref a1_9, .ref a2_9, .ref a3_9, .ref a4_9, .ref a5_9])), (a1_9, ca E 80 gnd), (a2_9, ca E 80 (fun _ => 0)), (a3_9, ca E 80 (fun _ => 0)), (a4_9, ca E 80 (fun _ => 0)), (a5_9, ca E 12 (fun _ => 0)), (nw16, .inr (4, [.ref a1_20, .int (iI 0), .ref a2_20, .ref a3_20, .ref a4_20, .ref a5_20])), (a1_20, ca E 5 (fun _ => 0)), (a2_20, ca E 5 (fun _ => 0)), (a3_20, ca E 5 (fun _ => 0)), (a4_20, cz E 5 (fun _ => 0)), (a5_20, ca E 5 (fun _ => 0)), (nw27, .inr (1, [.ref a1_31, .int (iI 0), .ref a2_31])), (a1_31, ca E 4 (fun _ => 0)), (a2_31, ca E 4 (fun _ => 0)), (nw38, .inr (5, [.ref a1_42, .int (iI 0), .ref a2_42, .ref a3_42, .ref a4_42])), (a1_42, ca E 4 (fun _ => 0)), (a2_42, ca E 4 (fun _ => 0)), (a3_42, ca E 4 (fun _ => 0)), (a4_42, ca E 4 (fun _ => 0)), (nw49, .inr (2, [.ref a1_53, .int (iI 0), .ref a2_53, .ref a3_53, .int (iI 0)])), (a1_53, ca E 10 (fun _ => 0)), (a2_53, ca E 10 (fun _ => 0)), (a3_53, ca E 10 (fun _ => 0)), (nw60, .inr (0, [.ref a1_64, .int (iI 0), .ref a2_64])), (a1_64, ca E 3 (fun _ => 0)), (a2_64, ca E 3 (fun _ => 0)), (nw71, .inr (7, [.ref a1_75, .ref a2_75, .ref a3_75, .int (iI 0)])), (a1_75, ca E 80 (fun _ => 0)), (a2_75, ca E 80 (fun _ => 0)), (a3_75, ca E 80 (fun _ => 0))]) ?_ rfl rfl rfl
  refine g_putF (T := TX7) (N := 8) (ci := 6) (ws' := [(o, .inr (6, [.int (iI 0), .ref nw5, .ref nw16, .ref nw27, .ref nw38, .ref nw49, .ref nw60, .ref nw71])), (nw5, .inr (3, [.ref a1_9, .ref a2_9, .ref a3_9, .ref a4_9, .ref a5_9])), (a1_9, ca E 80 gnd), (a2_9, ca E 80 (fun _ => 0)), (a3_9, ca E 80 (fun _ => 0)), (a4_9, ca E 80 (fun _ => 0)), (a5_9, ca E 12 (fun _ => 0)), (nw16, .inr (4, [.ref a1_20, .int (iI 0), .ref a2_20, .ref a3_20, .ref a4_20, .ref a5_20])), (a1_20, ca E 5 (fun _ => 0)), (a2_20, ca E 5 (fun _ => 0)), (a3_20, ca E 5 (fun _ => 0)), (a4_20, cz E 5 (fun _ => 0)), (a5_20, ca E 5 (fun _ => 0)), (nw27, .inr (1, [.ref a1_31, .int (iI 0), .ref a2_31])), (a1_31, ca E 4 (fun _ => 0)), (a2_31, ca E 4 (fun _ => 0)), (nw38, .inr (5, [.ref a1_42, .int (iI 0), .ref a2_42, .ref a3_42, .ref a4_42])), (a1_42, ca E 4 (fun _ => 0)), (a2_42, ca E 4 (fun _ => 0)), (a3_42, ca E 4 (fun _ => 0)), (a4_42, ca E 4 (fun _ => 0)), (nw49, .inr (2, [.ref a1_53, .int (iI 0), .ref a2_53, .ref a3_53, .int (iI 0)])), (a1_53, ca E 10 (fun _ => 0)), (a2_53, ca E 10 (fun _ => 0)), (a3_53, ca E 10 (fun _ => 0)), (nw60, .inr (0, [.ref a1_64, .int (iI 0), .ref a2_64])), (a1_64, ca E 3 (fun _ => 0)), (a2_64, ca E 3 (fun _ => 0)), (nw71, .inr (7, [.ref a1_75, .ref a2_75, .ref a3_75, .int (iI 0)])), (a1_75, ca E 80 (fun _ => 0)), (a2_75, ca E 80 (fun _ => 0)), (a3_75, ca E 80 (fun _ => 0))]) C hin9 in_X7 tyX7 tyX7_ok nmX7 0 rfl rfl 7 (by decide) wd226 rfl rfl (ty := (.object "FloodWardens$Ways")) (by decide +kernel) rfl rfl (Nat.le_of_ble_eq_true rfl) rfl dX7_init_78 rfl ?_
  exact z_vretX C Z dX7_init_81 (⟨atL [o, nw5, a1_9, a2_9, a3_9, a4_9, a5_9, nw16, a1_20, a2_20, a3_20, a4_20, a5_20, nw27, a1_31, a2_31, nw38, a1_42, a2_42, a3_42, a4_42, nw49, a1_53, a2_53, a3_53, nw60, a1_64, a2_64, nw71, a1_75, a2_75, a3_75], rfl, rfl⟩)
abbrev r_X9_init : Room := { frames := 4, cells := 64, slots := 1392, locals := 73 }
set_option maxHeartbeats 4000000 in
set_option maxRecDepth 100000 in
theorem k_X9_init (l : Launch) (E : gE) (o : Nat) : gKX l E yX9_init cX9_init 1 r_X9_init [.ref o] ([(o, .inr (8, [.null, .null]))]) (fun w => ∃ ad bd : Nat → Nat, w = [(o, .inr (8, [.ref (ad 0), .ref (bd 0)]))] ++ (wT E ad gT0 ++ wT E bd gT0)) := by
  refine gKX_byN RX9 rfl mX9_init [(0, .ref o)] (Nat.le_of_ble_eq_true rfl) rfl ?_
  intro zp ze zs zm za zb zh zc zA zQ hin9 C Z
  refine g_aload_n C dX9_init_0 rfl 0 rfl ?_
  refine g_objInit C wd26 ⟨wd27, wd28⟩ (Nat.le_of_ble_eq_true rfl) (Nat.le_of_ble_eq_true rfl) dX9_init_1 rfl ?_
  refine g_aload_n C dX9_init_4 rfl 0 rfl ?_
  refine g_new (T := TX7) (N := 8) (ci := 6) (fs := [.int (iI 0), .null, .null, .null, .null, .null, .null, .null]) C in_X7 tyX7 tyX7_ok ⟨wd29, wd30, wd2⟩ rfl (by intro j hj; have h9 : j = 0 ∨ j = 1 ∨ j = 2 ∨ j = 3 ∨ j = 4 ∨ j = 5 ∨ j = 6 ∨ j = 7 := (by omega); rcases h9 with h9 | h9 | h9 | h9 | h9 | h9 | h9 | h9 <;> subst h9 <;> rfl) ⟨Nat.le_of_ble_eq_true rfl, Nat.le_of_ble_eq_true rfl⟩ dX9_init_5 rfl (fun nw5 => ?_)
  refine g_dup C dX9_init_8 rfl rfl ?_
  refine g_perm (ws1 := [(nw5, .inr (6, [.int (iI 0), .null, .null, .null, .null, .null, .null, .null]))] ++ ([(o, .inr (8, [.null, .null]))])) pm_10 ?_
  refine g_callINX (As := []) (kc' := 32) (ks' := 696) C "FloodWardens" ([(o, .inr (8, [.null, .null]))]) (k_X7_init l E nw5) mX7_init wd32 rfl ⟨by decide +kernel, rfl⟩ rfl rfl (Nat.le_of_ble_eq_true rfl) ⟨Nat.le_of_ble_eq_true rfl, Nat.le_of_ble_eq_true rfl⟩ ⟨Nat.le_of_ble_eq_true rfl, Nat.le_of_ble_eq_true rfl⟩ rfl dX9_init_9 rfl rfl rfl ?_
  intro w9 hw9
  obtain ⟨ad9, rfl, rfl⟩ := hw9
  refine g_perm (ws1 := [(o, .inr (8, [.null, .null]))] ++ (wT E ad9 gT0)) pm_10 ?_
  refine g_putF (T := TX9) (N := 2) (ci := 8) (ws' := [(o, .inr (8, [.ref (ad9 0), .null]))] ++ (wT E ad9 gT0)) C hin9 in_X9 tyX9 tyX9_ok nmX9 0 rfl rfl 0 (by decide) wd244 rfl rfl (ty := (.object "FloodWardens$Town")) (by decide +kernel) rfl rfl (Nat.le_of_ble_eq_true rfl) rfl dX9_init_12 rfl ?_
  refine g_aload_n C dX9_init_15 rfl 0 rfl ?_
  refine g_new (T := TX7) (N := 8) (ci := 6) (fs := [.int (iI 0), .null, .null, .null, .null, .null, .null, .null]) C in_X7 tyX7 tyX7_ok ⟨wd29, wd30, wd2⟩ rfl (by intro j hj; have h9 : j = 0 ∨ j = 1 ∨ j = 2 ∨ j = 3 ∨ j = 4 ∨ j = 5 ∨ j = 6 ∨ j = 7 := (by omega); rcases h9 with h9 | h9 | h9 | h9 | h9 | h9 | h9 | h9 <;> subst h9 <;> rfl) ⟨Nat.le_of_ble_eq_true rfl, Nat.le_of_ble_eq_true rfl⟩ dX9_init_16 rfl (fun nw16 => ?_)
  refine g_to [0] (ws1 := [(o, .inr (8, [.ref (ad9 0), .null]))] ++ (wT E ad9 gT0 ++ ([(nw16, .inr (6, [.int (iI 0), .null, .null, .null, .null, .null, .null, .null]))]))) ?_ (by simp only [List.append_assoc]) rfl rfl
  refine g_dup C dX9_init_19 rfl rfl ?_
  refine g_perm (ws1 := [(nw16, .inr (6, [.int (iI 0), .null, .null, .null, .null, .null, .null, .null]))] ++ ([(o, .inr (8, [.ref (ad9 0), .null]))] ++ (wT E ad9 gT0))) pm_201 ?_
  refine g_callINX (As := []) (kc' := 64) (ks' := 1392) C "FloodWardens" ([(o, .inr (8, [.ref (ad9 0), .null]))] ++ (wT E ad9 gT0)) (k_X7_init l E nw16) mX7_init wd32 rfl ⟨by decide +kernel, rfl⟩ rfl rfl (Nat.le_of_ble_eq_true rfl) ⟨Nat.le_of_ble_eq_true rfl, Nat.le_of_ble_eq_true rfl⟩ ⟨Nat.le_of_ble_eq_true rfl, Nat.le_of_ble_eq_true rfl⟩ rfl dX9_init_20 rfl rfl rfl ?_
  intro w20 hw20
  obtain ⟨ad20, rfl, rfl⟩ := hw20
  refine g_perm (ws1 := [(o, .inr (8, [.ref (ad9 0), .null]))] ++ (wT E ad9 gT0 ++ (wT E ad20 gT0))) pm_120 ?_
  refine g_putF (T := TX9) (N := 2) (ci := 8) (ws' := [(o, .inr (8, [.ref (ad9 0), .ref (ad20 0)]))] ++ (wT E ad9 gT0 ++ (wT E ad20 gT0))) C hin9 in_X9 tyX9 tyX9_ok nmX9 0 rfl rfl 1 (by decide) wd245 rfl rfl (ty := (.object "FloodWardens$Town")) (by decide +kernel) rfl rfl (Nat.le_of_ble_eq_true rfl) rfl dX9_init_23 rfl ?_
  exact z_vretX C Z dX9_init_26 (⟨ad9, ad20, rfl⟩)
