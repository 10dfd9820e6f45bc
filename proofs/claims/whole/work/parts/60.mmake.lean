/-- the first ground -/
def gnd : Int → Int := itr (riseB 2) (fun _ => 0) 80
def gT0 : gS := setA gS0 2 gnd
def gS1 : gS := setA gS0 1 gnd
abbrev r_X10_init : Room := { frames := 1, cells := 8, slots := 327, locals := 12 }
set_option maxHeartbeats 4000000 in
set_option maxRecDepth 100000 in
theorem k_X10_init (l : Launch) (E : gE) (o : Nat) : gKX l E yX10_init cX10_init 1 r_X10_init [.ref o] ([(o, .inr (9, [.int (iI 0), .int (iI 0), .null, .null, .null, .null, .null, .null, .null, .null]))]) (fun w => ∃ ad : Nat → Nat, ad 0 = o ∧ w = wS E ad gS0) := by
  refine gKX_byN RX10 rfl mX10_init [(0, .ref o)] (Nat.le_of_ble_eq_true rfl) rfl ?_
  intro zp ze zs zm za zb zh zc zA zQ hin9 C Z
  refine g_aload_n C dX10_init_0 rfl 0 rfl ?_
  refine g_objInit C wd892 ⟨wd27, wd28⟩ (Nat.le_of_ble_eq_true rfl) (Nat.le_of_ble_eq_true rfl) dX10_init_1 rfl ?_
  refine g_aload_n C dX10_init_4 rfl 0 rfl ?_
  refine g_bipush C dX10_init_5 rfl rfl ?_
  refine g_newa (N := 80) C wd66 rfl (by decide) ⟨Nat.le_of_ble_eq_true rfl, Nat.le_of_ble_eq_true rfl⟩ dX10_init_7 rfl (fun na7 => ?_)
  refine g_to [0] (ws1 := [(o, .inr (9, [.int (iI 0), .int (iI 0), .null, .null, .null, .null, .null, .null, .null, .null])), (na7, ca E 80 (fun _ => 0))]) ?_ rfl rfl rfl
  refine g_putF (T := TX10) (N := 10) (ci := 9) (ws' := [(o, .inr (9, [.int (iI 0), .int (iI 0), .ref na7, .null, .null, .null, .null, .null, .null, .null])), (na7, ca E 80 (fun _ => 0))]) C hin9 in_X10 tyX10 tyX10_ok nmX10 0 rfl rfl 2 (by decide) wd897 rfl rfl (ty := (.array .int)) (by decide +kernel) rfl rfl (Nat.le_of_ble_eq_true rfl) rfl dX10_init_9 rfl ?_
  refine g_aload_n C dX10_init_12 rfl 0 rfl ?_
  refine g_bipush C dX10_init_13 rfl rfl ?_
  refine g_newa (N := 80) C wd66 rfl (by decide) ⟨Nat.le_of_ble_eq_true rfl, Nat.le_of_ble_eq_true rfl⟩ dX10_init_15 rfl (fun na15 => ?_)
  refine g_to [0] (ws1 := [(o, .inr (9, [.int (iI 0), .int (iI 0), .ref na7, .null, .null, .null, .null, .null, .null, .null])), (na7, ca E 80 (fun _ => 0)), (na15, ca E 80 (fun _ => 0))]) ?_ rfl rfl rfl
  refine g_putF (T := TX10) (N := 10) (ci := 9) (ws' := [(o, .inr (9, [.int (iI 0), .int (iI 0), .ref na7, .ref na15, .null, .null, .null, .null, .null, .null])), (na7, ca E 80 (fun _ => 0)), (na15, ca E 80 (fun _ => 0))]) C hin9 in_X10 tyX10 tyX10_ok nmX10 0 rfl rfl 3 (by decide) wd899 rfl rfl (ty := (.array .int)) (by decide +kernel) rfl rfl (Nat.le_of_ble_eq_true rfl) rfl dX10_init_17 rfl ?_
  refine g_aload_n C dX10_init_20 rfl 0 rfl ?_
  refine g_bipush C dX10_init_21 rfl rfl ?_
  refine g_newa (N := 80) C wd66 rfl (by decide) ⟨Nat.le_of_ble_eq_true rfl, Nat.le_of_ble_eq_true rfl⟩ dX10_init_23 rfl (fun na23 => ?_)
  refine g_to [0] (ws1 := [(o, .inr (9, [.int (iI 0), .int (iI 0), .ref na7, .ref na15, .null, .null, .null, .null, .null, .null])), (na7, ca E 80 (fun _ => 0)), (na15, ca E 80 (fun _ => 0)), (na23, ca E 80 (fun _ => 0))]) ?_ rfl rfl rfl
  refine g_putF (T := TX10) (N := 10) (ci := 9) (ws' := [(o, .inr (9, [.int (iI 0), .int (iI 0), .ref na7, .ref na15, .ref na23, .null, .null, .null, .null, .null])), (na7, ca E 80 (fun _ => 0)), (na15, ca E 80 (fun _ => 0)), (na23, ca E 80 (fun _ => 0))]) C hin9 in_X10 tyX10 tyX10_ok nmX10 0 rfl rfl 4 (by decide) wd901 rfl rfl (ty := (.array .int)) (by decide +kernel) rfl rfl (Nat.le_of_ble_eq_true rfl) rfl dX10_init_25 rfl ?_
  refine g_aload_n C dX10_init_28 rfl 0 rfl ?_
  refine g_bipush C dX10_init_29 rfl rfl ?_
  refine g_newa (N := 25) C wd66 rfl (by decide) ⟨Nat.le_of_ble_eq_true rfl, Nat.le_of_ble_eq_true rfl⟩ dX10_init_31 rfl (fun na31 => ?_)
  refine g_to [0] (ws1 := [(o, .inr (9, [.int (iI 0), .int (iI 0), .ref na7, .ref na15, .ref na23, .null, .null, .null, .null, .null])), (na7, ca E 80 (fun _ => 0)), (na15, ca E 80 (fun _ => 0)), (na23, ca E 80 (fun _ => 0)), (na31, ca E 25 (fun _ => 0))]) ?_ rfl rfl rfl
  refine g_putF (T := TX10) (N := 10) (ci := 9) (ws' := [(o, .inr (9, [.int (iI 0), .int (iI 0), .ref na7, .ref na15, .ref na23, .ref na31, .null, .null, .null, .null])), (na7, ca E 80 (fun _ => 0)), (na15, ca E 80 (fun _ => 0)), (na23, ca E 80 (fun _ => 0)), (na31, ca E 25 (fun _ => 0))]) C hin9 in_X10 tyX10 tyX10_ok nmX10 0 rfl rfl 5 (by decide) wd903 rfl rfl (ty := (.array .int)) (by decide +kernel) rfl rfl (Nat.le_of_ble_eq_true rfl) rfl dX10_init_33 rfl ?_
  refine g_aload_n C dX10_init_36 rfl 0 rfl ?_
  refine g_bipush C dX10_init_37 rfl rfl ?_
  refine g_newa (N := 8) C wd66 rfl (by decide) ⟨Nat.le_of_ble_eq_true rfl, Nat.le_of_ble_eq_true rfl⟩ dX10_init_39 rfl (fun na39 => ?_)
  refine g_to [0] (ws1 := [(o, .inr (9, [.int (iI 0), .int (iI 0), .ref na7, .ref na15, .ref na23, .ref na31, .null, .null, .null, .null])), (na7, ca E 80 (fun _ => 0)), (na15, ca E 80 (fun _ => 0)), (na23, ca E 80 (fun _ => 0)), (na31, ca E 25 (fun _ => 0)), (na39, ca E 8 (fun _ => 0))]) ?_ rfl rfl rfl
  refine g_putF (T := TX10) (N := 10) (ci := 9) (ws' := [(o, .inr (9, [.int (iI 0), .int (iI 0), .ref na7, .ref na15, .ref na23, .ref na31, .ref na39, .null, .null, .null])), (na7, ca E 80 (fun _ => 0)), (na15, ca E 80 (fun _ => 0)), (na23, ca E 80 (fun _ => 0)), (na31, ca E 25 (fun _ => 0)), (na39, ca E 8 (fun _ => 0))]) C hin9 in_X10 tyX10 tyX10_ok nmX10 0 rfl rfl 6 (by decide) wd905 rfl rfl (ty := (.array .int)) (by decide +kernel) rfl rfl (Nat.le_of_ble_eq_true rfl) rfl dX10_init_41 rfl ?_
  refine g_aload_n C dX10_init_44 rfl 0 rfl ?_
  refine g_bipush C dX10_init_45 rfl rfl ?_
  refine g_newa (N := 8) C wd66 rfl (by decide) ⟨Nat.le_of_ble_eq_true rfl, Nat.le_of_ble_eq_true rfl⟩ dX10_init_47 rfl (fun na47 => ?_)
  refine g_to [0] (ws1 := [(o, .inr (9, [.int (iI 0), .int (iI 0), .ref na7, .ref na15, .ref na23, .ref na31, .ref na39, .null, .null, .null])), (na7, ca E 80 (fun _ => 0)), (na15, ca E 80 (fun _ => 0)), (na23, ca E 80 (fun _ => 0)), (na31, ca E 25 (fun _ => 0)), (na39, ca E 8 (fun _ => 0)), (na47, ca E 8 (fun _ => 0))]) ?_ rfl rfl rfl
  refine g_putF (T := TX10) (N := 10) (ci := 9) (ws' := [(o, .inr (9, [.int (iI 0), .int (iI 0), .ref na7, .ref na15, .ref na23, .ref na31, .ref na39, .ref na47, .null, .null])), (na7, ca E 80 (fun _ => 0)), (na15, ca E 80 (fun _ => 0)), (na23, ca E 80 (fun _ => 0)), (na31, ca E 25 (fun _ => 0)), (na39, ca E 8 (fun _ => 0)), (na47, ca E 8 (fun _ => 0))]) C hin9 in_X10 tyX10 tyX10_ok nmX10 0 rfl rfl 7 (by decide) wd907 rfl rfl (ty := (.array .int)) (by decide +kernel) rfl rfl (Nat.le_of_ble_eq_true rfl) rfl dX10_init_49 rfl ?_
  refine g_aload_n C dX10_init_52 rfl 0 rfl ?_
  refine g_bipush C dX10_init_53 rfl rfl ?_
  refine g_newa (N := 40) C wd66 rfl (by decide) ⟨Nat.le_of_ble_eq_true rfl, Nat.le_of_ble_eq_true rfl⟩ dX10_init_55 rfl (fun na55 => ?_)
  refine g_to [0] (ws1 := [(o, .inr (9, [.int (iI 0), .int (iI 0), .ref na7, .ref na15, .ref na23, .ref na31, .ref na39, .ref na47, .null, .null])), (na7, ca E 80 (fun _ => 0)), (na15, ca E 80 (fun _ => 0)), (na23, ca E 80 (fun _ => 0)), (na31, ca E 25 (fun _ => 0)), (na39, ca E 8 (fun _ => 0)), (na47, ca E 8 (fun _ => 0)), (na55, ca E 40 (fun _ => 0))]) ?_ rfl rfl rfl
  refine g_putF (T := TX10) (N := 10) (ci := 9) (ws' := [(o, .inr (9, [.int (iI 0), .int (iI 0), .ref na7, .ref na15, .ref na23, .ref na31, .ref na39, .ref na47, .ref na55, .null])), (na7, ca E 80 (fun _ => 0)), (na15, ca E 80 (fun _ => 0)), (na23, ca E 80 (fun _ => 0)), (na31, ca E 25 (fun _ => 0)), (na39, ca E 8 (fun _ => 0)), (na47, ca E 8 (fun _ => 0)), (na55, ca E 40 (fun _ => 0))]) C hin9 in_X10 tyX10 tyX10_ok nmX10 0 rfl rfl 8 (by decide) wd909 rfl rfl (ty := (.array .int)) (by decide +kernel) rfl rfl (Nat.le_of_ble_eq_true rfl) rfl dX10_init_57 rfl ?_
  refine g_aload_n C dX10_init_60 rfl 0 rfl ?_
  refine g_bipush C dX10_init_61 rfl rfl ?_
  refine g_newa (N := 6) C wd66 rfl (by decide) ⟨Nat.le_of_ble_eq_true rfl, Nat.le_of_ble_eq_true rfl⟩ dX10_init_63 rfl (fun na63 => ?_)
  refine g_to [0] (ws1 := [(o, .inr (9, [.int (iI 0), .int (iI 0), .ref na7, .ref na15, .ref na23, .ref na31, .ref na39, .ref na47, .ref na55, .null])), (na7, ca E 80 (fun _ => 0)), (na15, ca E 80 (fun _ => 0)), (na23, ca E 80 (fun _ => 0)), (na31, ca E 25 (fun _ => 0)), (na39, ca E 8 (fun _ => 0)), (na47, ca E 8 (fun _ => 0)), (na55, ca E 40 (fun _ => 0)), (na63, ca E 6 (fun _ => 0))]) ?_ rfl rfl rfl
  refine g_putF (T := TX10) (N := 10) (ci := 9) (ws' := [(o, .inr (9, [.int (iI 0), .int (iI 0), .ref na7, .ref na15, .ref na23, .ref na31, .ref na39, .ref na47, .ref na55, .ref na63])), (na7, ca E 80 (fun _ => 0)), (na15, ca E 80 (fun _ => 0)), (na23, ca E 80 (fun _ => 0)), (na31, ca E 25 (fun _ => 0)), (na39, ca E 8 (fun _ => 0)), (na47, ca E 8 (fun _ => 0)), (na55, ca E 40 (fun _ => 0)), (na63, ca E 6 (fun _ => 0))]) C hin9 in_X10 tyX10 tyX10_ok nmX10 0 rfl rfl 9 (by decide) wd911 rfl rfl (ty := (.array .int)) (by decide +kernel) rfl rfl (Nat.le_of_ble_eq_true rfl) rfl dX10_init_65 rfl ?_
  exact z_vretX C Z dX10_init_68 (⟨atL [o, na7, na15, na23, na31, na39, na47, na55, na63], rfl, rfl⟩)
abbrev r_X11_init : Room := { frames := 2, cells := 23, slots := 1006, locals := 32 }
set_option maxHeartbeats 4000000 in
set_option maxRecDepth 100000 in
theorem k_X11_init (l : Launch) (E : gE) (o : Nat) : gKX l E yX11_init cX11_init 2 r_X11_init [.ref o] ([(o, .inr (10, [.int (iI 0), .null, .int (iI 0), .int (iI 0), .int (iI 0), .int (iI 0), .int (iI 0), .null, .null, .null, .null, .null, .null]))]) (fun w => ∃ am ad bd : Nat → Nat, am 0 = o ∧ w = wM E am (ad 0) (bd 0) gS0 ++ (wS E ad gS1 ++ wS E bd gS0)) := by
  refine gKX_byN RX11 rfl mX11_init [(0, .ref o)] (Nat.le_of_ble_eq_true rfl) rfl ?_
  intro zp ze zs zm za zb zh zc zA zQ hin9 C Z
  refine g_aload_n C dX11_init_0 rfl 0 rfl ?_
  refine g_objInit C wd886 ⟨wd27, wd28⟩ (Nat.le_of_ble_eq_true rfl) (Nat.le_of_ble_eq_true rfl) dX11_init_1 rfl ?_
  refine g_aload_n C dX11_init_4 rfl 0 rfl ?_
  refine g_bipush C dX11_init_5 rfl rfl ?_
  refine g_newa (N := 12) C wd66 rfl (by decide) ⟨Nat.le_of_ble_eq_true rfl, Nat.le_of_ble_eq_true rfl⟩ dX11_init_7 rfl (fun na7 => ?_)
  refine g_to [0] (ws1 := [(o, .inr (10, [.int (iI 0), .null, .int (iI 0), .int (iI 0), .int (iI 0), .int (iI 0), .int (iI 0), .null, .null, .null, .null, .null, .null])), (na7, ca E 12 (fun _ => 0))]) ?_ rfl rfl rfl
  refine g_putF (T := TX11) (N := 13) (ci := 10) (ws' := [(o, .inr (10, [.int (iI 0), .ref na7, .int (iI 0), .int (iI 0), .int (iI 0), .int (iI 0), .int (iI 0), .null, .null, .null, .null, .null, .null])), (na7, ca E 12 (fun _ => 0))]) C hin9 in_X11 tyX11 tyX11_ok nmX11 0 rfl rfl 1 (by decide) wd935 rfl rfl (ty := (.array .int)) (by decide +kernel) rfl rfl (Nat.le_of_ble_eq_true rfl) rfl dX11_init_9 rfl ?_
  refine g_aload_n C dX11_init_12 rfl 0 rfl ?_
  refine g_bipush C dX11_init_13 rfl rfl ?_
  refine g_newa (N := 80) C wd66 rfl (by decide) ⟨Nat.le_of_ble_eq_true rfl, Nat.le_of_ble_eq_true rfl⟩ dX11_init_15 rfl (fun na15 => ?_)
  refine g_to [0] (ws1 := [(o, .inr (10, [.int (iI 0), .ref na7, .int (iI 0), .int (iI 0), .int (iI 0), .int (iI 0), .int (iI 0), .null, .null, .null, .null, .null, .null])), (na7, ca E 12 (fun _ => 0)), (na15, ca E 80 (fun _ => 0))]) ?_ rfl rfl rfl
  refine g_putF (T := TX11) (N := 13) (ci := 10) (ws' := [(o, .inr (10, [.int (iI 0), .ref na7, .int (iI 0), .int (iI 0), .int (iI 0), .int (iI 0), .int (iI 0), .ref na15, .null, .null, .null, .null, .null])), (na7, ca E 12 (fun _ => 0)), (na15, ca E 80 (fun _ => 0))]) C hin9 in_X11 tyX11 tyX11_ok nmX11 0 rfl rfl 7 (by decide) wd941 rfl rfl (ty := (.array .int)) (by decide +kernel) rfl rfl (Nat.le_of_ble_eq_true rfl) rfl dX11_init_17 rfl ?_
  refine g_aload_n C dX11_init_20 rfl 0 rfl ?_
  refine g_bipush C dX11_init_21 rfl rfl ?_
  refine g_newa (N := 80) C wd66 rfl (by decide) ⟨Nat.le_of_ble_eq_true rfl, Nat.le_of_ble_eq_true rfl⟩ dX11_init_23 rfl (fun na23 => ?_)
  refine g_to [0] (ws1 := [(o, .inr (10, [.int (iI 0), .ref na7, .int (iI 0), .int (iI 0), .int (iI 0), .int (iI 0), .int (iI 0), .ref na15, .null, .null, .null, .null, .null])), (na7, ca E 12 (fun _ => 0)), (na15, ca E 80 (fun _ => 0)), (na23, ca E 80 (fun _ => 0))]) ?_ rfl rfl rfl
  refine g_putF (T := TX11) (N := 13) (ci := 10) (ws' := [(o, .inr (10, [.int (iI 0), .ref na7, .int (iI 0), .int (iI 0), .int (iI 0), .int (iI 0), .int (iI 0), .ref na15, .ref na23, .null, .null, .null, .null])), (na7, ca E 12 (fun _ => 0)), (na15, ca E 80 (fun _ => 0)), (na23, ca E 80 (fun _ => 0))]) C hin9 in_X11 tyX11 tyX11_ok nmX11 0 rfl rfl 8 (by decide) wd942 rfl rfl (ty := (.array .int)) (by decide +kernel) rfl rfl (Nat.le_of_ble_eq_true rfl) rfl dX11_init_25 rfl ?_
  refine g_aload_n C dX11_init_28 rfl 0 rfl ?_
  refine g_bipush C dX11_init_29 rfl rfl ?_
  refine g_newa (N := 80) C wd66 rfl (by decide) ⟨Nat.le_of_ble_eq_true rfl, Nat.le_of_ble_eq_true rfl⟩ dX11_init_31 rfl (fun na31 => ?_)
  refine g_to [0] (ws1 := [(o, .inr (10, [.int (iI 0), .ref na7, .int (iI 0), .int (iI 0), .int (iI 0), .int (iI 0), .int (iI 0), .ref na15, .ref na23, .null, .null, .null, .null])), (na7, ca E 12 (fun _ => 0)), (na15, ca E 80 (fun _ => 0)), (na23, ca E 80 (fun _ => 0)), (na31, ca E 80 (fun _ => 0))]) ?_ rfl rfl rfl
  refine g_putF (T := TX11) (N := 13) (ci := 10) (ws' := [(o, .inr (10, [.int (iI 0), .ref na7, .int (iI 0), .int (iI 0), .int (iI 0), .int (iI 0), .int (iI 0), .ref na15, .ref na23, .ref na31, .null, .null, .null])), (na7, ca E 12 (fun _ => 0)), (na15, ca E 80 (fun _ => 0)), (na23, ca E 80 (fun _ => 0)), (na31, ca E 80 (fun _ => 0))]) C hin9 in_X11 tyX11 tyX11_ok nmX11 0 rfl rfl 9 (by decide) wd943 rfl rfl (ty := (.array .int)) (by decide +kernel) rfl rfl (Nat.le_of_ble_eq_true rfl) rfl dX11_init_33 rfl ?_
  refine g_aload_n C dX11_init_36 rfl 0 rfl ?_
  refine g_bipush C dX11_init_37 rfl rfl ?_
  refine g_newa (N := 80) C wd66 rfl (by decide) ⟨Nat.le_of_ble_eq_true rfl, Nat.le_of_ble_eq_true rfl⟩ dX11_init_39 rfl (fun na39 => ?_)
  refine g_to [0] (ws1 := [(o, .inr (10, [.int (iI 0), .ref na7, .int (iI 0), .int (iI 0), .int (iI 0), .int (iI 0), .int (iI 0), .ref na15, .ref na23, .ref na31, .null, .null, .null])), (na7, ca E 12 (fun _ => 0)), (na15, ca E 80 (fun _ => 0)), (na23, ca E 80 (fun _ => 0)), (na31, ca E 80 (fun _ => 0)), (na39, ca E 80 (fun _ => 0))]) ?_ rfl rfl rfl
  refine g_putF (T := TX11) (N := 13) (ci := 10) (ws' := [(o, .inr (10, [.int (iI 0), .ref na7, .int (iI 0), .int (iI 0), .int (iI 0), .int (iI 0), .int (iI 0), .ref na15, .ref na23, .ref na31, .ref na39, .null, .null])), (na7, ca E 12 (fun _ => 0)), (na15, ca E 80 (fun _ => 0)), (na23, ca E 80 (fun _ => 0)), (na31, ca E 80 (fun _ => 0)), (na39, ca E 80 (fun _ => 0))]) C hin9 in_X11 tyX11 tyX11_ok nmX11 0 rfl rfl 10 (by decide) wd944 rfl rfl (ty := (.array .int)) (by decide +kernel) rfl rfl (Nat.le_of_ble_eq_true rfl) rfl dX11_init_41 rfl ?_
  refine g_aload_n C dX11_init_44 rfl 0 rfl ?_
  refine g_new (T := TX10) (N := 10) (ci := 9) (fs := [.int (iI 0), .int (iI 0), .null, .null, .null, .null, .null, .null, .null, .null]) C in_X10 tyX10 tyX10_ok ⟨wd887, wd888, wd12⟩ rfl (by intro j hj; have h9 : j = 0 ∨ j = 1 ∨ j = 2 ∨ j = 3 ∨ j = 4 ∨ j = 5 ∨ j = 6 ∨ j = 7 ∨ j = 8 ∨ j = 9 := (by omega); rcases h9 with h9 | h9 | h9 | h9 | h9 | h9 | h9 | h9 | h9 | h9 <;> subst h9 <;> rfl) ⟨Nat.le_of_ble_eq_true rfl, Nat.le_of_ble_eq_true rfl⟩ dX11_init_45 rfl (fun nw45 => ?_)
  refine g_dup C dX11_init_48 rfl rfl ?_
  refine g_perm (ws1 := [(nw45, .inr (9, [.int (iI 0), .int (iI 0), .null, .null, .null, .null, .null, .null, .null, .null]))] ++ ([(o, .inr (10, [.int (iI 0), .ref na7, .int (iI 0), .int (iI 0), .int (iI 0), .int (iI 0), .int (iI 0), .ref na15, .ref na23, .ref na31, .ref na39, .null, .null])), (na7, ca E 12 (fun _ => 0)), (na15, ca E 80 (fun _ => 0)), (na23, ca E 80 (fun _ => 0)), (na31, ca E 80 (fun _ => 0)), (na39, ca E 80 (fun _ => 0))])) pm_10 ?_
  refine g_callINX (As := []) (kc' := 14) (ks' := 669) C "FloodWardensModel" ([(o, .inr (10, [.int (iI 0), .ref na7, .int (iI 0), .int (iI 0), .int (iI 0), .int (iI 0), .int (iI 0), .ref na15, .ref na23, .ref na31, .ref na39, .null, .null])), (na7, ca E 12 (fun _ => 0)), (na15, ca E 80 (fun _ => 0)), (na23, ca E 80 (fun _ => 0)), (na31, ca E 80 (fun _ => 0)), (na39, ca E 80 (fun _ => 0))]) (k_X10_init l E nw45) mX10_init wd890 rfl ⟨by decide +kernel, rfl⟩ rfl rfl (Nat.le_of_ble_eq_true rfl) ⟨Nat.le_of_ble_eq_true rfl, Nat.le_of_ble_eq_true rfl⟩ ⟨Nat.le_of_ble_eq_true rfl, Nat.le_of_ble_eq_true rfl⟩ rfl dX11_init_49 rfl rfl rfl ?_
  intro w49 hw49
  obtain ⟨ad49, rfl, rfl⟩ := hw49
  refine g_perm (ws1 := [(o, .inr (10, [.int (iI 0), .ref na7, .int (iI 0), .int (iI 0), .int (iI 0), .int (iI 0), .int (iI 0), .ref na15, .ref na23, .ref na31, .ref na39, .null, .null])), (na7, ca E 12 (fun _ => 0)), (na15, ca E 80 (fun _ => 0)), (na23, ca E 80 (fun _ => 0)), (na31, ca E 80 (fun _ => 0)), (na39, ca E 80 (fun _ => 0))] ++ (wS E ad49 gS0)) pm_10 ?_
  refine g_putF (T := TX11) (N := 13) (ci := 10) (ws' := [(o, .inr (10, [.int (iI 0), .ref na7, .int (iI 0), .int (iI 0), .int (iI 0), .int (iI 0), .int (iI 0), .ref na15, .ref na23, .ref na31, .ref na39, .ref (ad49 0), .null])), (na7, ca E 12 (fun _ => 0)), (na15, ca E 80 (fun _ => 0)), (na23, ca E 80 (fun _ => 0)), (na31, ca E 80 (fun _ => 0)), (na39, ca E 80 (fun _ => 0))] ++ (wS E ad49 gS0)) C hin9 in_X11 tyX11 tyX11_ok nmX11 0 rfl rfl 11 (by decide) wd945 rfl rfl (ty := (.object "FloodWardensModel$State")) (by decide +kernel) rfl rfl (Nat.le_of_ble_eq_true rfl) rfl dX11_init_52 rfl ?_
  refine g_aload_n C dX11_init_55 rfl 0 rfl ?_
  refine g_new (T := TX10) (N := 10) (ci := 9) (fs := [.int (iI 0), .int (iI 0), .null, .null, .null, .null, .null, .null, .null, .null]) C in_X10 tyX10 tyX10_ok ⟨wd887, wd888, wd12⟩ rfl (by intro j hj; have h9 : j = 0 ∨ j = 1 ∨ j = 2 ∨ j = 3 ∨ j = 4 ∨ j = 5 ∨ j = 6 ∨ j = 7 ∨ j = 8 ∨ j = 9 := (by omega); rcases h9 with h9 | h9 | h9 | h9 | h9 | h9 | h9 | h9 | h9 | h9 <;> subst h9 <;> rfl) ⟨Nat.le_of_ble_eq_true rfl, Nat.le_of_ble_eq_true rfl⟩ dX11_init_56 rfl (fun nw56 => ?_)
  refine g_to [0] (ws1 := [(o, .inr (10, [.int (iI 0), .ref na7, .int (iI 0), .int (iI 0), .int (iI 0), .int (iI 0), .int (iI 0), .ref na15, .ref na23, .ref na31, .ref na39, .ref (ad49 0), .null])), (na7, ca E 12 (fun _ => 0)), (na15, ca E 80 (fun _ => 0)), (na23, ca E 80 (fun _ => 0)), (na31, ca E 80 (fun _ => 0)), (na39, ca E 80 (fun _ => 0))] ++ (wS E ad49 gS0 ++ ([(nw56, .inr (9, [.int (iI 0), .int (iI 0), .null, .null, .null, .null, .null, .null, .null, .null]))]))) ?_ (by simp only [List.append_assoc]) rfl rfl
  refine g_dup C dX11_init_59 rfl rfl ?_
  refine g_perm (ws1 := [(nw56, .inr (9, [.int (iI 0), .int (iI 0), .null, .null, .null, .null, .null, .null, .null, .null]))] ++ ([(o, .inr (10, [.int (iI 0), .ref na7, .int (iI 0), .int (iI 0), .int (iI 0), .int (iI 0), .int (iI 0), .ref na15, .ref na23, .ref na31, .ref na39, .ref (ad49 0), .null])), (na7, ca E 12 (fun _ => 0)), (na15, ca E 80 (fun _ => 0)), (na23, ca E 80 (fun _ => 0)), (na31, ca E 80 (fun _ => 0)), (na39, ca E 80 (fun _ => 0))] ++ (wS E ad49 gS0))) pm_201 ?_
  refine g_callINX (As := []) (kc' := 23) (ks' := 1006) C "FloodWardensModel" ([(o, .inr (10, [.int (iI 0), .ref na7, .int (iI 0), .int (iI 0), .int (iI 0), .int (iI 0), .int (iI 0), .ref na15, .ref na23, .ref na31, .ref na39, .ref (ad49 0), .null])), (na7, ca E 12 (fun _ => 0)), (na15, ca E 80 (fun _ => 0)), (na23, ca E 80 (fun _ => 0)), (na31, ca E 80 (fun _ => 0)), (na39, ca E 80 (fun _ => 0))] ++ (wS E ad49 gS0)) (k_X10_init l E nw56) mX10_init wd890 rfl ⟨by decide +kernel, rfl⟩ rfl rfl (Nat.le_of_ble_eq_true rfl) ⟨Nat.le_of_ble_eq_true rfl, Nat.le_of_ble_eq_true rfl⟩ ⟨Nat.le_of_ble_eq_true rfl, Nat.le_of_ble_eq_true rfl⟩ rfl dX11_init_60 rfl rfl rfl ?_
  intro w60 hw60
  obtain ⟨ad60, rfl, rfl⟩ := hw60
  refine g_perm (ws1 := [(o, .inr (10, [.int (iI 0), .ref na7, .int (iI 0), .int (iI 0), .int (iI 0), .int (iI 0), .int (iI 0), .ref na15, .ref na23, .ref na31, .ref na39, .ref (ad49 0), .null])), (na7, ca E 12 (fun _ => 0)), (na15, ca E 80 (fun _ => 0)), (na23, ca E 80 (fun _ => 0)), (na31, ca E 80 (fun _ => 0)), (na39, ca E 80 (fun _ => 0))] ++ (wS E ad49 gS0 ++ (wS E ad60 gS0))) pm_120 ?_
  refine g_putF (T := TX11) (N := 13) (ci := 10) (ws' := [(o, .inr (10, [.int (iI 0), .ref na7, .int (iI 0), .int (iI 0), .int (iI 0), .int (iI 0), .int (iI 0), .ref na15, .ref na23, .ref na31, .ref na39, .ref (ad49 0), .ref (ad60 0)])), (na7, ca E 12 (fun _ => 0)), (na15, ca E 80 (fun _ => 0)), (na23, ca E 80 (fun _ => 0)), (na31, ca E 80 (fun _ => 0)), (na39, ca E 80 (fun _ => 0))] ++ (wS E ad49 gS0 ++ (wS E ad60 gS0))) C hin9 in_X11 tyX11 tyX11_ok nmX11 0 rfl rfl 12 (by decide) wd946 rfl rfl (ty := (.object "FloodWardensModel$State")) (by decide +kernel) rfl rfl (Nat.le_of_ble_eq_true rfl) rfl dX11_init_63 rfl ?_
  refine g_iconst C dX11_init_66 rfl ?_
  refine g_istore_n (lv' := [(1, .int (iI (0))), (0, .ref o)]) C dX11_init_67 rfl (by decide) rfl ?_
  have L68 : ∀ k9 : Nat, k9 ≤ 80 → gG E zp l ze r_X11_init zs zm za zb zh zc zA 2 23 1006 zQ ([(o, .inr (10, [.int (iI 0), .ref na7, .int (iI 0), .int (iI 0), .int (iI 0), .int (iI 0), .int (iI 0), .ref na15, .ref na23, .ref na31, .ref na39, .ref (ad49 0), .ref (ad60 0)])), (na7, ca E 12 (fun _ => 0)), (na15, ca E 80 (fun _ => 0)), (na23, ca E 80 (fun _ => 0)), (na31, ca E 80 (fun _ => 0)), (na39, ca E 80 (fun _ => 0))] ++ (wS E ad49 (setA gS0 1 (itr (riseB 2) (fun _ => 0) k9)) ++ (wS E ad60 gS0))) 68 [(1, .int (iI (k9 : Int))), (0, .ref o)] [] := by
    refine g_up (80) _ ?_
    intro k9 ih68 hk68
    obtain ⟨x, hx68⟩ : ∃ z, z = itr (riseB 2) (fun _ => 0) k9 := ⟨_, rfl⟩
    rw [← hx68]
    refine g_iload_n C dX11_init_68 rfl 0 rfl ?_
    refine g_bipush C dX11_init_69 rfl rfl ?_
    refine g_icmp_ge C dX11_init_71 90 (by decide) rfl (by omega) (by omega) (fun c71 => ?_) (fun c71 => ?_)
    · skip
      have hz68 : x = gnd := by rw [hx68, show k9 = 80 from by omega] <;> rfl
      exact z_vretX C Z dX11_init_90 (⟨atL [o, na7, na15, na23, na31, na39], ad49, ad60, rfl, by rw [hz68]; rfl⟩)
    · skip
      refine g_aload_n C dX11_init_74 rfl 1 rfl ?_
      refine g_get (v := .ref (ad49 0)) (T := TX11) (N := 13) (ci := 10) C in_X11 0 rfl rfl 11 (by decide) wd945 (Or.inl rfl) rfl dX11_init_75 rfl ?_
      refine g_getN (v := .ref (ad49 1)) (T := TX10) (N := 10) (ci := 9) C rfl in_X10 6 rfl rfl 2 (by decide) (by decide +kernel) rfl rfl dX11_init_78 rfl ?_
      refine g_iload_n C dX11_init_81 rfl 0 rfl ?_
      refine g_iconst C dX11_init_82 rfl ?_
      refine g_iast (f := x) (ws' := [(o, .inr (10, [.int (iI 0), .ref na7, .int (iI 0), .int (iI 0), .int (iI 0), .int (iI 0), .int (iI 0), .ref na15, .ref na23, .ref na31, .ref na39, .ref (ad49 0), .ref (ad60 0)])), (na7, ca E 12 (fun _ => 0)), (na15, ca E 80 (fun _ => 0)), (na23, ca E 80 (fun _ => 0)), (na31, ca E 80 (fun _ => 0)), (na39, ca E 80 (fun _ => 0))] ++ (wS E ad49 (setA gS0 1 (fset x (k9 : Int) (2))) ++ (wS E ad60 gS0))) C dX11_init_83 rfl 7 rfl (by omega) (by decide) rfl ?_
      refine g_iinc (lv' := [(1, .int (iI ((k9 : Int) + 1))), (0, .ref o)]) C dX11_init_84 rfl 0 rfl (by decide) rfl ?_
      refine g_goto C dX11_init_87 68 (by decide) ?_
      have e68 : (riseB 2) k9 x = (fset x (k9 : Int) (2)) := by
        rfl
      have i68 := ih68 (by omega)
      rw [show itr (riseB 2) (fun _ => 0) (k9 + 1) = (fset x (k9 : Int) (2)) from by rw [← e68, hx68]; rfl] at i68
      exact g_to [0, 1] (i68) rfl rfl rfl
  refine g_to [0, 1] (L68 0 (by omega)) rfl rfl rfl
