abbrev q_X9_checkState : Room := { frames := 6, cells := 1, slots := 6, locals := 82 }
theorem t_X9_checkState (l : Launch) (E : gE) (sa : gTx) (hfl : l.stackTraces = false) : gKT l E yX9_checkState cX9_checkState 1 none q_X9_checkState [.int (iI (0))] [] sa "java/lang/IllegalStateException" [] := by
  refine gKT_by RX9 rfl (by decide) mX9_checkState [(0, .int (iI (0)))] (Nat.le_of_ble_eq_true rfl) rfl ?_
  intro zp ze zs zm za zb zh zc zA zQ hx9 C hX9 Z
  refine g_iload_n C dX9_checkState_0 rfl 0 rfl ?_
  refine g_if_ne C dX9_checkState_1 14 (by decide) rfl (by omega) (fun z => absurd rfl z) (fun _ => ?_)
  exact g_throwS (X := "java/lang/IllegalStateException") (ik := 211) (is := 213) (ic := 215) C hX9 hx9 hfl Z (by decide +kernel) ⟨wd522, wd18⟩ hX9.2.1.2.2 txS_tb txS_B txS_ot rfl rfl ⟨by decide, by decide⟩ ⟨by decide, by decide⟩ ⟨by decide, by decide⟩ dX9_checkState_4 dX9_checkState_7 dX9_checkState_8 dX9_checkState_10 dX9_checkState_13
