abbrev q_X9_checkIndex : Room := { frames := 6, cells := 1, slots := 6, locals := 82 }
theorem t_X9_checkIndex (l : Launch) (E : gE) (sa : gTx) (hfl : l.stackTraces = false) : gKT l E yX9_checkIndex cX9_checkIndex 1 none q_X9_checkIndex [.int (iI (0))] [] sa "java/lang/IndexOutOfBoundsException" [] := by
  refine gKT_by RX9 rfl (by decide) mX9_checkIndex [(0, .int (iI (0)))] (Nat.le_of_ble_eq_true rfl) rfl ?_
  intro zp ze zs zm za zb zh zc zA zQ hx9 C hX9 Z
  refine g_iload_n C dX9_checkIndex_0 rfl 0 rfl ?_
  refine g_if_ne C dX9_checkIndex_1 14 (by decide) rfl (by omega) (fun z => absurd rfl z) (fun _ => ?_)
  exact g_throwS (X := "java/lang/IndexOutOfBoundsException") (ik := 199) (is := 201) (ic := 203) C hX9 hx9 hfl Z (by decide +kernel) ⟨wd420, wd16⟩ hX9.2.1.1 txI_tb txI_B txI_ot rfl rfl ⟨by decide, by decide⟩ ⟨by decide, by decide⟩ ⟨by decide, by decide⟩ dX9_checkIndex_4 dX9_checkIndex_7 dX9_checkIndex_8 dX9_checkIndex_10 dX9_checkIndex_13
abbrev q_X9_checkArgument : Room := { frames := 6, cells := 1, slots := 6, locals := 82 }
theorem t_X9_checkArgument (l : Launch) (E : gE) (sa : gTx) (hfl : l.stackTraces = false) : gKT l E yX9_checkArgument cX9_checkArgument 1 none q_X9_checkArgument [.int (iI (0))] [] sa "java/lang/IllegalArgumentException" [] := by
  refine gKT_by RX9 rfl (by decide) mX9_checkArgument [(0, .int (iI (0)))] (Nat.le_of_ble_eq_true rfl) rfl ?_
  intro zp ze zs zm za zb zh zc zA zQ hx9 C hX9 Z
  refine g_iload_n C dX9_checkArgument_0 rfl 0 rfl ?_
  refine g_if_ne C dX9_checkArgument_1 14 (by decide) rfl (by omega) (fun z => absurd rfl z) (fun _ => ?_)
  exact g_throwS (X := "java/lang/IllegalArgumentException") (ik := 206) (is := 208) (ic := 210) C hX9 hx9 hfl Z (by decide +kernel) ⟨wd491, wd17⟩ hX9.2.1.2.1 txA_tb txA_B txA_ot rfl rfl ⟨by decide, by decide⟩ ⟨by decide, by decide⟩ ⟨by decide, by decide⟩ dX9_checkArgument_4 dX9_checkArgument_7 dX9_checkArgument_8 dX9_checkArgument_10 dX9_checkArgument_13
abbrev q_X9_checkState : Room := { frames := 6, cells := 1, slots := 6, locals := 82 }
theorem t_X9_checkState (l : Launch) (E : gE) (sa : gTx) (hfl : l.stackTraces = false) : gKT l E yX9_checkState cX9_checkState 1 none q_X9_checkState [.int (iI (0))] [] sa "java/lang/IllegalStateException" [] := by
  refine gKT_by RX9 rfl (by decide) mX9_checkState [(0, .int (iI (0)))] (Nat.le_of_ble_eq_true rfl) rfl ?_
  intro zp ze zs zm za zb zh zc zA zQ hx9 C hX9 Z
  refine g_iload_n C dX9_checkState_0 rfl 0 rfl ?_
  refine g_if_ne C dX9_checkState_1 14 (by decide) rfl (by omega) (fun z => absurd rfl z) (fun _ => ?_)
  exact g_throwS (X := "java/lang/IllegalStateException") (ik := 211) (is := 213) (ic := 215) C hX9 hx9 hfl Z (by decide +kernel) ⟨wd522, wd18⟩ hX9.2.1.2.2 txS_tb txS_B txS_ot rfl rfl ⟨by decide, by decide⟩ ⟨by decide, by decide⟩ ⟨by decide, by decide⟩ dX9_checkState_4 dX9_checkState_7 dX9_checkState_8 dX9_checkState_10 dX9_checkState_13
