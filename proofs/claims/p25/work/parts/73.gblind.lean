theorem tKeep_on {w : Cond} (h : tKeep w = true) : w.onTables = true := by
  cases w <;> first | rfl | cases h
theorem gX.same {sa : gTx} {A : Nat → Prop} {s U : State} {H : Heap} (hv : s.vm = U.vm) (h : gX sa A s H) : gX sa A U H := by
  obtain ⟨h1, ⟨h2, h3, h4⟩, h5, h6⟩ := h
  have hal : s.vm.Alike U.vm := by rw [hv]; exact Vm.Alike.refl _
  exact ⟨fun w hw => va_Nw.same (tKeep_on (List.all_eq_true.mp txB_k w hw)) hv (h1 w hw), ⟨vk_R.same hv.symm h2, vk_R.same hv.symm h3, vk_R.same hv.symm h4⟩, h5.moved hal, h6.moved hal⟩
theorem gPX_blind {E : gE} {pre : va_W} {sz : Nat} {av : List Value} {sa : gTx} : FrameBlind (gPX E pre sz av sa) := by
  intro a U g mk q
  obtain ⟨h0, h1, h2, h3, h4, h5, h6⟩ := q
  exact ⟨h0, h1, h2, h3, va_K.moved (u := U) (U := U.calling g mk a) (Vm.Alike.refl U.vm) h4, gN.same rfl h5, gX.same (s := U) (U := U.calling g mk a) rfl h6⟩
