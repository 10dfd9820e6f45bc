abbrev r_X4_isFull : Room := { frames := 0, cells := 0, slots := 0, locals := 0 }
set_option maxHeartbeats 4000000 in
set_option maxRecDepth 100000 in
theorem k_X4_isFull_X5 (l : Launch) (E : gE) (ad : Nat → Nat) (S : gS) (hS : okT S) : gK l E yX4_isFull cX4_isFull 1 (some .boolean) r_X4_isFull [.ref (ad 7)] (wT E ad S) (some (.int (iI (bI (5 ≤ S.2 1))))) (wT E ad S) := by
  refine gK_by RX4 rfl mX4_isFull [(0, .ref (ad 7))] (Nat.le_of_ble_eq_true rfl) rfl ?_
  intro zp ze zs zm za zb zh zc zA zQ C Z
  refine g_aload_n C dX4_isFull_0 rfl 0 rfl ?_
  refine g_get (v := .int (iI (S.2 1))) (T := TX5) (N := 6) (ci := 4) C in_X5 7 rfl rfl 1 (by decide) wd96 (Or.inl rfl) rfl dX4_isFull_1 rfl ?_
  have f1 := okT_i1 hS
  refine g_aload_n C dX4_isFull_4 rfl 0 rfl ?_
  refine g_get (v := .ref (ad 8)) (T := TX5) (N := 6) (ci := 4) C in_X5 7 rfl rfl 0 (by decide) wd81 (Or.inl rfl) rfl dX4_isFull_5 rfl ?_
  refine g_alen (n := 5) (f := (S.1 8)) C 8 rfl dX4_isFull_8 rfl ?_
  refine g_icmp_lt C dX4_isFull_9 16 (by decide) rfl (by omega) (by omega) (fun c9 => ?_) (fun c9 => ?_)
  · skip
    refine g_iconst C dX4_isFull_16 rfl ?_
    exact z_iret C Z (z_nar (by omega)) dX4_isFull_17 (by exact congrArg (fun z => some (Value.int (iI z))) (by first | (rw [bI_t (by omega)]) | (rw [bI_f (by omega)]))) rfl
  · skip
    refine g_iconst C dX4_isFull_12 rfl ?_
    refine g_goto C dX4_isFull_13 17 (by decide) ?_
    exact z_iret C Z (z_nar (by omega)) dX4_isFull_17 (by exact congrArg (fun z => some (Value.int (iI z))) (by first | (rw [bI_t (by omega)]) | (rw [bI_f (by omega)]))) rfl
abbrev r_X4_has : Room := { frames := 0, cells := 0, slots := 0, locals := 0 }
set_option maxHeartbeats 4000000 in
set_option maxRecDepth 100000 in
theorem k_X4_has_X5 (l : Launch) (E : gE) (ad : Nat → Nat) (S : gS) (k : Int) (hS : okT S) (hk : -2147483648 ≤ k ∧ k ≤ 2147483647) : gK l E yX4_has cX4_has 2 (some .boolean) r_X4_has [.ref (ad 7), .int (iI k)] (wT E ad S) (some (.int (iI (bI (0 ≤ k ∧ k < S.2 1))))) (wT E ad S) := by
  refine gK_by RX4 rfl mX4_has [(0, .ref (ad 7)), (1, .int (iI k))] (Nat.le_of_ble_eq_true rfl) rfl ?_
  intro zp ze zs zm za zb zh zc zA zQ C Z
  refine g_iload_n C dX4_has_0 rfl 1 rfl ?_
  refine g_if_lt C dX4_has_1 16 (by decide) rfl (by omega) (fun c1 => ?_) (fun c1 => ?_)
  · skip
    refine g_iconst C dX4_has_16 rfl ?_
    exact z_iret C Z (z_nar (by omega)) dX4_has_17 (by exact congrArg (fun z => some (Value.int (iI z))) (by first | (rw [bI_t (by omega)]) | (rw [bI_f (by omega)]))) rfl
  · skip
    refine g_iload_n C dX4_has_4 rfl 1 rfl ?_
    refine g_aload_n C dX4_has_5 rfl 0 rfl ?_
    refine g_get (v := .int (iI (S.2 1))) (T := TX5) (N := 6) (ci := 4) C in_X5 7 rfl rfl 1 (by decide) wd96 (Or.inl rfl) rfl dX4_has_6 rfl ?_
    have f6 := okT_i1 hS
    refine g_icmp_ge C dX4_has_9 16 (by decide) rfl (by omega) (by omega) (fun c9 => ?_) (fun c9 => ?_)
    · skip
      refine g_iconst C dX4_has_16 rfl ?_
      exact z_iret C Z (z_nar (by omega)) dX4_has_17 (by exact congrArg (fun z => some (Value.int (iI z))) (by first | (rw [bI_t (by omega)]) | (rw [bI_f (by omega)]))) rfl
    · skip
      refine g_iconst C dX4_has_12 rfl ?_
      refine g_goto C dX4_has_13 17 (by decide) ?_
      exact z_iret C Z (z_nar (by omega)) dX4_has_17 (by exact congrArg (fun z => some (Value.int (iI z))) (by first | (rw [bI_t (by omega)]) | (rw [bI_f (by omega)]))) rfl
abbrev r_X4_firstIn : Room := { frames := 0, cells := 0, slots := 0, locals := 0 }
set_option maxHeartbeats 4000000 in
set_option maxRecDepth 100000 in
theorem k_X4_firstIn_X5 (l : Launch) (E : gE) (ad : Nat → Nat) (S : gS) (q : Int) (hS : okT S) (hq : 0 ≤ q ∧ q < 80) : gK l E yX4_firstIn cX4_firstIn 3 (some .int) r_X4_firstIn [.ref (ad 7), .int (iI q)] (wT E ad S) (some (.int (iI (fstI (S.1 8) q (S.2 1).toNat)))) (wT E ad S) := by
  refine gK_by RX4 rfl mX4_firstIn [(0, .ref (ad 7)), (1, .int (iI q))] (Nat.le_of_ble_eq_true rfl) rfl ?_
  intro zp ze zs zm za zb zh zc zA zQ C Z
  refine g_iconst C dX4_firstIn_0 rfl ?_
  refine g_istore_n (lv' := [(2, .int (iI (0))), (0, .ref (ad 7)), (1, .int (iI q))]) C dX4_firstIn_1 rfl (by decide) rfl ?_
  have L2 : ∀ k9 : Nat, k9 ≤ (S.2 1).toNat → (fstI (S.1 8) q k9 = -1) → gG E zp l ze r_X4_firstIn zs zm za zb zh zc zA 3 0 0 zQ (wT E ad S) 2 [(2, .int (iI (k9 : Int))), (0, .ref (ad 7)), (1, .int (iI q))] [] := by
    refine g_up ((S.2 1).toNat) _ ?_
    intro k9 ih2 hk2 hy2
    have ff := okT_i1 hS
    refine g_iload_n C dX4_firstIn_2 rfl 0 rfl ?_
    refine g_aload_n C dX4_firstIn_3 rfl 1 rfl ?_
    refine g_get (v := .int (iI (S.2 1))) (T := TX5) (N := 6) (ci := 4) C in_X5 7 rfl rfl 1 (by decide) wd96 (Or.inl rfl) rfl dX4_firstIn_4 rfl ?_
    have f4 := okT_i1 hS
    refine g_icmp_ge C dX4_firstIn_7 28 (by decide) rfl (by omega) (by omega) (fun c7 => ?_) (fun c7 => ?_)
    · skip
      refine g_iconst C dX4_firstIn_28 rfl ?_
      exact z_iret C Z rfl dX4_firstIn_29 (by exact congrArg (fun z => some (Value.int (iI z))) (by rw [show (S.2 1).toNat = k9 by omega]; exact hy2)) rfl
    · skip
      refine g_aload_n C dX4_firstIn_10 rfl 1 rfl ?_
      refine g_get (v := .ref (ad 8)) (T := TX5) (N := 6) (ci := 4) C in_X5 7 rfl rfl 0 (by decide) wd81 (Or.inl rfl) rfl dX4_firstIn_11 rfl ?_
      refine g_iload_n C dX4_firstIn_14 rfl 0 rfl ?_
      refine g_iald (f := (S.1 8)) C dX4_firstIn_15 rfl 8 rfl (by omega) (by decide) ?_
      have b15 := okT_8 hS (k9 : Int)
      refine g_iload_n C dX4_firstIn_16 rfl 2 rfl ?_
      refine g_icmp_ne C dX4_firstIn_17 22 (by decide) rfl (by omega) (by omega) (fun c17 => ?_) (fun c17 => ?_)
      · skip
        refine g_iinc (lv' := [(2, .int (iI ((k9 : Int) + 1))), (0, .ref (ad 7)), (1, .int (iI q))]) C dX4_firstIn_22 rfl 0 rfl (by decide) rfl ?_
        refine g_goto C dX4_firstIn_25 2 (by decide) ?_
        exact g_to [0, 1, 2] (ih2 (by omega) (fst_no hy2 (by omega))) rfl rfl rfl
      · skip
        refine g_iload_n C dX4_firstIn_20 rfl 0 rfl ?_
        exact z_iret C Z rfl dX4_firstIn_21 (by exact congrArg (fun z => some (Value.int (iI z))) (fst_yes hy2 (by omega) (by omega))) rfl
  refine g_to [0, 1, 2] (L2 0 (by omega) (rfl)) rfl rfl rfl
abbrev r_X4_xOf : Room := { frames := 0, cells := 0, slots := 0, locals := 0 }
set_option maxHeartbeats 4000000 in
set_option maxRecDepth 100000 in
theorem k_X4_xOf_X5 (l : Launch) (E : gE) (ad : Nat → Nat) (S : gS) (k : Int) (hS : okT S) (hk : 0 ≤ k ∧ k < 5) : gK l E yX4_xOf cX4_xOf 2 (some .int) r_X4_xOf [.ref (ad 7), .int (iI k)] (wT E ad S) (some (.int (iI (S.1 8 k % 10)))) (wT E ad S) := by
  refine gK_by RX4 rfl mX4_xOf [(0, .ref (ad 7)), (1, .int (iI k))] (Nat.le_of_ble_eq_true rfl) rfl ?_
  intro zp ze zs zm za zb zh zc zA zQ C Z
  refine g_aload_n C dX4_xOf_0 rfl 0 rfl ?_
  refine g_get (v := .ref (ad 8)) (T := TX5) (N := 6) (ci := 4) C in_X5 7 rfl rfl 0 (by decide) wd81 (Or.inl rfl) rfl dX4_xOf_1 rfl ?_
  refine g_iload_n C dX4_xOf_4 rfl 1 rfl ?_
  refine g_iald (f := (S.1 8)) C dX4_xOf_5 rfl 8 rfl (by omega) (by decide) ?_
  have b5 := okT_8 hS k
  refine g_bipush C dX4_xOf_6 rfl rfl ?_
  refine g_irem C dX4_xOf_8 rfl (by omega) (by omega) ?_
  exact z_iret C Z rfl dX4_xOf_9 rfl rfl
abbrev r_X4_yOf : Room := { frames := 0, cells := 0, slots := 0, locals := 0 }
set_option maxHeartbeats 4000000 in
set_option maxRecDepth 100000 in
theorem k_X4_yOf_X5 (l : Launch) (E : gE) (ad : Nat → Nat) (S : gS) (k : Int) (hS : okT S) (hk : 0 ≤ k ∧ k < 5) : gK l E yX4_yOf cX4_yOf 2 (some .int) r_X4_yOf [.ref (ad 7), .int (iI k)] (wT E ad S) (some (.int (iI (S.1 8 k / 10)))) (wT E ad S) := by
  refine gK_by RX4 rfl mX4_yOf [(0, .ref (ad 7)), (1, .int (iI k))] (Nat.le_of_ble_eq_true rfl) rfl ?_
  intro zp ze zs zm za zb zh zc zA zQ C Z
  refine g_aload_n C dX4_yOf_0 rfl 0 rfl ?_
  refine g_get (v := .ref (ad 8)) (T := TX5) (N := 6) (ci := 4) C in_X5 7 rfl rfl 0 (by decide) wd81 (Or.inl rfl) rfl dX4_yOf_1 rfl ?_
  refine g_iload_n C dX4_yOf_4 rfl 1 rfl ?_
  refine g_iald (f := (S.1 8)) C dX4_yOf_5 rfl 8 rfl (by omega) (by decide) ?_
  have b5 := okT_8 hS k
  refine g_bipush C dX4_yOf_6 rfl rfl ?_
  refine g_idiv C dX4_yOf_8 rfl (by omega) (by omega) ?_
  exact z_iret C Z rfl dX4_yOf_9 rfl rfl
set_option maxHeartbeats 4000000 in
set_option maxRecDepth 100000 in
theorem k_X4_isFull_X1 (l : Launch) (E : gE) (ad : Nat → Nat) (S : gS) (hS : okT S) : gK l E yX4_isFull cX4_isFull 1 (some .boolean) r_X4_isFull [.ref (ad 13)] (wT E ad S) (some (.int (iI (bI (4 ≤ S.2 2))))) (wT E ad S) := by
  refine gK_by RX4 rfl mX4_isFull [(0, .ref (ad 13))] (Nat.le_of_ble_eq_true rfl) rfl ?_
  intro zp ze zs zm za zb zh zc zA zQ C Z
  refine g_aload_n C dX4_isFull_0 rfl 0 rfl ?_
  refine g_get (v := .int (iI (S.2 2))) (T := TX1) (N := 3) (ci := 1) C in_X1 13 rfl rfl 1 (by decide) wd96 (Or.inl rfl) rfl dX4_isFull_1 rfl ?_
  have f1 := okT_i2 hS
  refine g_aload_n C dX4_isFull_4 rfl 0 rfl ?_
  refine g_get (v := .ref (ad 14)) (T := TX1) (N := 3) (ci := 1) C in_X1 13 rfl rfl 0 (by decide) wd81 (Or.inl rfl) rfl dX4_isFull_5 rfl ?_
  refine g_alen (n := 4) (f := (S.1 14)) C 14 rfl dX4_isFull_8 rfl ?_
  refine g_icmp_lt C dX4_isFull_9 16 (by decide) rfl (by omega) (by omega) (fun c9 => ?_) (fun c9 => ?_)
  · skip
    refine g_iconst C dX4_isFull_16 rfl ?_
    exact z_iret C Z (z_nar (by omega)) dX4_isFull_17 (by exact congrArg (fun z => some (Value.int (iI z))) (by first | (rw [bI_t (by omega)]) | (rw [bI_f (by omega)]))) rfl
  · skip
    refine g_iconst C dX4_isFull_12 rfl ?_
    refine g_goto C dX4_isFull_13 17 (by decide) ?_
    exact z_iret C Z (z_nar (by omega)) dX4_isFull_17 (by exact congrArg (fun z => some (Value.int (iI z))) (by first | (rw [bI_t (by omega)]) | (rw [bI_f (by omega)]))) rfl
set_option maxHeartbeats 4000000 in
set_option maxRecDepth 100000 in
theorem k_X4_has_X1 (l : Launch) (E : gE) (ad : Nat → Nat) (S : gS) (k : Int) (hS : okT S) (hk : -2147483648 ≤ k ∧ k ≤ 2147483647) : gK l E yX4_has cX4_has 2 (some .boolean) r_X4_has [.ref (ad 13), .int (iI k)] (wT E ad S) (some (.int (iI (bI (0 ≤ k ∧ k < S.2 2))))) (wT E ad S) := by
  refine gK_by RX4 rfl mX4_has [(0, .ref (ad 13)), (1, .int (iI k))] (Nat.le_of_ble_eq_true rfl) rfl ?_
  intro zp ze zs zm za zb zh zc zA zQ C Z
  refine g_iload_n C dX4_has_0 rfl 1 rfl ?_
  refine g_if_lt C dX4_has_1 16 (by decide) rfl (by omega) (fun c1 => ?_) (fun c1 => ?_)
  · skip
    refine g_iconst C dX4_has_16 rfl ?_
    exact z_iret C Z (z_nar (by omega)) dX4_has_17 (by exact congrArg (fun z => some (Value.int (iI z))) (by first | (rw [bI_t (by omega)]) | (rw [bI_f (by omega)]))) rfl
  · skip
    refine g_iload_n C dX4_has_4 rfl 1 rfl ?_
    refine g_aload_n C dX4_has_5 rfl 0 rfl ?_
    refine g_get (v := .int (iI (S.2 2))) (T := TX1) (N := 3) (ci := 1) C in_X1 13 rfl rfl 1 (by decide) wd96 (Or.inl rfl) rfl dX4_has_6 rfl ?_
    have f6 := okT_i2 hS
    refine g_icmp_ge C dX4_has_9 16 (by decide) rfl (by omega) (by omega) (fun c9 => ?_) (fun c9 => ?_)
    · skip
      refine g_iconst C dX4_has_16 rfl ?_
      exact z_iret C Z (z_nar (by omega)) dX4_has_17 (by exact congrArg (fun z => some (Value.int (iI z))) (by first | (rw [bI_t (by omega)]) | (rw [bI_f (by omega)]))) rfl
    · skip
      refine g_iconst C dX4_has_12 rfl ?_
      refine g_goto C dX4_has_13 17 (by decide) ?_
      exact z_iret C Z (z_nar (by omega)) dX4_has_17 (by exact congrArg (fun z => some (Value.int (iI z))) (by first | (rw [bI_t (by omega)]) | (rw [bI_f (by omega)]))) rfl
set_option maxHeartbeats 4000000 in
set_option maxRecDepth 100000 in
theorem k_X4_firstIn_X1 (l : Launch) (E : gE) (ad : Nat → Nat) (S : gS) (q : Int) (hS : okT S) (hq : 0 ≤ q ∧ q < 80) : gK l E yX4_firstIn cX4_firstIn 3 (some .int) r_X4_firstIn [.ref (ad 13), .int (iI q)] (wT E ad S) (some (.int (iI (fstI (S.1 14) q (S.2 2).toNat)))) (wT E ad S) := by
  refine gK_by RX4 rfl mX4_firstIn [(0, .ref (ad 13)), (1, .int (iI q))] (Nat.le_of_ble_eq_true rfl) rfl ?_
  intro zp ze zs zm za zb zh zc zA zQ C Z
  refine g_iconst C dX4_firstIn_0 rfl ?_
  refine g_istore_n (lv' := [(2, .int (iI (0))), (0, .ref (ad 13)), (1, .int (iI q))]) C dX4_firstIn_1 rfl (by decide) rfl ?_
  have L2 : ∀ k9 : Nat, k9 ≤ (S.2 2).toNat → (fstI (S.1 14) q k9 = -1) → gG E zp l ze r_X4_firstIn zs zm za zb zh zc zA 3 0 0 zQ (wT E ad S) 2 [(2, .int (iI (k9 : Int))), (0, .ref (ad 13)), (1, .int (iI q))] [] := by
    refine g_up ((S.2 2).toNat) _ ?_
    intro k9 ih2 hk2 hy2
    have ff := okT_i2 hS
    refine g_iload_n C dX4_firstIn_2 rfl 0 rfl ?_
    refine g_aload_n C dX4_firstIn_3 rfl 1 rfl ?_
    refine g_get (v := .int (iI (S.2 2))) (T := TX1) (N := 3) (ci := 1) C in_X1 13 rfl rfl 1 (by decide) wd96 (Or.inl rfl) rfl dX4_firstIn_4 rfl ?_
    have f4 := okT_i2 hS
    refine g_icmp_ge C dX4_firstIn_7 28 (by decide) rfl (by omega) (by omega) (fun c7 => ?_) (fun c7 => ?_)
    · skip
      refine g_iconst C dX4_firstIn_28 rfl ?_
      exact z_iret C Z rfl dX4_firstIn_29 (by exact congrArg (fun z => some (Value.int (iI z))) (by rw [show (S.2 2).toNat = k9 by omega]; exact hy2)) rfl
    · skip
      refine g_aload_n C dX4_firstIn_10 rfl 1 rfl ?_
      refine g_get (v := .ref (ad 14)) (T := TX1) (N := 3) (ci := 1) C in_X1 13 rfl rfl 0 (by decide) wd81 (Or.inl rfl) rfl dX4_firstIn_11 rfl ?_
      refine g_iload_n C dX4_firstIn_14 rfl 0 rfl ?_
      refine g_iald (f := (S.1 14)) C dX4_firstIn_15 rfl 14 rfl (by omega) (by decide) ?_
      have b15 := okT_14 hS (k9 : Int)
      refine g_iload_n C dX4_firstIn_16 rfl 2 rfl ?_
      refine g_icmp_ne C dX4_firstIn_17 22 (by decide) rfl (by omega) (by omega) (fun c17 => ?_) (fun c17 => ?_)
      · skip
        refine g_iinc (lv' := [(2, .int (iI ((k9 : Int) + 1))), (0, .ref (ad 13)), (1, .int (iI q))]) C dX4_firstIn_22 rfl 0 rfl (by decide) rfl ?_
        refine g_goto C dX4_firstIn_25 2 (by decide) ?_
        exact g_to [0, 1, 2] (ih2 (by omega) (fst_no hy2 (by omega))) rfl rfl rfl
      · skip
        refine g_iload_n C dX4_firstIn_20 rfl 0 rfl ?_
        exact z_iret C Z rfl dX4_firstIn_21 (by exact congrArg (fun z => some (Value.int (iI z))) (fst_yes hy2 (by omega) (by omega))) rfl
  refine g_to [0, 1, 2] (L2 0 (by omega) (rfl)) rfl rfl rfl
set_option maxHeartbeats 4000000 in
set_option maxRecDepth 100000 in
theorem k_X4_xOf_X1 (l : Launch) (E : gE) (ad : Nat → Nat) (S : gS) (k : Int) (hS : okT S) (hk : 0 ≤ k ∧ k < 4) : gK l E yX4_xOf cX4_xOf 2 (some .int) r_X4_xOf [.ref (ad 13), .int (iI k)] (wT E ad S) (some (.int (iI (S.1 14 k % 10)))) (wT E ad S) := by
  refine gK_by RX4 rfl mX4_xOf [(0, .ref (ad 13)), (1, .int (iI k))] (Nat.le_of_ble_eq_true rfl) rfl ?_
  intro zp ze zs zm za zb zh zc zA zQ C Z
  refine g_aload_n C dX4_xOf_0 rfl 0 rfl ?_
  refine g_get (v := .ref (ad 14)) (T := TX1) (N := 3) (ci := 1) C in_X1 13 rfl rfl 0 (by decide) wd81 (Or.inl rfl) rfl dX4_xOf_1 rfl ?_
  refine g_iload_n C dX4_xOf_4 rfl 1 rfl ?_
  refine g_iald (f := (S.1 14)) C dX4_xOf_5 rfl 14 rfl (by omega) (by decide) ?_
  have b5 := okT_14 hS k
  refine g_bipush C dX4_xOf_6 rfl rfl ?_
  refine g_irem C dX4_xOf_8 rfl (by omega) (by omega) ?_
  exact z_iret C Z rfl dX4_xOf_9 rfl rfl
set_option maxHeartbeats 4000000 in
set_option maxRecDepth 100000 in
theorem k_X4_yOf_X1 (l : Launch) (E : gE) (ad : Nat → Nat) (S : gS) (k : Int) (hS : okT S) (hk : 0 ≤ k ∧ k < 4) : gK l E yX4_yOf cX4_yOf 2 (some .int) r_X4_yOf [.ref (ad 13), .int (iI k)] (wT E ad S) (some (.int (iI (S.1 14 k / 10)))) (wT E ad S) := by
  refine gK_by RX4 rfl mX4_yOf [(0, .ref (ad 13)), (1, .int (iI k))] (Nat.le_of_ble_eq_true rfl) rfl ?_
  intro zp ze zs zm za zb zh zc zA zQ C Z
  refine g_aload_n C dX4_yOf_0 rfl 0 rfl ?_
  refine g_get (v := .ref (ad 14)) (T := TX1) (N := 3) (ci := 1) C in_X1 13 rfl rfl 0 (by decide) wd81 (Or.inl rfl) rfl dX4_yOf_1 rfl ?_
  refine g_iload_n C dX4_yOf_4 rfl 1 rfl ?_
  refine g_iald (f := (S.1 14)) C dX4_yOf_5 rfl 14 rfl (by omega) (by decide) ?_
  have b5 := okT_14 hS k
  refine g_bipush C dX4_yOf_6 rfl rfl ?_
  refine g_idiv C dX4_yOf_8 rfl (by omega) (by omega) ?_
  exact z_iret C Z rfl dX4_yOf_9 rfl rfl
set_option maxHeartbeats 4000000 in
set_option maxRecDepth 100000 in
theorem k_X4_isFull_X6 (l : Launch) (E : gE) (ad : Nat → Nat) (S : gS) (hS : okT S) : gK l E yX4_isFull cX4_isFull 1 (some .boolean) r_X4_isFull [.ref (ad 16)] (wT E ad S) (some (.int (iI (bI (4 ≤ S.2 3))))) (wT E ad S) := by
  refine gK_by RX4 rfl mX4_isFull [(0, .ref (ad 16))] (Nat.le_of_ble_eq_true rfl) rfl ?_
  intro zp ze zs zm za zb zh zc zA zQ C Z
  refine g_aload_n C dX4_isFull_0 rfl 0 rfl ?_
  refine g_get (v := .int (iI (S.2 3))) (T := TX6) (N := 5) (ci := 5) C in_X6 16 rfl rfl 1 (by decide) wd96 (Or.inl rfl) rfl dX4_isFull_1 rfl ?_
  have f1 := okT_i3 hS
  refine g_aload_n C dX4_isFull_4 rfl 0 rfl ?_
  refine g_get (v := .ref (ad 17)) (T := TX6) (N := 5) (ci := 5) C in_X6 16 rfl rfl 0 (by decide) wd81 (Or.inl rfl) rfl dX4_isFull_5 rfl ?_
  refine g_alen (n := 4) (f := (S.1 17)) C 17 rfl dX4_isFull_8 rfl ?_
  refine g_icmp_lt C dX4_isFull_9 16 (by decide) rfl (by omega) (by omega) (fun c9 => ?_) (fun c9 => ?_)
  · skip
    refine g_iconst C dX4_isFull_16 rfl ?_
    exact z_iret C Z (z_nar (by omega)) dX4_isFull_17 (by exact congrArg (fun z => some (Value.int (iI z))) (by first | (rw [bI_t (by omega)]) | (rw [bI_f (by omega)]))) rfl
  · skip
    refine g_iconst C dX4_isFull_12 rfl ?_
    refine g_goto C dX4_isFull_13 17 (by decide) ?_
    exact z_iret C Z (z_nar (by omega)) dX4_isFull_17 (by exact congrArg (fun z => some (Value.int (iI z))) (by first | (rw [bI_t (by omega)]) | (rw [bI_f (by omega)]))) rfl
set_option maxHeartbeats 4000000 in
set_option maxRecDepth 100000 in
theorem k_X4_has_X6 (l : Launch) (E : gE) (ad : Nat → Nat) (S : gS) (k : Int) (hS : okT S) (hk : -2147483648 ≤ k ∧ k ≤ 2147483647) : gK l E yX4_has cX4_has 2 (some .boolean) r_X4_has [.ref (ad 16), .int (iI k)] (wT E ad S) (some (.int (iI (bI (0 ≤ k ∧ k < S.2 3))))) (wT E ad S) := by
  refine gK_by RX4 rfl mX4_has [(0, .ref (ad 16)), (1, .int (iI k))] (Nat.le_of_ble_eq_true rfl) rfl ?_
  intro zp ze zs zm za zb zh zc zA zQ C Z
  refine g_iload_n C dX4_has_0 rfl 1 rfl ?_
  refine g_if_lt C dX4_has_1 16 (by decide) rfl (by omega) (fun c1 => ?_) (fun c1 => ?_)
  · skip
    refine g_iconst C dX4_has_16 rfl ?_
    exact z_iret C Z (z_nar (by omega)) dX4_has_17 (by exact congrArg (fun z => some (Value.int (iI z))) (by first | (rw [bI_t (by omega)]) | (rw [bI_f (by omega)]))) rfl
  · skip
    refine g_iload_n C dX4_has_4 rfl 1 rfl ?_
    refine g_aload_n C dX4_has_5 rfl 0 rfl ?_
    refine g_get (v := .int (iI (S.2 3))) (T := TX6) (N := 5) (ci := 5) C in_X6 16 rfl rfl 1 (by decide) wd96 (Or.inl rfl) rfl dX4_has_6 rfl ?_
    have f6 := okT_i3 hS
    refine g_icmp_ge C dX4_has_9 16 (by decide) rfl (by omega) (by omega) (fun c9 => ?_) (fun c9 => ?_)
    · skip
      refine g_iconst C dX4_has_16 rfl ?_
      exact z_iret C Z (z_nar (by omega)) dX4_has_17 (by exact congrArg (fun z => some (Value.int (iI z))) (by first | (rw [bI_t (by omega)]) | (rw [bI_f (by omega)]))) rfl
    · skip
      refine g_iconst C dX4_has_12 rfl ?_
      refine g_goto C dX4_has_13 17 (by decide) ?_
      exact z_iret C Z (z_nar (by omega)) dX4_has_17 (by exact congrArg (fun z => some (Value.int (iI z))) (by first | (rw [bI_t (by omega)]) | (rw [bI_f (by omega)]))) rfl
set_option maxHeartbeats 4000000 in
set_option maxRecDepth 100000 in
theorem k_X4_firstIn_X6 (l : Launch) (E : gE) (ad : Nat → Nat) (S : gS) (q : Int) (hS : okT S) (hq : 0 ≤ q ∧ q < 80) : gK l E yX4_firstIn cX4_firstIn 3 (some .int) r_X4_firstIn [.ref (ad 16), .int (iI q)] (wT E ad S) (some (.int (iI (fstI (S.1 17) q (S.2 3).toNat)))) (wT E ad S) := by
  refine gK_by RX4 rfl mX4_firstIn [(0, .ref (ad 16)), (1, .int (iI q))] (Nat.le_of_ble_eq_true rfl) rfl ?_
  intro zp ze zs zm za zb zh zc zA zQ C Z
  refine g_iconst C dX4_firstIn_0 rfl ?_
  refine g_istore_n (lv' := [(2, .int (iI (0))), (0, .ref (ad 16)), (1, .int (iI q))]) C dX4_firstIn_1 rfl (by decide) rfl ?_
  have L2 : ∀ k9 : Nat, k9 ≤ (S.2 3).toNat → (fstI (S.1 17) q k9 = -1) → gG E zp l ze r_X4_firstIn zs zm za zb zh zc zA 3 0 0 zQ (wT E ad S) 2 [(2, .int (iI (k9 : Int))), (0, .ref (ad 16)), (1, .int (iI q))] [] := by
    refine g_up ((S.2 3).toNat) _ ?_
    intro k9 ih2 hk2 hy2
    have ff := okT_i3 hS
    refine g_iload_n C dX4_firstIn_2 rfl 0 rfl ?_
    refine g_aload_n C dX4_firstIn_3 rfl 1 rfl ?_
    refine g_get (v := .int (iI (S.2 3))) (T := TX6) (N := 5) (ci := 5) C in_X6 16 rfl rfl 1 (by decide) wd96 (Or.inl rfl) rfl dX4_firstIn_4 rfl ?_
    have f4 := okT_i3 hS
    refine g_icmp_ge C dX4_firstIn_7 28 (by decide) rfl (by omega) (by omega) (fun c7 => ?_) (fun c7 => ?_)
    · skip
      refine g_iconst C dX4_firstIn_28 rfl ?_
      exact z_iret C Z rfl dX4_firstIn_29 (by exact congrArg (fun z => some (Value.int (iI z))) (by rw [show (S.2 3).toNat = k9 by omega]; exact hy2)) rfl
    · skip
      refine g_aload_n C dX4_firstIn_10 rfl 1 rfl ?_
      refine g_get (v := .ref (ad 17)) (T := TX6) (N := 5) (ci := 5) C in_X6 16 rfl rfl 0 (by decide) wd81 (Or.inl rfl) rfl dX4_firstIn_11 rfl ?_
      refine g_iload_n C dX4_firstIn_14 rfl 0 rfl ?_
      refine g_iald (f := (S.1 17)) C dX4_firstIn_15 rfl 17 rfl (by omega) (by decide) ?_
      have b15 := okT_17 hS (k9 : Int)
      refine g_iload_n C dX4_firstIn_16 rfl 2 rfl ?_
      refine g_icmp_ne C dX4_firstIn_17 22 (by decide) rfl (by omega) (by omega) (fun c17 => ?_) (fun c17 => ?_)
      · skip
        refine g_iinc (lv' := [(2, .int (iI ((k9 : Int) + 1))), (0, .ref (ad 16)), (1, .int (iI q))]) C dX4_firstIn_22 rfl 0 rfl (by decide) rfl ?_
        refine g_goto C dX4_firstIn_25 2 (by decide) ?_
        exact g_to [0, 1, 2] (ih2 (by omega) (fst_no hy2 (by omega))) rfl rfl rfl
      · skip
        refine g_iload_n C dX4_firstIn_20 rfl 0 rfl ?_
        exact z_iret C Z rfl dX4_firstIn_21 (by exact congrArg (fun z => some (Value.int (iI z))) (fst_yes hy2 (by omega) (by omega))) rfl
  refine g_to [0, 1, 2] (L2 0 (by omega) (rfl)) rfl rfl rfl
set_option maxHeartbeats 4000000 in
set_option maxRecDepth 100000 in
theorem k_X4_xOf_X6 (l : Launch) (E : gE) (ad : Nat → Nat) (S : gS) (k : Int) (hS : okT S) (hk : 0 ≤ k ∧ k < 4) : gK l E yX4_xOf cX4_xOf 2 (some .int) r_X4_xOf [.ref (ad 16), .int (iI k)] (wT E ad S) (some (.int (iI (S.1 17 k % 10)))) (wT E ad S) := by
  refine gK_by RX4 rfl mX4_xOf [(0, .ref (ad 16)), (1, .int (iI k))] (Nat.le_of_ble_eq_true rfl) rfl ?_
  intro zp ze zs zm za zb zh zc zA zQ C Z
  refine g_aload_n C dX4_xOf_0 rfl 0 rfl ?_
  refine g_get (v := .ref (ad 17)) (T := TX6) (N := 5) (ci := 5) C in_X6 16 rfl rfl 0 (by decide) wd81 (Or.inl rfl) rfl dX4_xOf_1 rfl ?_
  refine g_iload_n C dX4_xOf_4 rfl 1 rfl ?_
  refine g_iald (f := (S.1 17)) C dX4_xOf_5 rfl 17 rfl (by omega) (by decide) ?_
  have b5 := okT_17 hS k
  refine g_bipush C dX4_xOf_6 rfl rfl ?_
  refine g_irem C dX4_xOf_8 rfl (by omega) (by omega) ?_
  exact z_iret C Z rfl dX4_xOf_9 rfl rfl
set_option maxHeartbeats 4000000 in
set_option maxRecDepth 100000 in
theorem k_X4_yOf_X6 (l : Launch) (E : gE) (ad : Nat → Nat) (S : gS) (k : Int) (hS : okT S) (hk : 0 ≤ k ∧ k < 4) : gK l E yX4_yOf cX4_yOf 2 (some .int) r_X4_yOf [.ref (ad 16), .int (iI k)] (wT E ad S) (some (.int (iI (S.1 17 k / 10)))) (wT E ad S) := by
  refine gK_by RX4 rfl mX4_yOf [(0, .ref (ad 16)), (1, .int (iI k))] (Nat.le_of_ble_eq_true rfl) rfl ?_
  intro zp ze zs zm za zb zh zc zA zQ C Z
  refine g_aload_n C dX4_yOf_0 rfl 0 rfl ?_
  refine g_get (v := .ref (ad 17)) (T := TX6) (N := 5) (ci := 5) C in_X6 16 rfl rfl 0 (by decide) wd81 (Or.inl rfl) rfl dX4_yOf_1 rfl ?_
  refine g_iload_n C dX4_yOf_4 rfl 1 rfl ?_
  refine g_iald (f := (S.1 17)) C dX4_yOf_5 rfl 17 rfl (by omega) (by decide) ?_
  have b5 := okT_17 hS k
  refine g_bipush C dX4_yOf_6 rfl rfl ?_
  refine g_idiv C dX4_yOf_8 rfl (by omega) (by omega) ?_
  exact z_iret C Z rfl dX4_yOf_9 rfl rfl
set_option maxHeartbeats 4000000 in
set_option maxRecDepth 100000 in
theorem k_X4_isFull_X2 (l : Launch) (E : gE) (ad : Nat → Nat) (S : gS) (hS : okT S) : gK l E yX4_isFull cX4_isFull 1 (some .boolean) r_X4_isFull [.ref (ad 21)] (wT E ad S) (some (.int (iI (bI (10 ≤ S.2 4))))) (wT E ad S) := by
  refine gK_by RX4 rfl mX4_isFull [(0, .ref (ad 21))] (Nat.le_of_ble_eq_true rfl) rfl ?_
  intro zp ze zs zm za zb zh zc zA zQ C Z
  refine g_aload_n C dX4_isFull_0 rfl 0 rfl ?_
  refine g_get (v := .int (iI (S.2 4))) (T := TX2) (N := 5) (ci := 2) C in_X2 21 rfl rfl 1 (by decide) wd96 (Or.inl rfl) rfl dX4_isFull_1 rfl ?_
  have f1 := okT_i4 hS
  refine g_aload_n C dX4_isFull_4 rfl 0 rfl ?_
  refine g_get (v := .ref (ad 22)) (T := TX2) (N := 5) (ci := 2) C in_X2 21 rfl rfl 0 (by decide) wd81 (Or.inl rfl) rfl dX4_isFull_5 rfl ?_
  refine g_alen (n := 10) (f := (S.1 22)) C 22 rfl dX4_isFull_8 rfl ?_
  refine g_icmp_lt C dX4_isFull_9 16 (by decide) rfl (by omega) (by omega) (fun c9 => ?_) (fun c9 => ?_)
  · skip
    refine g_iconst C dX4_isFull_16 rfl ?_
    exact z_iret C Z (z_nar (by omega)) dX4_isFull_17 (by exact congrArg (fun z => some (Value.int (iI z))) (by first | (rw [bI_t (by omega)]) | (rw [bI_f (by omega)]))) rfl
  · skip
    refine g_iconst C dX4_isFull_12 rfl ?_
    refine g_goto C dX4_isFull_13 17 (by decide) ?_
    exact z_iret C Z (z_nar (by omega)) dX4_isFull_17 (by exact congrArg (fun z => some (Value.int (iI z))) (by first | (rw [bI_t (by omega)]) | (rw [bI_f (by omega)]))) rfl
set_option maxHeartbeats 4000000 in
set_option maxRecDepth 100000 in
theorem k_X4_has_X2 (l : Launch) (E : gE) (ad : Nat → Nat) (S : gS) (k : Int) (hS : okT S) (hk : -2147483648 ≤ k ∧ k ≤ 2147483647) : gK l E yX4_has cX4_has 2 (some .boolean) r_X4_has [.ref (ad 21), .int (iI k)] (wT E ad S) (some (.int (iI (bI (0 ≤ k ∧ k < S.2 4))))) (wT E ad S) := by
  refine gK_by RX4 rfl mX4_has [(0, .ref (ad 21)), (1, .int (iI k))] (Nat.le_of_ble_eq_true rfl) rfl ?_
  intro zp ze zs zm za zb zh zc zA zQ C Z
  refine g_iload_n C dX4_has_0 rfl 1 rfl ?_
  refine g_if_lt C dX4_has_1 16 (by decide) rfl (by omega) (fun c1 => ?_) (fun c1 => ?_)
  · skip
    refine g_iconst C dX4_has_16 rfl ?_
    exact z_iret C Z (z_nar (by omega)) dX4_has_17 (by exact congrArg (fun z => some (Value.int (iI z))) (by first | (rw [bI_t (by omega)]) | (rw [bI_f (by omega)]))) rfl
  · skip
    refine g_iload_n C dX4_has_4 rfl 1 rfl ?_
    refine g_aload_n C dX4_has_5 rfl 0 rfl ?_
    refine g_get (v := .int (iI (S.2 4))) (T := TX2) (N := 5) (ci := 2) C in_X2 21 rfl rfl 1 (by decide) wd96 (Or.inl rfl) rfl dX4_has_6 rfl ?_
    have f6 := okT_i4 hS
    refine g_icmp_ge C dX4_has_9 16 (by decide) rfl (by omega) (by omega) (fun c9 => ?_) (fun c9 => ?_)
    · skip
      refine g_iconst C dX4_has_16 rfl ?_
      exact z_iret C Z (z_nar (by omega)) dX4_has_17 (by exact congrArg (fun z => some (Value.int (iI z))) (by first | (rw [bI_t (by omega)]) | (rw [bI_f (by omega)]))) rfl
    · skip
      refine g_iconst C dX4_has_12 rfl ?_
      refine g_goto C dX4_has_13 17 (by decide) ?_
      exact z_iret C Z (z_nar (by omega)) dX4_has_17 (by exact congrArg (fun z => some (Value.int (iI z))) (by first | (rw [bI_t (by omega)]) | (rw [bI_f (by omega)]))) rfl
set_option maxHeartbeats 4000000 in
set_option maxRecDepth 100000 in
theorem k_X4_firstIn_X2 (l : Launch) (E : gE) (ad : Nat → Nat) (S : gS) (q : Int) (hS : okT S) (hq : 0 ≤ q ∧ q < 80) : gK l E yX4_firstIn cX4_firstIn 3 (some .int) r_X4_firstIn [.ref (ad 21), .int (iI q)] (wT E ad S) (some (.int (iI (fstI (S.1 22) q (S.2 4).toNat)))) (wT E ad S) := by
  refine gK_by RX4 rfl mX4_firstIn [(0, .ref (ad 21)), (1, .int (iI q))] (Nat.le_of_ble_eq_true rfl) rfl ?_
  intro zp ze zs zm za zb zh zc zA zQ C Z
  refine g_iconst C dX4_firstIn_0 rfl ?_
  refine g_istore_n (lv' := [(2, .int (iI (0))), (0, .ref (ad 21)), (1, .int (iI q))]) C dX4_firstIn_1 rfl (by decide) rfl ?_
  have L2 : ∀ k9 : Nat, k9 ≤ (S.2 4).toNat → (fstI (S.1 22) q k9 = -1) → gG E zp l ze r_X4_firstIn zs zm za zb zh zc zA 3 0 0 zQ (wT E ad S) 2 [(2, .int (iI (k9 : Int))), (0, .ref (ad 21)), (1, .int (iI q))] [] := by
    refine g_up ((S.2 4).toNat) _ ?_
    intro k9 ih2 hk2 hy2
    have ff := okT_i4 hS
    refine g_iload_n C dX4_firstIn_2 rfl 0 rfl ?_
    refine g_aload_n C dX4_firstIn_3 rfl 1 rfl ?_
    refine g_get (v := .int (iI (S.2 4))) (T := TX2) (N := 5) (ci := 2) C in_X2 21 rfl rfl 1 (by decide) wd96 (Or.inl rfl) rfl dX4_firstIn_4 rfl ?_
    have f4 := okT_i4 hS
    refine g_icmp_ge C dX4_firstIn_7 28 (by decide) rfl (by omega) (by omega) (fun c7 => ?_) (fun c7 => ?_)
    · skip
      refine g_iconst C dX4_firstIn_28 rfl ?_
      exact z_iret C Z rfl dX4_firstIn_29 (by exact congrArg (fun z => some (Value.int (iI z))) (by rw [show (S.2 4).toNat = k9 by omega]; exact hy2)) rfl
    · skip
      refine g_aload_n C dX4_firstIn_10 rfl 1 rfl ?_
      refine g_get (v := .ref (ad 22)) (T := TX2) (N := 5) (ci := 2) C in_X2 21 rfl rfl 0 (by decide) wd81 (Or.inl rfl) rfl dX4_firstIn_11 rfl ?_
      refine g_iload_n C dX4_firstIn_14 rfl 0 rfl ?_
      refine g_iald (f := (S.1 22)) C dX4_firstIn_15 rfl 22 rfl (by omega) (by decide) ?_
      have b15 := okT_22 hS (k9 : Int)
      refine g_iload_n C dX4_firstIn_16 rfl 2 rfl ?_
      refine g_icmp_ne C dX4_firstIn_17 22 (by decide) rfl (by omega) (by omega) (fun c17 => ?_) (fun c17 => ?_)
      · skip
        refine g_iinc (lv' := [(2, .int (iI ((k9 : Int) + 1))), (0, .ref (ad 21)), (1, .int (iI q))]) C dX4_firstIn_22 rfl 0 rfl (by decide) rfl ?_
        refine g_goto C dX4_firstIn_25 2 (by decide) ?_
        exact g_to [0, 1, 2] (ih2 (by omega) (fst_no hy2 (by omega))) rfl rfl rfl
      · skip
        refine g_iload_n C dX4_firstIn_20 rfl 0 rfl ?_
        exact z_iret C Z rfl dX4_firstIn_21 (by exact congrArg (fun z => some (Value.int (iI z))) (fst_yes hy2 (by omega) (by omega))) rfl
  refine g_to [0, 1, 2] (L2 0 (by omega) (rfl)) rfl rfl rfl
set_option maxHeartbeats 4000000 in
set_option maxRecDepth 100000 in
theorem k_X4_xOf_X2 (l : Launch) (E : gE) (ad : Nat → Nat) (S : gS) (k : Int) (hS : okT S) (hk : 0 ≤ k ∧ k < 10) : gK l E yX4_xOf cX4_xOf 2 (some .int) r_X4_xOf [.ref (ad 21), .int (iI k)] (wT E ad S) (some (.int (iI (S.1 22 k % 10)))) (wT E ad S) := by
  refine gK_by RX4 rfl mX4_xOf [(0, .ref (ad 21)), (1, .int (iI k))] (Nat.le_of_ble_eq_true rfl) rfl ?_
  intro zp ze zs zm za zb zh zc zA zQ C Z
  refine g_aload_n C dX4_xOf_0 rfl 0 rfl ?_
  refine g_get (v := .ref (ad 22)) (T := TX2) (N := 5) (ci := 2) C in_X2 21 rfl rfl 0 (by decide) wd81 (Or.inl rfl) rfl dX4_xOf_1 rfl ?_
  refine g_iload_n C dX4_xOf_4 rfl 1 rfl ?_
  refine g_iald (f := (S.1 22)) C dX4_xOf_5 rfl 22 rfl (by omega) (by decide) ?_
  have b5 := okT_22 hS k
  refine g_bipush C dX4_xOf_6 rfl rfl ?_
  refine g_irem C dX4_xOf_8 rfl (by omega) (by omega) ?_
  exact z_iret C Z rfl dX4_xOf_9 rfl rfl
set_option maxHeartbeats 4000000 in
set_option maxRecDepth 100000 in
theorem k_X4_yOf_X2 (l : Launch) (E : gE) (ad : Nat → Nat) (S : gS) (k : Int) (hS : okT S) (hk : 0 ≤ k ∧ k < 10) : gK l E yX4_yOf cX4_yOf 2 (some .int) r_X4_yOf [.ref (ad 21), .int (iI k)] (wT E ad S) (some (.int (iI (S.1 22 k / 10)))) (wT E ad S) := by
  refine gK_by RX4 rfl mX4_yOf [(0, .ref (ad 21)), (1, .int (iI k))] (Nat.le_of_ble_eq_true rfl) rfl ?_
  intro zp ze zs zm za zb zh zc zA zQ C Z
  refine g_aload_n C dX4_yOf_0 rfl 0 rfl ?_
  refine g_get (v := .ref (ad 22)) (T := TX2) (N := 5) (ci := 2) C in_X2 21 rfl rfl 0 (by decide) wd81 (Or.inl rfl) rfl dX4_yOf_1 rfl ?_
  refine g_iload_n C dX4_yOf_4 rfl 1 rfl ?_
  refine g_iald (f := (S.1 22)) C dX4_yOf_5 rfl 22 rfl (by omega) (by decide) ?_
  have b5 := okT_22 hS k
  refine g_bipush C dX4_yOf_6 rfl rfl ?_
  refine g_idiv C dX4_yOf_8 rfl (by omega) (by omega) ?_
  exact z_iret C Z rfl dX4_yOf_9 rfl rfl
set_option maxHeartbeats 4000000 in
set_option maxRecDepth 100000 in
theorem k_X4_isFull_X0 (l : Launch) (E : gE) (ad : Nat → Nat) (S : gS) (hS : okT S) : gK l E yX4_isFull cX4_isFull 1 (some .boolean) r_X4_isFull [.ref (ad 25)] (wT E ad S) (some (.int (iI (bI (3 ≤ S.2 6))))) (wT E ad S) := by
  refine gK_by RX4 rfl mX4_isFull [(0, .ref (ad 25))] (Nat.le_of_ble_eq_true rfl) rfl ?_
  intro zp ze zs zm za zb zh zc zA zQ C Z
  refine g_aload_n C dX4_isFull_0 rfl 0 rfl ?_
  refine g_get (v := .int (iI (S.2 6))) (T := TX0) (N := 3) (ci := 0) C in_X0 25 rfl rfl 1 (by decide) wd96 (Or.inl rfl) rfl dX4_isFull_1 rfl ?_
  have f1 := okT_i6 hS
  refine g_aload_n C dX4_isFull_4 rfl 0 rfl ?_
  refine g_get (v := .ref (ad 26)) (T := TX0) (N := 3) (ci := 0) C in_X0 25 rfl rfl 0 (by decide) wd81 (Or.inl rfl) rfl dX4_isFull_5 rfl ?_
  refine g_alen (n := 3) (f := (S.1 26)) C 26 rfl dX4_isFull_8 rfl ?_
  refine g_icmp_lt C dX4_isFull_9 16 (by decide) rfl (by omega) (by omega) (fun c9 => ?_) (fun c9 => ?_)
  · skip
    refine g_iconst C dX4_isFull_16 rfl ?_
    exact z_iret C Z (z_nar (by omega)) dX4_isFull_17 (by exact congrArg (fun z => some (Value.int (iI z))) (by first | (rw [bI_t (by omega)]) | (rw [bI_f (by omega)]))) rfl
  · skip
    refine g_iconst C dX4_isFull_12 rfl ?_
    refine g_goto C dX4_isFull_13 17 (by decide) ?_
    exact z_iret C Z (z_nar (by omega)) dX4_isFull_17 (by exact congrArg (fun z => some (Value.int (iI z))) (by first | (rw [bI_t (by omega)]) | (rw [bI_f (by omega)]))) rfl
set_option maxHeartbeats 4000000 in
set_option maxRecDepth 100000 in
theorem k_X4_has_X0 (l : Launch) (E : gE) (ad : Nat → Nat) (S : gS) (k : Int) (hS : okT S) (hk : -2147483648 ≤ k ∧ k ≤ 2147483647) : gK l E yX4_has cX4_has 2 (some .boolean) r_X4_has [.ref (ad 25), .int (iI k)] (wT E ad S) (some (.int (iI (bI (0 ≤ k ∧ k < S.2 6))))) (wT E ad S) := by
  refine gK_by RX4 rfl mX4_has [(0, .ref (ad 25)), (1, .int (iI k))] (Nat.le_of_ble_eq_true rfl) rfl ?_
  intro zp ze zs zm za zb zh zc zA zQ C Z
  refine g_iload_n C dX4_has_0 rfl 1 rfl ?_
  refine g_if_lt C dX4_has_1 16 (by decide) rfl (by omega) (fun c1 => ?_) (fun c1 => ?_)
  · skip
    refine g_iconst C dX4_has_16 rfl ?_
    exact z_iret C Z (z_nar (by omega)) dX4_has_17 (by exact congrArg (fun z => some (Value.int (iI z))) (by first | (rw [bI_t (by omega)]) | (rw [bI_f (by omega)]))) rfl
  · skip
    refine g_iload_n C dX4_has_4 rfl 1 rfl ?_
    refine g_aload_n C dX4_has_5 rfl 0 rfl ?_
    refine g_get (v := .int (iI (S.2 6))) (T := TX0) (N := 3) (ci := 0) C in_X0 25 rfl rfl 1 (by decide) wd96 (Or.inl rfl) rfl dX4_has_6 rfl ?_
    have f6 := okT_i6 hS
    refine g_icmp_ge C dX4_has_9 16 (by decide) rfl (by omega) (by omega) (fun c9 => ?_) (fun c9 => ?_)
    · skip
      refine g_iconst C dX4_has_16 rfl ?_
      exact z_iret C Z (z_nar (by omega)) dX4_has_17 (by exact congrArg (fun z => some (Value.int (iI z))) (by first | (rw [bI_t (by omega)]) | (rw [bI_f (by omega)]))) rfl
    · skip
      refine g_iconst C dX4_has_12 rfl ?_
      refine g_goto C dX4_has_13 17 (by decide) ?_
      exact z_iret C Z (z_nar (by omega)) dX4_has_17 (by exact congrArg (fun z => some (Value.int (iI z))) (by first | (rw [bI_t (by omega)]) | (rw [bI_f (by omega)]))) rfl
set_option maxHeartbeats 4000000 in
set_option maxRecDepth 100000 in
theorem k_X4_firstIn_X0 (l : Launch) (E : gE) (ad : Nat → Nat) (S : gS) (q : Int) (hS : okT S) (hq : 0 ≤ q ∧ q < 80) : gK l E yX4_firstIn cX4_firstIn 3 (some .int) r_X4_firstIn [.ref (ad 25), .int (iI q)] (wT E ad S) (some (.int (iI (fstI (S.1 26) q (S.2 6).toNat)))) (wT E ad S) := by
  refine gK_by RX4 rfl mX4_firstIn [(0, .ref (ad 25)), (1, .int (iI q))] (Nat.le_of_ble_eq_true rfl) rfl ?_
  intro zp ze zs zm za zb zh zc zA zQ C Z
  refine g_iconst C dX4_firstIn_0 rfl ?_
  refine g_istore_n (lv' := [(2, .int (iI (0))), (0, .ref (ad 25)), (1, .int (iI q))]) C dX4_firstIn_1 rfl (by decide) rfl ?_
  have L2 : ∀ k9 : Nat, k9 ≤ (S.2 6).toNat → (fstI (S.1 26) q k9 = -1) → gG E zp l ze r_X4_firstIn zs zm za zb zh zc zA 3 0 0 zQ (wT E ad S) 2 [(2, .int (iI (k9 : Int))), (0, .ref (ad 25)), (1, .int (iI q))] [] := by
    refine g_up ((S.2 6).toNat) _ ?_
    intro k9 ih2 hk2 hy2
    have ff := okT_i6 hS
    refine g_iload_n C dX4_firstIn_2 rfl 0 rfl ?_
    refine g_aload_n C dX4_firstIn_3 rfl 1 rfl ?_
    refine g_get (v := .int (iI (S.2 6))) (T := TX0) (N := 3) (ci := 0) C in_X0 25 rfl rfl 1 (by decide) wd96 (Or.inl rfl) rfl dX4_firstIn_4 rfl ?_
    have f4 := okT_i6 hS
    refine g_icmp_ge C dX4_firstIn_7 28 (by decide) rfl (by omega) (by omega) (fun c7 => ?_) (fun c7 => ?_)
    · skip
      refine g_iconst C dX4_firstIn_28 rfl ?_
      exact z_iret C Z rfl dX4_firstIn_29 (by exact congrArg (fun z => some (Value.int (iI z))) (by rw [show (S.2 6).toNat = k9 by omega]; exact hy2)) rfl
    · skip
      refine g_aload_n C dX4_firstIn_10 rfl 1 rfl ?_
      refine g_get (v := .ref (ad 26)) (T := TX0) (N := 3) (ci := 0) C in_X0 25 rfl rfl 0 (by decide) wd81 (Or.inl rfl) rfl dX4_firstIn_11 rfl ?_
      refine g_iload_n C dX4_firstIn_14 rfl 0 rfl ?_
      refine g_iald (f := (S.1 26)) C dX4_firstIn_15 rfl 26 rfl (by omega) (by decide) ?_
      have b15 := okT_26 hS (k9 : Int)
      refine g_iload_n C dX4_firstIn_16 rfl 2 rfl ?_
      refine g_icmp_ne C dX4_firstIn_17 22 (by decide) rfl (by omega) (by omega) (fun c17 => ?_) (fun c17 => ?_)
      · skip
        refine g_iinc (lv' := [(2, .int (iI ((k9 : Int) + 1))), (0, .ref (ad 25)), (1, .int (iI q))]) C dX4_firstIn_22 rfl 0 rfl (by decide) rfl ?_
        refine g_goto C dX4_firstIn_25 2 (by decide) ?_
        exact g_to [0, 1, 2] (ih2 (by omega) (fst_no hy2 (by omega))) rfl rfl rfl
      · skip
        refine g_iload_n C dX4_firstIn_20 rfl 0 rfl ?_
        exact z_iret C Z rfl dX4_firstIn_21 (by exact congrArg (fun z => some (Value.int (iI z))) (fst_yes hy2 (by omega) (by omega))) rfl
  refine g_to [0, 1, 2] (L2 0 (by omega) (rfl)) rfl rfl rfl
set_option maxHeartbeats 4000000 in
set_option maxRecDepth 100000 in
theorem k_X4_xOf_X0 (l : Launch) (E : gE) (ad : Nat → Nat) (S : gS) (k : Int) (hS : okT S) (hk : 0 ≤ k ∧ k < 3) : gK l E yX4_xOf cX4_xOf 2 (some .int) r_X4_xOf [.ref (ad 25), .int (iI k)] (wT E ad S) (some (.int (iI (S.1 26 k % 10)))) (wT E ad S) := by
  refine gK_by RX4 rfl mX4_xOf [(0, .ref (ad 25)), (1, .int (iI k))] (Nat.le_of_ble_eq_true rfl) rfl ?_
  intro zp ze zs zm za zb zh zc zA zQ C Z
  refine g_aload_n C dX4_xOf_0 rfl 0 rfl ?_
  refine g_get (v := .ref (ad 26)) (T := TX0) (N := 3) (ci := 0) C in_X0 25 rfl rfl 0 (by decide) wd81 (Or.inl rfl) rfl dX4_xOf_1 rfl ?_
  refine g_iload_n C dX4_xOf_4 rfl 1 rfl ?_
  refine g_iald (f := (S.1 26)) C dX4_xOf_5 rfl 26 rfl (by omega) (by decide) ?_
  have b5 := okT_26 hS k
  refine g_bipush C dX4_xOf_6 rfl rfl ?_
  refine g_irem C dX4_xOf_8 rfl (by omega) (by omega) ?_
  exact z_iret C Z rfl dX4_xOf_9 rfl rfl
set_option maxHeartbeats 4000000 in
set_option maxRecDepth 100000 in
theorem k_X4_yOf_X0 (l : Launch) (E : gE) (ad : Nat → Nat) (S : gS) (k : Int) (hS : okT S) (hk : 0 ≤ k ∧ k < 3) : gK l E yX4_yOf cX4_yOf 2 (some .int) r_X4_yOf [.ref (ad 25), .int (iI k)] (wT E ad S) (some (.int (iI (S.1 26 k / 10)))) (wT E ad S) := by
  refine gK_by RX4 rfl mX4_yOf [(0, .ref (ad 25)), (1, .int (iI k))] (Nat.le_of_ble_eq_true rfl) rfl ?_
  intro zp ze zs zm za zb zh zc zA zQ C Z
  refine g_aload_n C dX4_yOf_0 rfl 0 rfl ?_
  refine g_get (v := .ref (ad 26)) (T := TX0) (N := 3) (ci := 0) C in_X0 25 rfl rfl 0 (by decide) wd81 (Or.inl rfl) rfl dX4_yOf_1 rfl ?_
  refine g_iload_n C dX4_yOf_4 rfl 1 rfl ?_
  refine g_iald (f := (S.1 26)) C dX4_yOf_5 rfl 26 rfl (by omega) (by decide) ?_
  have b5 := okT_26 hS k
  refine g_bipush C dX4_yOf_6 rfl rfl ?_
  refine g_idiv C dX4_yOf_8 rfl (by omega) (by omega) ?_
  exact z_iret C Z rfl dX4_yOf_9 rfl rfl
abbrev r_X4_canComeTo : Room := { frames := 1, cells := 0, slots := 0, locals := 22 }
set_option maxHeartbeats 4000000 in
set_option maxRecDepth 100000 in
theorem k_X4_canComeTo_X5 (l : Launch) (E : gE) (ad : Nat → Nat) (S : gS) (q : Int) (hS : okT S) (hq : 0 ≤ q ∧ q < 80) : gK l E yX4_canComeTo cX4_canComeTo 2 (some .boolean) r_X4_canComeTo [.ref (ad 7), .int (iI q)] (wT E ad S) (some (.int (iI (bI (S.2 1 < 5 ∧ fstI (S.1 8) q (S.2 1).toNat = -1))))) (wT E ad S) := by
  refine gK_by RX4 rfl mX4_canComeTo [(0, .ref (ad 7)), (1, .int (iI q))] (Nat.le_of_ble_eq_true rfl) rfl ?_
  intro zp ze zs zm za zb zh zc zA zQ C Z
  refine g_aload_n C dX4_canComeTo_0 rfl 0 rfl ?_
  refine g_callU0 (As := []) (rv := some (.int (iI (bI (5 ≤ (S.2 1)))))) (w1 := wT E ad S) (kc' := 0) (ks' := 0) C "FloodWardens$Numbered" RX5 (k_X4_isFull_X5 l E ad S hS) mX4_isFull ⟨wd559, wd564, wd560⟩ rfl (by decide +kernel) wd558 7 4 rfl rfl rfl rfl rfl (Nat.le_of_ble_eq_true rfl) ⟨Nat.le_of_ble_eq_true rfl, Nat.le_of_ble_eq_true rfl⟩ ⟨Nat.le_of_ble_eq_true rfl, Nat.le_of_ble_eq_true rfl⟩ rfl rfl dX4_canComeTo_1 rfl ?_
  have n1 := bI_w (5 ≤ (S.2 1))
  refine g_if_ne C dX4_canComeTo_4 20 (by decide) rfl (by omega) (fun c4 => ?_) (fun c4 => ?_)
  · skip
    refine g_iconst C dX4_canComeTo_20 rfl ?_
    exact z_iret C Z (z_nar (by omega)) dX4_canComeTo_21 (by exact congrArg (fun z => some (Value.int (iI z))) (by first | (rw [bI_t (by omega)]) | (rw [bI_f (by omega)]))) rfl
  · skip
    refine g_aload_n C dX4_canComeTo_7 rfl 0 rfl ?_
    refine g_iload_n C dX4_canComeTo_8 rfl 1 rfl ?_
    refine g_callU0 (As := [.int (iI q)]) (rv := some (.int (iI (fstI (S.1 8) q ((S.2 1)).toNat)))) (w1 := wT E ad S) (kc' := 0) (ks' := 0) C "FloodWardens$Numbered" RX5 (k_X4_firstIn_X5 l E ad S q hS (by omega)) mX4_firstIn ⟨wd568, wd573, wd569⟩ rfl (by decide +kernel) wd567 7 4 rfl rfl rfl rfl rfl (Nat.le_of_ble_eq_true rfl) ⟨Nat.le_of_ble_eq_true rfl, Nat.le_of_ble_eq_true rfl⟩ ⟨Nat.le_of_ble_eq_true rfl, Nat.le_of_ble_eq_true rfl⟩ rfl rfl dX4_canComeTo_9 rfl ?_
    have n9 := fst_b (S.1 8) q ((S.2 1)).toNat
    have m9 := okT_i1 hS
    refine g_iconst C dX4_canComeTo_12 rfl ?_
    refine g_icmp_ne C dX4_canComeTo_13 20 (by decide) rfl (by omega) (by omega) (fun c13 => ?_) (fun c13 => ?_)
    · skip
      refine g_iconst C dX4_canComeTo_20 rfl ?_
      exact z_iret C Z (z_nar (by omega)) dX4_canComeTo_21 (by exact congrArg (fun z => some (Value.int (iI z))) (by first | (rw [bI_t (by omega)]) | (rw [bI_f (by omega)]))) rfl
    · skip
      refine g_iconst C dX4_canComeTo_16 rfl ?_
      refine g_goto C dX4_canComeTo_17 21 (by decide) ?_
      exact z_iret C Z (z_nar (by omega)) dX4_canComeTo_21 (by exact congrArg (fun z => some (Value.int (iI z))) (by first | (rw [bI_t (by omega)]) | (rw [bI_f (by omega)]))) rfl
set_option maxHeartbeats 4000000 in
set_option maxRecDepth 100000 in
theorem k_X4_canComeTo_X1 (l : Launch) (E : gE) (ad : Nat → Nat) (S : gS) (q : Int) (hS : okT S) (hq : 0 ≤ q ∧ q < 80) : gK l E yX4_canComeTo cX4_canComeTo 2 (some .boolean) r_X4_canComeTo [.ref (ad 13), .int (iI q)] (wT E ad S) (some (.int (iI (bI (S.2 2 < 4 ∧ fstI (S.1 14) q (S.2 2).toNat = -1))))) (wT E ad S) := by
  refine gK_by RX4 rfl mX4_canComeTo [(0, .ref (ad 13)), (1, .int (iI q))] (Nat.le_of_ble_eq_true rfl) rfl ?_
  intro zp ze zs zm za zb zh zc zA zQ C Z
  refine g_aload_n C dX4_canComeTo_0 rfl 0 rfl ?_
  refine g_callU0 (As := []) (rv := some (.int (iI (bI (4 ≤ (S.2 2)))))) (w1 := wT E ad S) (kc' := 0) (ks' := 0) C "FloodWardens$Numbered" RX1 (k_X4_isFull_X1 l E ad S hS) mX4_isFull ⟨wd559, wd562, wd560⟩ rfl (by decide +kernel) wd558 13 1 rfl rfl rfl rfl rfl (Nat.le_of_ble_eq_true rfl) ⟨Nat.le_of_ble_eq_true rfl, Nat.le_of_ble_eq_true rfl⟩ ⟨Nat.le_of_ble_eq_true rfl, Nat.le_of_ble_eq_true rfl⟩ rfl rfl dX4_canComeTo_1 rfl ?_
  have n1 := bI_w (4 ≤ (S.2 2))
  refine g_if_ne C dX4_canComeTo_4 20 (by decide) rfl (by omega) (fun c4 => ?_) (fun c4 => ?_)
  · skip
    refine g_iconst C dX4_canComeTo_20 rfl ?_
    exact z_iret C Z (z_nar (by omega)) dX4_canComeTo_21 (by exact congrArg (fun z => some (Value.int (iI z))) (by first | (rw [bI_t (by omega)]) | (rw [bI_f (by omega)]))) rfl
  · skip
    refine g_aload_n C dX4_canComeTo_7 rfl 0 rfl ?_
    refine g_iload_n C dX4_canComeTo_8 rfl 1 rfl ?_
    refine g_callU0 (As := [.int (iI q)]) (rv := some (.int (iI (fstI (S.1 14) q ((S.2 2)).toNat)))) (w1 := wT E ad S) (kc' := 0) (ks' := 0) C "FloodWardens$Numbered" RX1 (k_X4_firstIn_X1 l E ad S q hS (by omega)) mX4_firstIn ⟨wd568, wd571, wd569⟩ rfl (by decide +kernel) wd567 13 1 rfl rfl rfl rfl rfl (Nat.le_of_ble_eq_true rfl) ⟨Nat.le_of_ble_eq_true rfl, Nat.le_of_ble_eq_true rfl⟩ ⟨Nat.le_of_ble_eq_true rfl, Nat.le_of_ble_eq_true rfl⟩ rfl rfl dX4_canComeTo_9 rfl ?_
    have n9 := fst_b (S.1 14) q ((S.2 2)).toNat
    have m9 := okT_i2 hS
    refine g_iconst C dX4_canComeTo_12 rfl ?_
    refine g_icmp_ne C dX4_canComeTo_13 20 (by decide) rfl (by omega) (by omega) (fun c13 => ?_) (fun c13 => ?_)
    · skip
      refine g_iconst C dX4_canComeTo_20 rfl ?_
      exact z_iret C Z (z_nar (by omega)) dX4_canComeTo_21 (by exact congrArg (fun z => some (Value.int (iI z))) (by first | (rw [bI_t (by omega)]) | (rw [bI_f (by omega)]))) rfl
    · skip
      refine g_iconst C dX4_canComeTo_16 rfl ?_
      refine g_goto C dX4_canComeTo_17 21 (by decide) ?_
      exact z_iret C Z (z_nar (by omega)) dX4_canComeTo_21 (by exact congrArg (fun z => some (Value.int (iI z))) (by first | (rw [bI_t (by omega)]) | (rw [bI_f (by omega)]))) rfl
set_option maxHeartbeats 4000000 in
set_option maxRecDepth 100000 in
theorem k_X4_canComeTo_X6 (l : Launch) (E : gE) (ad : Nat → Nat) (S : gS) (q : Int) (hS : okT S) (hq : 0 ≤ q ∧ q < 80) : gK l E yX4_canComeTo cX4_canComeTo 2 (some .boolean) r_X4_canComeTo [.ref (ad 16), .int (iI q)] (wT E ad S) (some (.int (iI (bI (S.2 3 < 4 ∧ fstI (S.1 17) q (S.2 3).toNat = -1))))) (wT E ad S) := by
  refine gK_by RX4 rfl mX4_canComeTo [(0, .ref (ad 16)), (1, .int (iI q))] (Nat.le_of_ble_eq_true rfl) rfl ?_
  intro zp ze zs zm za zb zh zc zA zQ C Z
  refine g_aload_n C dX4_canComeTo_0 rfl 0 rfl ?_
  refine g_callU0 (As := []) (rv := some (.int (iI (bI (4 ≤ (S.2 3)))))) (w1 := wT E ad S) (kc' := 0) (ks' := 0) C "FloodWardens$Numbered" RX6 (k_X4_isFull_X6 l E ad S hS) mX4_isFull ⟨wd559, wd565, wd560⟩ rfl (by decide +kernel) wd558 16 5 rfl rfl rfl rfl rfl (Nat.le_of_ble_eq_true rfl) ⟨Nat.le_of_ble_eq_true rfl, Nat.le_of_ble_eq_true rfl⟩ ⟨Nat.le_of_ble_eq_true rfl, Nat.le_of_ble_eq_true rfl⟩ rfl rfl dX4_canComeTo_1 rfl ?_
  have n1 := bI_w (4 ≤ (S.2 3))
  refine g_if_ne C dX4_canComeTo_4 20 (by decide) rfl (by omega) (fun c4 => ?_) (fun c4 => ?_)
  · skip
    refine g_iconst C dX4_canComeTo_20 rfl ?_
    exact z_iret C Z (z_nar (by omega)) dX4_canComeTo_21 (by exact congrArg (fun z => some (Value.int (iI z))) (by first | (rw [bI_t (by omega)]) | (rw [bI_f (by omega)]))) rfl
  · skip
    refine g_aload_n C dX4_canComeTo_7 rfl 0 rfl ?_
    refine g_iload_n C dX4_canComeTo_8 rfl 1 rfl ?_
    refine g_callU0 (As := [.int (iI q)]) (rv := some (.int (iI (fstI (S.1 17) q ((S.2 3)).toNat)))) (w1 := wT E ad S) (kc' := 0) (ks' := 0) C "FloodWardens$Numbered" RX6 (k_X4_firstIn_X6 l E ad S q hS (by omega)) mX4_firstIn ⟨wd568, wd574, wd569⟩ rfl (by decide +kernel) wd567 16 5 rfl rfl rfl rfl rfl (Nat.le_of_ble_eq_true rfl) ⟨Nat.le_of_ble_eq_true rfl, Nat.le_of_ble_eq_true rfl⟩ ⟨Nat.le_of_ble_eq_true rfl, Nat.le_of_ble_eq_true rfl⟩ rfl rfl dX4_canComeTo_9 rfl ?_
    have n9 := fst_b (S.1 17) q ((S.2 3)).toNat
    have m9 := okT_i3 hS
    refine g_iconst C dX4_canComeTo_12 rfl ?_
    refine g_icmp_ne C dX4_canComeTo_13 20 (by decide) rfl (by omega) (by omega) (fun c13 => ?_) (fun c13 => ?_)
    · skip
      refine g_iconst C dX4_canComeTo_20 rfl ?_
      exact z_iret C Z (z_nar (by omega)) dX4_canComeTo_21 (by exact congrArg (fun z => some (Value.int (iI z))) (by first | (rw [bI_t (by omega)]) | (rw [bI_f (by omega)]))) rfl
    · skip
      refine g_iconst C dX4_canComeTo_16 rfl ?_
      refine g_goto C dX4_canComeTo_17 21 (by decide) ?_
      exact z_iret C Z (z_nar (by omega)) dX4_canComeTo_21 (by exact congrArg (fun z => some (Value.int (iI z))) (by first | (rw [bI_t (by omega)]) | (rw [bI_f (by omega)]))) rfl
