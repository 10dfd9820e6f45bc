abbrev r_X11_first : Room := { frames := 3, cells := 0, slots := 0, locals := 66 }
set_option maxHeartbeats 4000000 in
set_option maxRecDepth 100000 in
theorem k_X11_first (l : Launch) (E : gE) (am : Nat → Nat) (ss sa : Nat) (M : gS) (c : Int) (hM : okM M) (hc : 0 ≤ c ∧ c < 80) : gK l E yX11_first cX11_first 5 (some .int) r_X11_first [.ref (am 0), .int (iI c)] (wM E am ss sa M) (some (.int (iI (firI (M.1 2) c)))) (wM E am ss sa M) := by
  refine gK_by RX11 rfl mX11_first [(0, .ref (am 0)), (1, .int (iI c))] (Nat.le_of_ble_eq_true rfl) rfl ?_
  intro zp ze zs zm za zb zh zc zA zQ C Z
  refine g_iconst C dX11_first_0 rfl ?_
  refine g_istore_n (lv' := [(2, .int (iI (-1))), (0, .ref (am 0)), (1, .int (iI c))]) C dX11_first_1 rfl (by decide) rfl ?_
  refine g_iconst C dX11_first_2 rfl ?_
  refine g_istore_n (lv' := [(3, .int (iI (0))), (2, .int (iI (-1))), (0, .ref (am 0)), (1, .int (iI c))]) C dX11_first_3 rfl (by decide) rfl ?_
  have L4 : ∀ k9 : Nat, k9 ≤ 4 → gG E zp l ze r_X11_first zs zm za zb zh zc zA 5 0 0 zQ (wM E am ss sa M) 4 [(3, .int (iI (k9 : Int))), (2, .int (iI (itr (firB (M.1 2) c) (-1) k9))), (0, .ref (am 0)), (1, .int (iI c))] [] := by
    refine g_up (4) _ ?_
    intro k9 ih4 hk4
    have iv4_0 := fir_b (f := M.1 2) (c := c) k9
    obtain ⟨x, hx4⟩ : ∃ z, z = itr (firB (M.1 2) c) (-1) k9 := ⟨_, rfl⟩
    rw [← hx4]
    rw [← hx4] at iv4_0
    refine g_iload_n C dX11_first_4 rfl 0 rfl ?_
    refine g_iconst C dX11_first_5 rfl ?_
    refine g_icmp_ge C dX11_first_6 69 (by decide) rfl (by omega) (by omega) (fun c6 => ?_) (fun c6 => ?_)
    · skip
      have hz4 : x = firI (M.1 2) c := by rw [hx4, show k9 = 4 from by omega] <;> rfl
      refine g_iload_n C dX11_first_69 rfl 1 rfl ?_
      exact z_iret C Z rfl dX11_first_70 (by exact congrArg (fun z => some (Value.int (iI z))) (hz4.symm)) rfl
    · skip
      refine g_iload_n C dX11_first_9 rfl 3 rfl ?_
      refine g_iload_n C dX11_first_10 rfl 0 rfl ?_
      refine g_callS1 (As := [.int (iI c), .int (iI (k9 : Int))]) (rv := some (.int (iI (nbr c (k9 : Int))))) (kc' := 0) (ks' := 0) C (k_X11_beside l E c (k9 : Int) (by omega) (by omega)) mX11_beside wd1111 wd1110 rfl rfl (Nat.le_of_ble_eq_true rfl) ⟨Nat.le_of_ble_eq_true rfl, Nat.le_of_ble_eq_true rfl⟩ ⟨Nat.le_of_ble_eq_true rfl, Nat.le_of_ble_eq_true rfl⟩ rfl rfl dX11_first_11 rfl ?_
      have n11 := nbr_b (k := c) (d := (k9 : Int)) (by omega)
      refine g_istore (lv' := [(4, .int (iI (nbr c (k9 : Int)))), (3, .int (iI (k9 : Int))), (2, .int (iI x)), (0, .ref (am 0)), (1, .int (iI c))]) C dX11_first_14 rfl (by decide) rfl ?_
      refine g_iload C dX11_first_16 rfl 0 rfl ?_
      refine g_iconst C dX11_first_18 rfl ?_
      refine g_icmp_eq C dX11_first_19 63 (by decide) rfl (by omega) (by omega) (fun c19 => ?_) (fun c19 => ?_)
      · skip
        refine g_iinc (lv' := [(3, .int (iI ((k9 : Int) + 1))), (4, .int (iI (nbr c (k9 : Int)))), (2, .int (iI x)), (0, .ref (am 0)), (1, .int (iI c))]) C dX11_first_63 rfl 1 rfl (by decide) rfl ?_
        refine g_goto C dX11_first_66 4 (by decide) ?_
        have e4 : (firB (M.1 2) c) k9 x = x := by
          unfold firB
          first | (rw [if_pos (by omega)]) | (rw [if_neg (by omega)])
        have i4 := ih4 (by omega)
        rw [show itr (firB (M.1 2) c) (-1) (k9 + 1) = x from by rw [← e4, hx4]; rfl] at i4
        exact g_to [0, 2, 3, 4] (i4) rfl rfl rfl
      · skip
        refine g_aload_n C dX11_first_22 rfl 3 rfl ?_
        refine g_get (v := .ref (am 2)) (T := TX11) (N := 13) (ci := 10) C in_X11 0 rfl rfl 7 (by decide) wd941 (Or.inl rfl) rfl dX11_first_23 rfl ?_
        refine g_iload C dX11_first_26 rfl 0 rfl ?_
        refine g_iald (f := (M.1 2)) C dX11_first_28 rfl 2 rfl (by omega) (by decide) ?_
        have b28 := okM_2 hM (nbr c (k9 : Int))
        refine g_iconst C dX11_first_29 rfl ?_
        refine g_icmp_ne C dX11_first_30 36 (by decide) rfl (by omega) (by omega) (fun c30 => ?_) (fun c30 => ?_)
        · skip
          refine g_iload_n C dX11_first_36 rfl 2 rfl ?_
          refine g_iconst C dX11_first_37 rfl ?_
          refine g_icmp_eq C dX11_first_38 61 (by decide) rfl (by omega) (by omega) (fun c38 => ?_) (fun c38 => ?_)
          · skip
            refine g_iload_n C dX11_first_61 rfl 1 rfl ?_
            refine g_istore_n (lv' := [(2, .int (iI (k9 : Int))), (4, .int (iI (nbr c (k9 : Int)))), (3, .int (iI (k9 : Int))), (0, .ref (am 0)), (1, .int (iI c))]) C dX11_first_62 rfl (by decide) rfl ?_
            refine g_iinc (lv' := [(3, .int (iI ((k9 : Int) + 1))), (2, .int (iI (k9 : Int))), (4, .int (iI (nbr c (k9 : Int)))), (0, .ref (am 0)), (1, .int (iI c))]) C dX11_first_63 rfl 2 rfl (by decide) rfl ?_
            refine g_goto C dX11_first_66 4 (by decide) ?_
            have e4 : (firB (M.1 2) c) k9 x = (k9 : Int) := by
              unfold firB
              first | (rw [if_pos (by omega)]) | (rw [if_neg (by omega)])
            have i4 := ih4 (by omega)
            rw [show itr (firB (M.1 2) c) (-1) (k9 + 1) = (k9 : Int) from by rw [← e4, hx4]; rfl] at i4
            exact g_to [0, 1, 3, 4] (i4) rfl rfl rfl
          · skip
            refine g_aload_n C dX11_first_41 rfl 3 rfl ?_
            refine g_get (v := .ref (am 2)) (T := TX11) (N := 13) (ci := 10) C in_X11 0 rfl rfl 7 (by decide) wd941 (Or.inl rfl) rfl dX11_first_42 rfl ?_
            refine g_iload C dX11_first_45 rfl 0 rfl ?_
            refine g_iald (f := (M.1 2)) C dX11_first_47 rfl 2 rfl (by omega) (by decide) ?_
            have b47 := okM_2 hM (nbr c (k9 : Int))
            refine g_aload_n C dX11_first_48 rfl 3 rfl ?_
            refine g_get (v := .ref (am 2)) (T := TX11) (N := 13) (ci := 10) C in_X11 0 rfl rfl 7 (by decide) wd941 (Or.inl rfl) rfl dX11_first_49 rfl ?_
            refine g_iload_n C dX11_first_52 rfl 4 rfl ?_
            refine g_iload_n C dX11_first_53 rfl 2 rfl ?_
            refine g_callS1 (As := [.int (iI c), .int (iI x)]) (rv := some (.int (iI (nbr c x)))) (kc' := 0) (ks' := 0) C (k_X11_beside l E c x (by omega) (by omega)) mX11_beside wd1111 wd1110 rfl rfl (Nat.le_of_ble_eq_true rfl) ⟨Nat.le_of_ble_eq_true rfl, Nat.le_of_ble_eq_true rfl⟩ ⟨Nat.le_of_ble_eq_true rfl, Nat.le_of_ble_eq_true rfl⟩ rfl rfl dX11_first_54 rfl ?_
            have n54 := nbr_b (k := c) (d := x) (by omega)
            refine g_iald (f := (M.1 2)) C dX11_first_57 rfl 2 rfl (by omega) (by decide) ?_
            have b57 := okM_2 hM (nbr c x)
            refine g_icmp_ge C dX11_first_58 63 (by decide) rfl (by omega) (by omega) (fun c58 => ?_) (fun c58 => ?_)
            · skip
              refine g_iinc (lv' := [(3, .int (iI ((k9 : Int) + 1))), (4, .int (iI (nbr c (k9 : Int)))), (2, .int (iI x)), (0, .ref (am 0)), (1, .int (iI c))]) C dX11_first_63 rfl 1 rfl (by decide) rfl ?_
              refine g_goto C dX11_first_66 4 (by decide) ?_
              have e4 : (firB (M.1 2) c) k9 x = x := by
                unfold firB
                first | (rw [if_pos (by omega)]) | (rw [if_neg (by omega)])
              have i4 := ih4 (by omega)
              rw [show itr (firB (M.1 2) c) (-1) (k9 + 1) = x from by rw [← e4, hx4]; rfl] at i4
              exact g_to [0, 2, 3, 4] (i4) rfl rfl rfl
            · skip
              refine g_iload_n C dX11_first_61 rfl 1 rfl ?_
              refine g_istore_n (lv' := [(2, .int (iI (k9 : Int))), (4, .int (iI (nbr c (k9 : Int)))), (3, .int (iI (k9 : Int))), (0, .ref (am 0)), (1, .int (iI c))]) C dX11_first_62 rfl (by decide) rfl ?_
              refine g_iinc (lv' := [(3, .int (iI ((k9 : Int) + 1))), (2, .int (iI (k9 : Int))), (4, .int (iI (nbr c (k9 : Int)))), (0, .ref (am 0)), (1, .int (iI c))]) C dX11_first_63 rfl 2 rfl (by decide) rfl ?_
              refine g_goto C dX11_first_66 4 (by decide) ?_
              have e4 : (firB (M.1 2) c) k9 x = (k9 : Int) := by
                unfold firB
                first | (rw [if_pos (by omega)]) | (rw [if_neg (by omega)])
              have i4 := ih4 (by omega)
              rw [show itr (firB (M.1 2) c) (-1) (k9 + 1) = (k9 : Int) from by rw [← e4, hx4]; rfl] at i4
              exact g_to [0, 1, 3, 4] (i4) rfl rfl rfl
        · skip
          refine g_goto C dX11_first_33 63 (by decide) ?_
          refine g_iinc (lv' := [(3, .int (iI ((k9 : Int) + 1))), (4, .int (iI (nbr c (k9 : Int)))), (2, .int (iI x)), (0, .ref (am 0)), (1, .int (iI c))]) C dX11_first_63 rfl 1 rfl (by decide) rfl ?_
          refine g_goto C dX11_first_66 4 (by decide) ?_
          have e4 : (firB (M.1 2) c) k9 x = x := by
            unfold firB
            first | (rw [if_pos (by omega)]) | (rw [if_neg (by omega)])
          have i4 := ih4 (by omega)
          rw [show itr (firB (M.1 2) c) (-1) (k9 + 1) = x from by rw [← e4, hx4]; rfl] at i4
          exact g_to [0, 2, 3, 4] (i4) rfl rfl rfl
  refine g_to [0, 1, 2, 3] (L4 0 (by omega)) rfl rfl rfl
abbrev r_X11_steps : Room := { frames := 4, cells := 0, slots := 0, locals := 92 }
set_option maxHeartbeats 4000000 in
set_option maxRecDepth 100000 in
theorem k_X11_steps (l : Launch) (E : gE) (am : Nat → Nat) (ss sa : Nat) (M : gS) (ad : Nat → Nat) (S : gS) (a b : Int) (hM : okM M) (hS : okS S) (ha : 0 ≤ a ∧ a < 80) (hb : 0 ≤ b ∧ b < 80) : gK l E yX11_steps cX11_steps 5 (some .int) r_X11_steps [.ref (am 0), .ref (ad 0), .int (iI a), .int (iI b)] (wM E am ss sa M ++ (wS E ad S)) (some (.int (iI (dst (S.1 3) a b)))) (wM E am ss sa (stpM M S a b) ++ (wS E ad S)) := by
  refine gK_by RX11 rfl mX11_steps [(0, .ref (am 0)), (1, .ref (ad 0)), (2, .int (iI a)), (3, .int (iI b))] (Nat.le_of_ble_eq_true rfl) rfl ?_
  intro zp ze zs zm za zb zh zc zA zQ C Z
  refine g_iload_n C dX11_steps_0 rfl 2 rfl ?_
  refine g_iload_n C dX11_steps_1 rfl 3 rfl ?_
  refine g_icmp_ne C dX11_steps_2 7 (by decide) rfl (by omega) (by omega) (fun c2 => ?_) (fun c2 => ?_)
  · skip
    refine g_aload_n C dX11_steps_7 rfl 0 rfl ?_
    refine g_aload_n C dX11_steps_8 rfl 1 rfl ?_
    refine g_iload_n C dX11_steps_9 rfl 3 rfl ?_
    refine g_callV0 (As := [.ref (ad 0), .int (iI b)]) (rv := none) (w1 := wM E am ss sa (reckM M S b) ++ (wS E ad S)) (kc' := 0) (ks' := 0) C (k_X11_reckon l E am ss sa M ad S b hM hS (by omega)) mX11_reckon iX11_reckon wd1106 0 10 rfl rfl rfl rfl rfl (Nat.le_of_ble_eq_true rfl) ⟨Nat.le_of_ble_eq_true rfl, Nat.le_of_ble_eq_true rfl⟩ ⟨Nat.le_of_ble_eq_true rfl, Nat.le_of_ble_eq_true rfl⟩ rfl rfl dX11_steps_10 rfl ?_
    refine g_aload_n C dX11_steps_13 rfl 0 rfl ?_
    have hq := firI_b ((reckM M S b).1 2) a
    refine g_iload_n C dX11_steps_14 rfl 2 rfl ?_
    refine g_callVf (As := [.int (iI a)]) (rv := some (.int (iI (firI ((reckM M S b).1 2) a)))) (w1 := wM E am ss sa (reckM M S b)) (kc' := 0) (ks' := 0) C (wS E ad S) (k_X11_first l E am ss sa (reckM M S b) a (okM_reck (S := S) (c := b) hM (by omega)) (by omega)) mX11_first iX11_first wd1113 0 10 rfl rfl rfl rfl rfl (Nat.le_of_ble_eq_true rfl) ⟨Nat.le_of_ble_eq_true rfl, Nat.le_of_ble_eq_true rfl⟩ ⟨Nat.le_of_ble_eq_true rfl, Nat.le_of_ble_eq_true rfl⟩ rfl rfl rfl dX11_steps_15 rfl ?_
    have n15 := firI_b ((reckM M S b).1 2) a
    refine g_istore (lv' := [(4, .int (iI (firI ((reckM M S b).1 2) a))), (0, .ref (am 0)), (1, .ref (ad 0)), (2, .int (iI a)), (3, .int (iI b))]) C dX11_steps_18 rfl (by decide) rfl ?_
    refine g_iload C dX11_steps_20 rfl 0 rfl ?_
    refine g_iconst C dX11_steps_22 rfl ?_
    refine g_icmp_ne C dX11_steps_23 30 (by decide) rfl (by omega) (by omega) (fun c23 => ?_) (fun c23 => ?_)
    · skip
      refine g_aload_n C dX11_steps_30 rfl 1 rfl ?_
      refine g_get (v := .ref (am 2)) (T := TX11) (N := 13) (ci := 10) C in_X11 0 rfl rfl 7 (by decide) wd941 (Or.inl rfl) rfl dX11_steps_31 rfl ?_
      refine g_iload_n C dX11_steps_34 rfl 3 rfl ?_
      refine g_iload C dX11_steps_35 rfl 0 rfl ?_
      refine g_callS1 (As := [.int (iI a), .int (iI (firI ((reckM M S b).1 2) a))]) (rv := some (.int (iI (nbr a (firI ((reckM M S b).1 2) a))))) (kc' := 0) (ks' := 0) C (k_X11_beside l E a (firI ((reckM M S b).1 2) a) (by omega) (by omega)) mX11_beside wd1111 wd1110 rfl rfl (Nat.le_of_ble_eq_true rfl) ⟨Nat.le_of_ble_eq_true rfl, Nat.le_of_ble_eq_true rfl⟩ ⟨Nat.le_of_ble_eq_true rfl, Nat.le_of_ble_eq_true rfl⟩ rfl rfl dX11_steps_37 rfl ?_
      have n37 := nbr_b (k := a) (d := (firI ((reckM M S b).1 2) a)) (by omega)
      refine g_iald (f := ((reckM M S b).1 2)) C dX11_steps_40 rfl 2 rfl (by omega) (by decide) ?_
      have b40 := okM_2 (okM_reck (S := S) (c := b) hM (by omega)) (nbr a (firI ((reckM M S b).1 2) a))
      refine g_iconst C dX11_steps_41 rfl ?_
      refine g_iadd C dX11_steps_42 rfl ?_
      exact z_iret C Z rfl dX11_steps_43 (by exact congrArg (fun z => some (Value.int (iI z))) (by rw [← stpV_dst hM ha hb]; unfold stpV; first | (rw [if_pos (by omega)]) | (rw [if_neg (by omega), if_pos (by omega)]) | (rw [if_neg (by omega), if_neg (by omega)]))) (by unfold stpM; first | (rw [if_pos (by omega)]) | (rw [if_neg (by omega)]))
    · skip
      refine g_iconst C dX11_steps_26 rfl ?_
      refine g_goto C dX11_steps_27 43 (by decide) ?_
      exact z_iret C Z rfl dX11_steps_43 (by exact congrArg (fun z => some (Value.int (iI z))) (by rw [← stpV_dst hM ha hb]; unfold stpV; first | (rw [if_pos (by omega)]) | (rw [if_neg (by omega), if_pos (by omega)]) | (rw [if_neg (by omega), if_neg (by omega)]))) (by unfold stpM; first | (rw [if_pos (by omega)]) | (rw [if_neg (by omega)]))
  · skip
    refine g_iconst C dX11_steps_5 rfl ?_
    exact z_iret C Z rfl dX11_steps_6 (by exact congrArg (fun z => some (Value.int (iI z))) (by rw [← stpV_dst hM ha hb]; unfold stpV; first | (rw [if_pos (by omega)]) | (rw [if_neg (by omega), if_pos (by omega)]) | (rw [if_neg (by omega), if_neg (by omega)]))) (by unfold stpM; first | (rw [if_pos (by omega)]) | (rw [if_neg (by omega)]))
abbrev r_X11_step : Room := { frames := 4, cells := 0, slots := 0, locals := 92 }
set_option maxHeartbeats 4000000 in
set_option maxRecDepth 100000 in
theorem k_X11_step (l : Launch) (E : gE) (am : Nat → Nat) (ss sa : Nat) (M : gS) (ad : Nat → Nat) (S : gS) (a b : Int) (hM : okM M) (hS : okS S) (ha : 0 ≤ a ∧ a < 80) (hb : 0 ≤ b ∧ b < 80) (hd : a = b ∨ dst (S.1 3) a b ≠ -1) : gK l E yX11_step cX11_step 4 (some .int) r_X11_step [.ref (am 0), .ref (ad 0), .int (iI a), .int (iI b)] (wM E am ss sa M ++ (wS E ad S)) (some (.int (iI (dsC (S.1 3) a b)))) (wM E am ss sa (stpM M S a b) ++ (wS E ad S)) := by
  refine gK_by RX11 rfl mX11_step [(0, .ref (am 0)), (1, .ref (ad 0)), (2, .int (iI a)), (3, .int (iI b))] (Nat.le_of_ble_eq_true rfl) rfl ?_
  intro zp ze zs zm za zb zh zc zA zQ C Z
  refine g_iload_n C dX11_step_0 rfl 2 rfl ?_
  refine g_iload_n C dX11_step_1 rfl 3 rfl ?_
  refine g_icmp_ne C dX11_step_2 7 (by decide) rfl (by omega) (by omega) (fun c2 => ?_) (fun c2 => ?_)
  · skip
    refine g_aload_n C dX11_step_7 rfl 0 rfl ?_
    refine g_aload_n C dX11_step_8 rfl 1 rfl ?_
    refine g_iload_n C dX11_step_9 rfl 3 rfl ?_
    refine g_callV0 (As := [.ref (ad 0), .int (iI b)]) (rv := none) (w1 := wM E am ss sa (reckM M S b) ++ (wS E ad S)) (kc' := 0) (ks' := 0) C (k_X11_reckon l E am ss sa M ad S b hM hS (by omega)) mX11_reckon iX11_reckon wd1106 0 10 rfl rfl rfl rfl rfl (Nat.le_of_ble_eq_true rfl) ⟨Nat.le_of_ble_eq_true rfl, Nat.le_of_ble_eq_true rfl⟩ ⟨Nat.le_of_ble_eq_true rfl, Nat.le_of_ble_eq_true rfl⟩ rfl rfl dX11_step_10 rfl ?_
    refine g_iload_n C dX11_step_13 rfl 2 rfl ?_
    have hq := firI_b ((reckM M S b).1 2) a
    have hr := fir_ne (M := M) hM ha hb (by omega) hd
    refine g_aload_n C dX11_step_14 rfl 0 rfl ?_
    refine g_iload_n C dX11_step_15 rfl 2 rfl ?_
    refine g_callVf (As := [.int (iI a)]) (rv := some (.int (iI (firI ((reckM M S b).1 2) a)))) (w1 := wM E am ss sa (reckM M S b)) (kc' := 0) (ks' := 0) C (wS E ad S) (k_X11_first l E am ss sa (reckM M S b) a (okM_reck (S := S) (c := b) hM (by omega)) (by omega)) mX11_first iX11_first wd1113 0 10 rfl rfl rfl rfl rfl (Nat.le_of_ble_eq_true rfl) ⟨Nat.le_of_ble_eq_true rfl, Nat.le_of_ble_eq_true rfl⟩ ⟨Nat.le_of_ble_eq_true rfl, Nat.le_of_ble_eq_true rfl⟩ rfl rfl rfl dX11_step_16 rfl ?_
    have n16 := firI_b ((reckM M S b).1 2) a
    refine g_callS1 (As := [.int (iI a), .int (iI (firI ((reckM M S b).1 2) a))]) (rv := some (.int (iI (nbr a (firI ((reckM M S b).1 2) a))))) (kc' := 0) (ks' := 0) C (k_X11_beside l E a (firI ((reckM M S b).1 2) a) (by omega) (by omega)) mX11_beside wd1111 wd1110 rfl rfl (Nat.le_of_ble_eq_true rfl) ⟨Nat.le_of_ble_eq_true rfl, Nat.le_of_ble_eq_true rfl⟩ ⟨Nat.le_of_ble_eq_true rfl, Nat.le_of_ble_eq_true rfl⟩ rfl rfl dX11_step_19 rfl ?_
    have n19 := nbr_b (k := a) (d := (firI ((reckM M S b).1 2) a)) (by omega)
    exact z_iret C Z rfl dX11_step_22 (by exact congrArg (fun z => some (Value.int (iI z))) (by unfold dsC; first | (rw [if_pos (by omega)]; assumption) | (rw [if_pos (by omega)]) | (rw [if_neg (by omega), firI_M hM ha hb]))) (by unfold stpM; first | (rw [if_pos (by omega)]) | (rw [if_neg (by omega)]))
  · skip
    refine g_iload_n C dX11_step_5 rfl 2 rfl ?_
    exact z_iret C Z rfl dX11_step_6 (by exact congrArg (fun z => some (Value.int (iI z))) (by unfold dsC; first | (rw [if_pos (by omega)]; assumption) | (rw [if_pos (by omega)]) | (rw [if_neg (by omega), firI_M hM ha hb]))) (by unfold stpM; first | (rw [if_pos (by omega)]) | (rw [if_neg (by omega)]))
abbrev r_X11_rings : Room := { frames := 0, cells := 0, slots := 0, locals := 0 }
set_option maxHeartbeats 4000000 in
set_option maxRecDepth 100000 in
theorem k_X11_rings (l : Launch) (E : gE) (am : Nat → Nat) (ss sa : Nat) (M : gS) (ad : Nat → Nat) (S : gS) (k : Int) (hM : okM M) (hS : okS S) (hk : 0 ≤ k ∧ k < 4) : gK l E yX11_rings cX11_rings 3 (some .boolean) r_X11_rings [.ref (am 0), .ref (ad 0), .int (iI k)] (wM E am ss sa M ++ (wS E ad S)) (some (.int (iI (bI (S.1 5 (2 * k + 1) ≤ S.1 3 (S.1 5 (2 * k))))))) (wM E am ss sa M ++ (wS E ad S)) := by
  refine gK_by RX11 rfl mX11_rings [(0, .ref (am 0)), (1, .ref (ad 0)), (2, .int (iI k))] (Nat.le_of_ble_eq_true rfl) rfl ?_
  intro zp ze zs zm za zb zh zc zA zQ C Z
  refine g_aload_n C dX11_rings_0 rfl 1 rfl ?_
  refine g_getN (v := .ref (ad 3)) (T := TX10) (N := 10) (ci := 9) C rfl in_X10 6 rfl rfl 4 (by decide) (by decide +kernel) rfl rfl dX11_rings_1 rfl ?_
  refine g_aload_n C dX11_rings_4 rfl 1 rfl ?_
  refine g_getN (v := .ref (ad 5)) (T := TX10) (N := 10) (ci := 9) C rfl in_X10 6 rfl rfl 6 (by decide) (by decide +kernel) rfl rfl dX11_rings_5 rfl ?_
  refine g_iconst C dX11_rings_8 rfl ?_
  refine g_iload_n C dX11_rings_9 rfl 2 rfl ?_
  refine g_imul C dX11_rings_10 rfl ?_
  refine g_iald (f := (S.1 5)) C dX11_rings_11 rfl 11 rfl (by omega) (by decide) ?_
  have b11 := okS_50 hS k
  refine g_iald (f := (S.1 3)) C dX11_rings_12 rfl 9 rfl (by omega) (by decide) ?_
  have b12 := okS_3 hS ((S.1 5) ((2) * k))
  refine g_aload_n C dX11_rings_13 rfl 1 rfl ?_
  refine g_getN (v := .ref (ad 5)) (T := TX10) (N := 10) (ci := 9) C rfl in_X10 6 rfl rfl 6 (by decide) (by decide +kernel) rfl rfl dX11_rings_14 rfl ?_
  refine g_iconst C dX11_rings_17 rfl ?_
  refine g_iload_n C dX11_rings_18 rfl 2 rfl ?_
  refine g_imul C dX11_rings_19 rfl ?_
  refine g_iconst C dX11_rings_20 rfl ?_
  refine g_iadd C dX11_rings_21 rfl ?_
  refine g_iald (f := (S.1 5)) C dX11_rings_22 rfl 11 rfl (by omega) (by decide) ?_
  have b22 := okS_51 hS k
  refine g_icmp_lt C dX11_rings_23 30 (by decide) rfl (by omega) (by omega) (fun c23 => ?_) (fun c23 => ?_)
  · skip
    refine g_iconst C dX11_rings_30 rfl ?_
    exact z_iret C Z (z_nar (by omega)) dX11_rings_31 (by exact congrArg (fun z => some (Value.int (iI z))) (by first | (rw [bI_t (by omega)]) | (rw [bI_f (by omega)]))) rfl
  · skip
    refine g_iconst C dX11_rings_26 rfl ?_
    refine g_goto C dX11_rings_27 31 (by decide) ?_
    exact z_iret C Z (z_nar (by omega)) dX11_rings_31 (by exact congrArg (fun z => some (Value.int (iI z))) (by first | (rw [bI_t (by omega)]) | (rw [bI_f (by omega)]))) rfl
abbrev r_X11_ringing : Room := { frames := 1, cells := 0, slots := 0, locals := 22 }
set_option maxHeartbeats 4000000 in
set_option maxRecDepth 100000 in
theorem k_X11_ringing (l : Launch) (E : gE) (am : Nat → Nat) (ss sa : Nat) (M : gS) (ad : Nat → Nat) (S : gS) (hM : okM M) (hS : okS S) : gK l E yX11_ringing cX11_ringing 4 (some .int) r_X11_ringing [.ref (am 0), .ref (ad 0)] (wM E am ss sa M ++ (wS E ad S)) (some (.int (iI (mRing M S)))) (wM E am ss sa M ++ (wS E ad S)) := by
  refine gK_by RX11 rfl mX11_ringing [(0, .ref (am 0)), (1, .ref (ad 0))] (Nat.le_of_ble_eq_true rfl) rfl ?_
  intro zp ze zs zm za zb zh zc zA zQ C Z
  refine g_iconst C dX11_ringing_0 rfl ?_
  refine g_istore_n (lv' := [(2, .int (iI (0))), (0, .ref (am 0)), (1, .ref (ad 0))]) C dX11_ringing_1 rfl (by decide) rfl ?_
  refine g_iconst C dX11_ringing_2 rfl ?_
  refine g_istore_n (lv' := [(3, .int (iI (0))), (2, .int (iI (0))), (0, .ref (am 0)), (1, .ref (ad 0))]) C dX11_ringing_3 rfl (by decide) rfl ?_
  have L4 : ∀ k9 : Nat, k9 ≤ (M.2 2).toNat → gG E zp l ze r_X11_ringing zs zm za zb zh zc zA 4 0 0 zQ (wM E am ss sa M ++ (wS E ad S)) 4 [(3, .int (iI (k9 : Int))), (2, .int (iI (itr (ringB (S.1 3) (fun k => S.1 5 (2 * k)) (fun k => S.1 5 (2 * k + 1))) 0 k9))), (0, .ref (am 0)), (1, .ref (ad 0))] [] := by
    refine g_up ((M.2 2).toNat) _ ?_
    intro k9 ih4 hk4
    obtain ⟨x, hx4⟩ : ∃ z, z = itr (ringB (S.1 3) (fun k => S.1 5 (2 * k)) (fun k => S.1 5 (2 * k + 1))) 0 k9 := ⟨_, rfl⟩
    rw [← hx4]
    have ff := okM_i2 hM
    refine g_iload_n C dX11_ringing_4 rfl 0 rfl ?_
    refine g_aload_n C dX11_ringing_5 rfl 2 rfl ?_
    refine g_get (v := .int (iI (M.2 2))) (T := TX11) (N := 13) (ci := 10) C in_X11 0 rfl rfl 3 (by decide) wd937 (Or.inl rfl) rfl dX11_ringing_6 rfl ?_
    have f6 := okM_i2 hM
    refine g_icmp_ge C dX11_ringing_9 35 (by decide) rfl (by omega) (by omega) (fun c9 => ?_) (fun c9 => ?_)
    · skip
      have hz4 : x = mRing M S := by rw [hx4, show k9 = (M.2 2).toNat from by omega] <;> rfl
      refine g_iload_n C dX11_ringing_35 rfl 1 rfl ?_
      exact z_iret C Z rfl dX11_ringing_36 (by exact congrArg (fun z => some (Value.int (iI z))) (hz4.symm)) rfl
    · skip
      refine g_iload_n C dX11_ringing_12 rfl 1 rfl ?_
      refine g_aload_n C dX11_ringing_13 rfl 2 rfl ?_
      refine g_aload_n C dX11_ringing_14 rfl 3 rfl ?_
      refine g_iload_n C dX11_ringing_15 rfl 0 rfl ?_
      refine g_callV0 (As := [.ref (ad 0), .int (iI (k9 : Int))]) (rv := some (.int (iI (bI ((S.1 5) (2 * (k9 : Int) + 1) ≤ (S.1 3) ((S.1 5) (2 * (k9 : Int)))))))) (w1 := wM E am ss sa M ++ (wS E ad S)) (kc' := 0) (ks' := 0) C (k_X11_rings l E am ss sa M ad S (k9 : Int) hM hS (by omega)) mX11_rings iX11_rings wd1066 0 10 rfl rfl rfl rfl rfl (Nat.le_of_ble_eq_true rfl) ⟨Nat.le_of_ble_eq_true rfl, Nat.le_of_ble_eq_true rfl⟩ ⟨Nat.le_of_ble_eq_true rfl, Nat.le_of_ble_eq_true rfl⟩ rfl rfl dX11_ringing_16 rfl ?_
      have n16 := bI_w ((S.1 5) (2 * (k9 : Int) + 1) ≤ (S.1 3) ((S.1 5) (2 * (k9 : Int))))
      refine g_if_eq C dX11_ringing_19 26 (by decide) rfl (by omega) (fun c19 => ?_) (fun c19 => ?_)
      · skip
        refine g_iconst C dX11_ringing_26 rfl ?_
        refine g_iadd C dX11_ringing_27 rfl ?_
        refine g_istore_n (lv' := [(2, .int (iI (x + (0)))), (3, .int (iI (k9 : Int))), (0, .ref (am 0)), (1, .ref (ad 0))]) C dX11_ringing_28 rfl (by decide) rfl ?_
        refine g_iinc (lv' := [(3, .int (iI ((k9 : Int) + 1))), (2, .int (iI (x + (0)))), (0, .ref (am 0)), (1, .ref (ad 0))]) C dX11_ringing_29 rfl 1 rfl (by decide) rfl ?_
        refine g_goto C dX11_ringing_32 4 (by decide) ?_
        have e4 : (ringB (S.1 3) (fun k => S.1 5 (2 * k)) (fun k => S.1 5 (2 * k + 1))) k9 x = (x + (0)) := by
          show x + bI (S.1 5 (2 * (k9 : Int) + 1) ≤ S.1 3 (S.1 5 (2 * (k9 : Int)))) = _
          first | rfl | omega
        have i4 := ih4 (by omega)
        rw [show itr (ringB (S.1 3) (fun k => S.1 5 (2 * k)) (fun k => S.1 5 (2 * k + 1))) 0 (k9 + 1) = (x + (0)) from by rw [← e4, hx4]; rfl] at i4
        exact g_to [0, 1, 2, 3] (i4) rfl rfl rfl
      · skip
        refine g_iconst C dX11_ringing_22 rfl ?_
        refine g_goto C dX11_ringing_23 27 (by decide) ?_
        refine g_iadd C dX11_ringing_27 rfl ?_
        refine g_istore_n (lv' := [(2, .int (iI (x + (1)))), (3, .int (iI (k9 : Int))), (0, .ref (am 0)), (1, .ref (ad 0))]) C dX11_ringing_28 rfl (by decide) rfl ?_
        refine g_iinc (lv' := [(3, .int (iI ((k9 : Int) + 1))), (2, .int (iI (x + (1)))), (0, .ref (am 0)), (1, .ref (ad 0))]) C dX11_ringing_29 rfl 1 rfl (by decide) rfl ?_
        refine g_goto C dX11_ringing_32 4 (by decide) ?_
        have e4 : (ringB (S.1 3) (fun k => S.1 5 (2 * k)) (fun k => S.1 5 (2 * k + 1))) k9 x = (x + (1)) := by
          show x + bI (S.1 5 (2 * (k9 : Int) + 1) ≤ S.1 3 (S.1 5 (2 * (k9 : Int)))) = _
          first | rfl | omega
        have i4 := ih4 (by omega)
        rw [show itr (ringB (S.1 3) (fun k => S.1 5 (2 * k)) (fun k => S.1 5 (2 * k + 1))) 0 (k9 + 1) = (x + (1)) from by rw [← e4, hx4]; rfl] at i4
        exact g_to [0, 1, 2, 3] (i4) rfl rfl rfl
  refine g_to [0, 1, 2, 3] (L4 0 (by omega)) rfl rfl rfl
abbrev r_X11_flow : Room := { frames := 3, cells := 0, slots := 0, locals := 66 }
set_option maxHeartbeats 4000000 in
set_option maxRecDepth 100000 in
theorem k_X11_flow (l : Launch) (E : gE) (am : Nat → Nat) (ss sa : Nat) (M : gS) (ad : Nat → Nat) (S : gS) (hM : okM M) (hS : okS S) : gK l E yX11_flow cX11_flow 6 none r_X11_flow [.ref (am 0), .ref (ad 0)] (wM E am ss sa M ++ (wS E ad S)) (none) (wM E am ss sa (flowM M S) ++ (wS E ad (mflowS M S))) := by
  refine gK_by RX11 rfl mX11_flow [(0, .ref (am 0)), (1, .ref (ad 0))] (Nat.le_of_ble_eq_true rfl) rfl ?_
  intro zp ze zs zm za zb zh zc zA zQ C Z
  refine g_iconst C dX11_flow_0 rfl ?_
  refine g_istore_n (lv' := [(2, .int (iI (0))), (0, .ref (am 0)), (1, .ref (ad 0))]) C dX11_flow_1 rfl (by decide) rfl ?_
  have L2 : ∀ k9 : Nat, k9 ≤ 80 → gG E zp l ze r_X11_flow zs zm za zb zh zc zA 6 0 0 zQ (wM E am ss sa (setA (setA M 4 (cpI (M.1 4) (levS S) k9)) 5 (cpI (M.1 5) (fun _ => 0) k9)) ++ (wS E ad S)) 2 [(2, .int (iI (k9 : Int))), (0, .ref (am 0)), (1, .ref (ad 0))] [] := by
    refine g_up (80) _ ?_
    intro k9 ih2 hk2
    refine g_iload_n C dX11_flow_2 rfl 0 rfl ?_
    refine g_bipush C dX11_flow_3 rfl rfl ?_
    refine g_icmp_ge C dX11_flow_5 32 (by decide) rfl (by omega) (by omega) (fun c5 => ?_) (fun c5 => ?_)
    · skip
      obtain rfl : k9 = 80 := by omega
      refine g_to [0, 1, 2] (ws1 := wM E am ss sa (setA (setA M 4 (mlv M S)) 5 (cpI (M.1 5) (fun _ => 0) 80)) ++ (wS E ad S)) ?_ rfl rfl rfl
      refine g_iconst C dX11_flow_32 rfl ?_
      refine g_istore_n (lv' := [(2, .int (iI (0))), (0, .ref (am 0)), (1, .ref (ad 0))]) C dX11_flow_33 rfl (by decide) rfl ?_
      have L34 : ∀ k8 : Nat, k8 ≤ 80 → gG E zp l ze r_X11_flow zs zm za zb zh zc zA 6 0 0 zQ (wM E am ss sa (setA (setA M 4 (mlv M S)) 5 (itr (mflB (mlv M S) (S.1 3)) (cpI (M.1 5) (fun _ => 0) 80) k8)) ++ (wS E ad S)) 34 [(2, .int (iI (k8 : Int))), (0, .ref (am 0)), (1, .ref (ad 0))] [] := by
        refine g_up (80) _ ?_
        intro k8 ih34 hk34
        have iv34_0 := mfl_b (lv := mlv M S) (okS_3 hS) (okM_5 hM) hk34
        obtain ⟨x, hx34⟩ : ∃ z, z = itr (mflB (mlv M S) (S.1 3)) (cpI (M.1 5) (fun _ => 0) 80) k8 := ⟨_, rfl⟩
        rw [← hx34]
        rw [← hx34] at iv34_0
        refine g_iload_n C dX11_flow_34 rfl 0 rfl ?_
        refine g_bipush C dX11_flow_35 rfl rfl ?_
        refine g_icmp_ge C dX11_flow_37 170 (by decide) rfl (by omega) (by omega) (fun c37 => ?_) (fun c37 => ?_)
        · skip
          have hz34 : x = mmo M S := by rw [hx34, show k8 = 80 from by omega] <;> rfl
          refine g_iconst C dX11_flow_170 rfl ?_
          refine g_istore_n (lv' := [(2, .int (iI (0))), (0, .ref (am 0)), (1, .ref (ad 0))]) C dX11_flow_171 rfl (by decide) rfl ?_
          have L172 : ∀ k6 : Nat, k6 ≤ 80 → gG E zp l ze r_X11_flow zs zm za zb zh zc zA 6 0 0 zQ (wM E am ss sa (setA (setA M 4 (mlv M S)) 5 x) ++ (wS E ad (setA S 3 (itr (mwB x) (S.1 3) k6)))) 172 [(2, .int (iI (k6 : Int))), (0, .ref (am 0)), (1, .ref (ad 0))] [] := by
            refine g_up (80) _ ?_
            intro k6 ih172 hk172
            have iv172_0 := mw_id (m := x) (w := S.1 3) k6
            obtain ⟨z, hx172⟩ : ∃ z, z = itr (mwB x) (S.1 3) k6 := ⟨_, rfl⟩
            rw [← hx172]
            rw [← hx172] at iv172_0
            have bw := iv172_0 (k6 : Int) (by omega)
            have bv := okS_3 hS (k6 : Int)
            refine g_iload_n C dX11_flow_172 rfl 0 rfl ?_
            refine g_bipush C dX11_flow_173 rfl rfl ?_
            refine g_icmp_ge C dX11_flow_175 208 (by decide) rfl (by omega) (by omega) (fun c175 => ?_) (fun c175 => ?_)
            · skip
              have hz172 : z = itr (mwB x) (S.1 3) 80 := by rw [hx172, show k6 = 80 from by omega] <;> rfl
              exact z_vret C Z dX11_flow_208 rfl (by rw [hz172, hz34]; rfl)
            · skip
              refine g_aload_n C dX11_flow_178 rfl 2 rfl ?_
              refine g_getN (v := .ref (ad 3)) (T := TX10) (N := 10) (ci := 9) C rfl in_X10 6 rfl rfl 4 (by decide) (by decide +kernel) rfl rfl dX11_flow_179 rfl ?_
              refine g_iload_n C dX11_flow_182 rfl 0 rfl ?_
              refine g_bipush C dX11_flow_183 rfl rfl ?_
              refine g_aload_n C dX11_flow_185 rfl 2 rfl ?_
              refine g_getN (v := .ref (ad 3)) (T := TX10) (N := 10) (ci := 9) C rfl in_X10 6 rfl rfl 4 (by decide) (by decide +kernel) rfl rfl dX11_flow_186 rfl ?_
              refine g_iload_n C dX11_flow_189 rfl 0 rfl ?_
              refine g_iald (f := z) C dX11_flow_190 rfl 9 rfl (by omega) (by decide) ?_
              refine g_aload_n C dX11_flow_191 rfl 1 rfl ?_
              refine g_get (v := .ref (am 5)) (T := TX11) (N := 13) (ci := 10) C in_X11 0 rfl rfl 10 (by decide) wd944 (Or.inl rfl) rfl dX11_flow_192 rfl ?_
              refine g_iload_n C dX11_flow_195 rfl 0 rfl ?_
              refine g_iald (f := x) C dX11_flow_196 rfl 5 rfl (by omega) (by decide) ?_
              have b196 := iv34_0 (k6 : Int)
              refine g_iadd C dX11_flow_197 rfl ?_
              refine g_min2 C wd1140 ⟨wd755, wd19, wd756⟩ (Nat.le_of_ble_eq_true rfl) (Nat.le_of_ble_eq_true rfl) ⟨Nat.le_of_ble_eq_true rfl, Nat.le_of_ble_eq_true rfl⟩ dX11_flow_198 rfl (by omega) (by omega) ?_
              refine g_iast (f := z) (ws' := wM E am ss sa (setA (setA M 4 (mlv M S)) 5 x) ++ (wS E ad (setA S 3 (fset z (k6 : Int) (min (40) ((z (k6 : Int)) + (x (k6 : Int)))))))) C dX11_flow_201 rfl 9 rfl (by omega) (by decide) rfl ?_
              refine g_iinc (lv' := [(2, .int (iI ((k6 : Int) + 1))), (0, .ref (am 0)), (1, .ref (ad 0))]) C dX11_flow_202 rfl 0 rfl (by decide) rfl ?_
              refine g_goto C dX11_flow_205 172 (by decide) ?_
              have e172 : (mwB x) k6 z = (fset z (k6 : Int) (min (40) ((z (k6 : Int)) + (x (k6 : Int))))) := by
                rfl
              have i172 := ih172 (by omega)
              rw [show itr (mwB x) (S.1 3) (k6 + 1) = (fset z (k6 : Int) (min (40) ((z (k6 : Int)) + (x (k6 : Int))))) from by rw [← e172, hx172]; rfl] at i172
              exact g_to [0, 1, 2] (i172) rfl rfl rfl
          refine g_to [0, 1, 2] (L172 0 (by omega)) rfl rfl rfl
        · skip
          refine g_iconst C dX11_flow_40 rfl ?_
          refine g_istore_n (lv' := [(3, .int (iI (-1))), (2, .int (iI (k8 : Int))), (0, .ref (am 0)), (1, .ref (ad 0))]) C dX11_flow_41 rfl (by decide) rfl ?_
          refine g_iconst C dX11_flow_42 rfl ?_
          refine g_istore (lv' := [(4, .int (iI (0))), (3, .int (iI (-1))), (2, .int (iI (k8 : Int))), (0, .ref (am 0)), (1, .ref (ad 0))]) C dX11_flow_43 rfl (by decide) rfl ?_
          have L45 : ∀ k7 : Nat, k7 ≤ 4 → gG E zp l ze r_X11_flow zs zm za zb zh zc zA 6 0 0 zQ (wM E am ss sa (setA (setA M 4 (mlv M S)) 5 x) ++ (wS E ad S)) 45 [(4, .int (iI (k7 : Int))), (3, .int (iI (itr (lowB (mlv M S) (k8 : Int)) (-1) k7))), (2, .int (iI (k8 : Int))), (0, .ref (am 0)), (1, .ref (ad 0))] [] := by
            refine g_up (4) _ ?_
            intro k7 ih45 hk45
            have iv45_0 := low_b (lv := mlv M S) (p := (k8 : Int)) (by omega) k7
            obtain ⟨y, hx45⟩ : ∃ z, z = itr (lowB (mlv M S) (k8 : Int)) (-1) k7 := ⟨_, rfl⟩
            rw [← hx45]
            rw [← hx45] at iv45_0
            refine g_iload C dX11_flow_45 rfl 0 rfl ?_
            refine g_iconst C dX11_flow_47 rfl ?_
            refine g_icmp_ge C dX11_flow_48 95 (by decide) rfl (by omega) (by omega) (fun c48 => ?_) (fun c48 => ?_)
            · skip
              have hz45 : y = lowest (mlv M S) (k8 : Int) := by rw [hx45, show k7 = 4 from by omega] <;> rfl
              have hl9 := lowest_ne (lv := mlv M S) (p := (k8 : Int)) (by omega)
              rw [← hz45] at hl9
              refine g_aload_n C dX11_flow_95 rfl 3 rfl ?_
              refine g_get (v := .ref (am 4)) (T := TX11) (N := 13) (ci := 10) C in_X11 0 rfl rfl 9 (by decide) wd943 (Or.inl rfl) rfl dX11_flow_96 rfl ?_
              refine g_iload_n C dX11_flow_99 rfl 2 rfl ?_
              refine g_iald (f := (mlv M S)) C dX11_flow_100 rfl 4 rfl (by omega) (by decide) ?_
              have b100 := (show bnd (mlv M S) 0 55 from cpI_b (okM_4 hM) (lvS_b hS) 80) (k8 : Int)
              refine g_aload_n C dX11_flow_101 rfl 3 rfl ?_
              refine g_get (v := .ref (am 4)) (T := TX11) (N := 13) (ci := 10) C in_X11 0 rfl rfl 9 (by decide) wd943 (Or.inl rfl) rfl dX11_flow_102 rfl ?_
              refine g_iload_n C dX11_flow_105 rfl 1 rfl ?_
              refine g_iald (f := (mlv M S)) C dX11_flow_106 rfl 4 rfl (by omega) (by decide) ?_
              have b106 := (show bnd (mlv M S) 0 55 from cpI_b (okM_4 hM) (lvS_b hS) 80) y
              refine g_isub C dX11_flow_107 rfl ?_
              refine g_iconst C dX11_flow_108 rfl ?_
              refine g_icmp_lt C dX11_flow_109 139 (by decide) rfl (by omega) (by omega) (fun c109 => ?_) (fun c109 => ?_)
              · skip
                refine g_iconst C dX11_flow_139 rfl ?_
                refine g_istore (lv' := [(4, .int (iI (0))), (3, .int (iI y)), (2, .int (iI (k8 : Int))), (0, .ref (am 0)), (1, .ref (ad 0))]) C dX11_flow_140 rfl (by decide) rfl ?_
                refine g_aload_n C dX11_flow_142 rfl 3 rfl ?_
                refine g_get (v := .ref (am 5)) (T := TX11) (N := 13) (ci := 10) C in_X11 0 rfl rfl 10 (by decide) wd944 (Or.inl rfl) rfl dX11_flow_143 rfl ?_
                refine g_iload_n C dX11_flow_146 rfl 2 rfl ?_
                refine g_dup2 C dX11_flow_147 rfl rfl rfl ?_
                refine g_iald (f := x) C dX11_flow_148 rfl 5 rfl (by omega) (by decide) ?_
                have b148 := iv34_0 (k8 : Int)
                refine g_iload C dX11_flow_149 rfl 0 rfl ?_
                refine g_isub C dX11_flow_151 rfl ?_
                refine g_iast (f := x) (ws' := wM E am ss sa (setA (setA M 4 (mlv M S)) 5 (fset x (k8 : Int) ((x (k8 : Int)) - (0)))) ++ (wS E ad S)) C dX11_flow_152 rfl 5 rfl (by omega) (by decide) rfl ?_
                refine g_aload_n C dX11_flow_153 rfl 3 rfl ?_
                refine g_get (v := .ref (am 5)) (T := TX11) (N := 13) (ci := 10) C in_X11 0 rfl rfl 10 (by decide) wd944 (Or.inl rfl) rfl dX11_flow_154 rfl ?_
                refine g_iload_n C dX11_flow_157 rfl 1 rfl ?_
                refine g_dup2 C dX11_flow_158 rfl rfl rfl ?_
                refine g_iald (f := (fset x (k8 : Int) ((x (k8 : Int)) - (0)))) C dX11_flow_159 rfl 5 rfl (by omega) (by decide) ?_
                try have b159 := bnd_fset (f := x) (a := (k8 : Int)) (x := ((x (k8 : Int)) - (0))) (iv34_0) (by omega) y
                refine g_iload C dX11_flow_160 rfl 0 rfl ?_
                refine g_iadd C dX11_flow_162 rfl ?_
                refine g_iast (f := (fset x (k8 : Int) ((x (k8 : Int)) - (0)))) (ws' := wM E am ss sa (setA (setA M 4 (mlv M S)) 5 (fset (fset x (k8 : Int) ((x (k8 : Int)) - (0))) y (((fset x (k8 : Int) ((x (k8 : Int)) - (0))) y) + (0)))) ++ (wS E ad S)) C dX11_flow_163 rfl 5 rfl (by omega) (by decide) rfl ?_
                refine g_iinc (lv' := [(2, .int (iI ((k8 : Int) + 1))), (4, .int (iI (0))), (3, .int (iI y)), (0, .ref (am 0)), (1, .ref (ad 0))]) C dX11_flow_164 rfl 2 rfl (by decide) rfl ?_
                refine g_goto C dX11_flow_167 34 (by decide) ?_
                have e34 : (mflB (mlv M S) (S.1 3)) k8 x = (fset (fset x (k8 : Int) ((x (k8 : Int)) - (0))) y (((fset x (k8 : Int) ((x (k8 : Int)) - (0))) y) + (0))) := by
                  unfold mflB mgv
                  rw [← hz45]
                  first | (rw [if_pos (by omega)]) | (rw [if_neg (by omega)])
                have i34 := ih34 (by omega)
                rw [show itr (mflB (mlv M S) (S.1 3)) (cpI (M.1 5) (fun _ => 0) 80) (k8 + 1) = (fset (fset x (k8 : Int) ((x (k8 : Int)) - (0))) y (((fset x (k8 : Int) ((x (k8 : Int)) - (0))) y) + (0))) from by rw [← e34, hx34]; rfl] at i34
                exact g_to [0, 3, 4] (i34) rfl rfl rfl
              · skip
                refine g_aload_n C dX11_flow_112 rfl 4 rfl ?_
                refine g_getN (v := .ref (ad 3)) (T := TX10) (N := 10) (ci := 9) C rfl in_X10 6 rfl rfl 4 (by decide) (by decide +kernel) rfl rfl dX11_flow_113 rfl ?_
                refine g_iload_n C dX11_flow_116 rfl 2 rfl ?_
                refine g_iald (f := (S.1 3)) C dX11_flow_117 rfl 9 rfl (by omega) (by decide) ?_
                have b117 := okS_3 hS (k8 : Int)
                refine g_aload_n C dX11_flow_118 rfl 3 rfl ?_
                refine g_get (v := .ref (am 4)) (T := TX11) (N := 13) (ci := 10) C in_X11 0 rfl rfl 9 (by decide) wd943 (Or.inl rfl) rfl dX11_flow_119 rfl ?_
                refine g_iload_n C dX11_flow_122 rfl 2 rfl ?_
                refine g_iald (f := (mlv M S)) C dX11_flow_123 rfl 4 rfl (by omega) (by decide) ?_
                have b123 := (show bnd (mlv M S) 0 55 from cpI_b (okM_4 hM) (lvS_b hS) 80) (k8 : Int)
                refine g_aload_n C dX11_flow_124 rfl 3 rfl ?_
                refine g_get (v := .ref (am 4)) (T := TX11) (N := 13) (ci := 10) C in_X11 0 rfl rfl 9 (by decide) wd943 (Or.inl rfl) rfl dX11_flow_125 rfl ?_
                refine g_iload_n C dX11_flow_128 rfl 1 rfl ?_
                refine g_iald (f := (mlv M S)) C dX11_flow_129 rfl 4 rfl (by omega) (by decide) ?_
                have b129 := (show bnd (mlv M S) 0 55 from cpI_b (okM_4 hM) (lvS_b hS) 80) y
                refine g_isub C dX11_flow_130 rfl ?_
                refine g_iconst C dX11_flow_131 rfl ?_
                refine g_idiv C dX11_flow_132 rfl (by omega) (by omega) ?_
                refine g_min2 C wd1140 ⟨wd755, wd19, wd756⟩ (Nat.le_of_ble_eq_true rfl) (Nat.le_of_ble_eq_true rfl) ⟨Nat.le_of_ble_eq_true rfl, Nat.le_of_ble_eq_true rfl⟩ dX11_flow_133 rfl (by omega) (by omega) ?_
                refine g_goto C dX11_flow_136 140 (by decide) ?_
                refine g_istore (lv' := [(4, .int (iI (min ((S.1 3) (k8 : Int)) ((((mlv M S) (k8 : Int)) - ((mlv M S) y)) / (2))))), (3, .int (iI y)), (2, .int (iI (k8 : Int))), (0, .ref (am 0)), (1, .ref (ad 0))]) C dX11_flow_140 rfl (by decide) rfl ?_
                refine g_aload_n C dX11_flow_142 rfl 3 rfl ?_
                refine g_get (v := .ref (am 5)) (T := TX11) (N := 13) (ci := 10) C in_X11 0 rfl rfl 10 (by decide) wd944 (Or.inl rfl) rfl dX11_flow_143 rfl ?_
                refine g_iload_n C dX11_flow_146 rfl 2 rfl ?_
                refine g_dup2 C dX11_flow_147 rfl rfl rfl ?_
                refine g_iald (f := x) C dX11_flow_148 rfl 5 rfl (by omega) (by decide) ?_
                have b148 := iv34_0 (k8 : Int)
                refine g_iload C dX11_flow_149 rfl 0 rfl ?_
                refine g_isub C dX11_flow_151 rfl ?_
                refine g_iast (f := x) (ws' := wM E am ss sa (setA (setA M 4 (mlv M S)) 5 (fset x (k8 : Int) ((x (k8 : Int)) - (min ((S.1 3) (k8 : Int)) ((((mlv M S) (k8 : Int)) - ((mlv M S) y)) / (2)))))) ++ (wS E ad S)) C dX11_flow_152 rfl 5 rfl (by omega) (by decide) rfl ?_
                refine g_aload_n C dX11_flow_153 rfl 3 rfl ?_
                refine g_get (v := .ref (am 5)) (T := TX11) (N := 13) (ci := 10) C in_X11 0 rfl rfl 10 (by decide) wd944 (Or.inl rfl) rfl dX11_flow_154 rfl ?_
                refine g_iload_n C dX11_flow_157 rfl 1 rfl ?_
                refine g_dup2 C dX11_flow_158 rfl rfl rfl ?_
                refine g_iald (f := (fset x (k8 : Int) ((x (k8 : Int)) - (min ((S.1 3) (k8 : Int)) ((((mlv M S) (k8 : Int)) - ((mlv M S) y)) / (2)))))) C dX11_flow_159 rfl 5 rfl (by omega) (by decide) ?_
                try have b159 := bnd_fset (f := x) (a := (k8 : Int)) (x := ((x (k8 : Int)) - (min ((S.1 3) (k8 : Int)) ((((mlv M S) (k8 : Int)) - ((mlv M S) y)) / (2))))) (iv34_0) (by omega) y
                refine g_iload C dX11_flow_160 rfl 0 rfl ?_
                refine g_iadd C dX11_flow_162 rfl ?_
                refine g_iast (f := (fset x (k8 : Int) ((x (k8 : Int)) - (min ((S.1 3) (k8 : Int)) ((((mlv M S) (k8 : Int)) - ((mlv M S) y)) / (2)))))) (ws' := wM E am ss sa (setA (setA M 4 (mlv M S)) 5 (fset (fset x (k8 : Int) ((x (k8 : Int)) - (min ((S.1 3) (k8 : Int)) ((((mlv M S) (k8 : Int)) - ((mlv M S) y)) / (2))))) y (((fset x (k8 : Int) ((x (k8 : Int)) - (min ((S.1 3) (k8 : Int)) ((((mlv M S) (k8 : Int)) - ((mlv M S) y)) / (2))))) y) + (min ((S.1 3) (k8 : Int)) ((((mlv M S) (k8 : Int)) - ((mlv M S) y)) / (2)))))) ++ (wS E ad S)) C dX11_flow_163 rfl 5 rfl (by omega) (by decide) rfl ?_
                refine g_iinc (lv' := [(2, .int (iI ((k8 : Int) + 1))), (4, .int (iI (min ((S.1 3) (k8 : Int)) ((((mlv M S) (k8 : Int)) - ((mlv M S) y)) / (2))))), (3, .int (iI y)), (0, .ref (am 0)), (1, .ref (ad 0))]) C dX11_flow_164 rfl 2 rfl (by decide) rfl ?_
                refine g_goto C dX11_flow_167 34 (by decide) ?_
                have e34 : (mflB (mlv M S) (S.1 3)) k8 x = (fset (fset x (k8 : Int) ((x (k8 : Int)) - (min ((S.1 3) (k8 : Int)) ((((mlv M S) (k8 : Int)) - ((mlv M S) y)) / (2))))) y (((fset x (k8 : Int) ((x (k8 : Int)) - (min ((S.1 3) (k8 : Int)) ((((mlv M S) (k8 : Int)) - ((mlv M S) y)) / (2))))) y) + (min ((S.1 3) (k8 : Int)) ((((mlv M S) (k8 : Int)) - ((mlv M S) y)) / (2))))) := by
                  unfold mflB mgv
                  rw [← hz45]
                  first | (rw [if_pos (by omega)]) | (rw [if_neg (by omega)])
                have i34 := ih34 (by omega)
                rw [show itr (mflB (mlv M S) (S.1 3)) (cpI (M.1 5) (fun _ => 0) 80) (k8 + 1) = (fset (fset x (k8 : Int) ((x (k8 : Int)) - (min ((S.1 3) (k8 : Int)) ((((mlv M S) (k8 : Int)) - ((mlv M S) y)) / (2))))) y (((fset x (k8 : Int) ((x (k8 : Int)) - (min ((S.1 3) (k8 : Int)) ((((mlv M S) (k8 : Int)) - ((mlv M S) y)) / (2))))) y) + (min ((S.1 3) (k8 : Int)) ((((mlv M S) (k8 : Int)) - ((mlv M S) y)) / (2))))) from by rw [← e34, hx34]; rfl] at i34
                exact g_to [0, 3, 4] (i34) rfl rfl rfl
            · skip
              refine g_iload_n C dX11_flow_51 rfl 2 rfl ?_
              refine g_iload C dX11_flow_52 rfl 0 rfl ?_
              refine g_callS1 (As := [.int (iI (k8 : Int)), .int (iI (k7 : Int))]) (rv := some (.int (iI (nbr (k8 : Int) (k7 : Int))))) (kc' := 0) (ks' := 0) C (k_X11_beside l E (k8 : Int) (k7 : Int) (by omega) (by omega)) mX11_beside wd1111 wd1110 rfl rfl (Nat.le_of_ble_eq_true rfl) ⟨Nat.le_of_ble_eq_true rfl, Nat.le_of_ble_eq_true rfl⟩ ⟨Nat.le_of_ble_eq_true rfl, Nat.le_of_ble_eq_true rfl⟩ rfl rfl dX11_flow_54 rfl ?_
              have n54 := nbr_b (k := (k8 : Int)) (d := (k7 : Int)) (by omega)
              refine g_istore (lv' := [(5, .int (iI (nbr (k8 : Int) (k7 : Int)))), (4, .int (iI (k7 : Int))), (3, .int (iI y)), (2, .int (iI (k8 : Int))), (0, .ref (am 0)), (1, .ref (ad 0))]) C dX11_flow_57 rfl (by decide) rfl ?_
              refine g_iload C dX11_flow_59 rfl 0 rfl ?_
              refine g_iconst C dX11_flow_61 rfl ?_
              refine g_icmp_eq C dX11_flow_62 89 (by decide) rfl (by omega) (by omega) (fun c62 => ?_) (fun c62 => ?_)
              · skip
                refine g_iinc (lv' := [(4, .int (iI ((k7 : Int) + 1))), (5, .int (iI (nbr (k8 : Int) (k7 : Int)))), (3, .int (iI y)), (2, .int (iI (k8 : Int))), (0, .ref (am 0)), (1, .ref (ad 0))]) C dX11_flow_89 rfl 1 rfl (by decide) rfl ?_
                refine g_goto C dX11_flow_92 45 (by decide) ?_
                have e45 : (lowB (mlv M S) (k8 : Int)) k7 y = y := by
                  unfold lowB
                  first | (rw [if_pos (by omega)]) | (rw [if_neg (by omega)])
                have i45 := ih45 (by omega)
                rw [show itr (lowB (mlv M S) (k8 : Int)) (-1) (k7 + 1) = y from by rw [← e45, hx45]; rfl] at i45
                exact g_to [0, 2, 3, 4, 5] (i45) rfl rfl rfl
              · skip
                refine g_iload_n C dX11_flow_65 rfl 2 rfl ?_
                refine g_iconst C dX11_flow_66 rfl ?_
                refine g_icmp_eq C dX11_flow_67 86 (by decide) rfl (by omega) (by omega) (fun c67 => ?_) (fun c67 => ?_)
                · skip
                  refine g_iload C dX11_flow_86 rfl 0 rfl ?_
                  refine g_istore_n (lv' := [(3, .int (iI (nbr (k8 : Int) (k7 : Int)))), (5, .int (iI (nbr (k8 : Int) (k7 : Int)))), (4, .int (iI (k7 : Int))), (2, .int (iI (k8 : Int))), (0, .ref (am 0)), (1, .ref (ad 0))]) C dX11_flow_88 rfl (by decide) rfl ?_
                  refine g_iinc (lv' := [(4, .int (iI ((k7 : Int) + 1))), (3, .int (iI (nbr (k8 : Int) (k7 : Int)))), (5, .int (iI (nbr (k8 : Int) (k7 : Int)))), (2, .int (iI (k8 : Int))), (0, .ref (am 0)), (1, .ref (ad 0))]) C dX11_flow_89 rfl 2 rfl (by decide) rfl ?_
                  refine g_goto C dX11_flow_92 45 (by decide) ?_
                  have e45 : (lowB (mlv M S) (k8 : Int)) k7 y = (nbr (k8 : Int) (k7 : Int)) := by
                    unfold lowB
                    first | (rw [if_pos (by omega)]) | (rw [if_neg (by omega)])
                  have i45 := ih45 (by omega)
                  rw [show itr (lowB (mlv M S) (k8 : Int)) (-1) (k7 + 1) = (nbr (k8 : Int) (k7 : Int)) from by rw [← e45, hx45]; rfl] at i45
                  exact g_to [0, 1, 3, 4, 5] (i45) rfl rfl rfl
                · skip
                  refine g_aload_n C dX11_flow_70 rfl 4 rfl ?_
                  refine g_get (v := .ref (am 4)) (T := TX11) (N := 13) (ci := 10) C in_X11 0 rfl rfl 9 (by decide) wd943 (Or.inl rfl) rfl dX11_flow_71 rfl ?_
                  refine g_iload C dX11_flow_74 rfl 0 rfl ?_
                  refine g_iald (f := (mlv M S)) C dX11_flow_76 rfl 4 rfl (by omega) (by decide) ?_
                  have b76 := (show bnd (mlv M S) 0 55 from cpI_b (okM_4 hM) (lvS_b hS) 80) (nbr (k8 : Int) (k7 : Int))
                  refine g_aload_n C dX11_flow_77 rfl 4 rfl ?_
                  refine g_get (v := .ref (am 4)) (T := TX11) (N := 13) (ci := 10) C in_X11 0 rfl rfl 9 (by decide) wd943 (Or.inl rfl) rfl dX11_flow_78 rfl ?_
                  refine g_iload_n C dX11_flow_81 rfl 2 rfl ?_
                  refine g_iald (f := (mlv M S)) C dX11_flow_82 rfl 4 rfl (by omega) (by decide) ?_
                  have b82 := (show bnd (mlv M S) 0 55 from cpI_b (okM_4 hM) (lvS_b hS) 80) y
                  refine g_icmp_ge C dX11_flow_83 89 (by decide) rfl (by omega) (by omega) (fun c83 => ?_) (fun c83 => ?_)
                  · skip
                    refine g_iinc (lv' := [(4, .int (iI ((k7 : Int) + 1))), (5, .int (iI (nbr (k8 : Int) (k7 : Int)))), (3, .int (iI y)), (2, .int (iI (k8 : Int))), (0, .ref (am 0)), (1, .ref (ad 0))]) C dX11_flow_89 rfl 1 rfl (by decide) rfl ?_
                    refine g_goto C dX11_flow_92 45 (by decide) ?_
                    have e45 : (lowB (mlv M S) (k8 : Int)) k7 y = y := by
                      unfold lowB
                      first | (rw [if_pos (by omega)]) | (rw [if_neg (by omega)])
                    have i45 := ih45 (by omega)
                    rw [show itr (lowB (mlv M S) (k8 : Int)) (-1) (k7 + 1) = y from by rw [← e45, hx45]; rfl] at i45
                    exact g_to [0, 2, 3, 4, 5] (i45) rfl rfl rfl
                  · skip
                    refine g_iload C dX11_flow_86 rfl 0 rfl ?_
                    refine g_istore_n (lv' := [(3, .int (iI (nbr (k8 : Int) (k7 : Int)))), (5, .int (iI (nbr (k8 : Int) (k7 : Int)))), (4, .int (iI (k7 : Int))), (2, .int (iI (k8 : Int))), (0, .ref (am 0)), (1, .ref (ad 0))]) C dX11_flow_88 rfl (by decide) rfl ?_
                    refine g_iinc (lv' := [(4, .int (iI ((k7 : Int) + 1))), (3, .int (iI (nbr (k8 : Int) (k7 : Int)))), (5, .int (iI (nbr (k8 : Int) (k7 : Int)))), (2, .int (iI (k8 : Int))), (0, .ref (am 0)), (1, .ref (ad 0))]) C dX11_flow_89 rfl 2 rfl (by decide) rfl ?_
                    refine g_goto C dX11_flow_92 45 (by decide) ?_
                    have e45 : (lowB (mlv M S) (k8 : Int)) k7 y = (nbr (k8 : Int) (k7 : Int)) := by
                      unfold lowB
                      first | (rw [if_pos (by omega)]) | (rw [if_neg (by omega)])
                    have i45 := ih45 (by omega)
                    rw [show itr (lowB (mlv M S) (k8 : Int)) (-1) (k7 + 1) = (nbr (k8 : Int) (k7 : Int)) from by rw [← e45, hx45]; rfl] at i45
                    exact g_to [0, 1, 3, 4, 5] (i45) rfl rfl rfl
          refine g_to [0, 1, 2, 3, 4] (L45 0 (by omega)) rfl rfl rfl
      refine g_to [0, 1, 2] (L34 0 (by omega)) rfl rfl rfl
    · skip
      refine g_aload_n C dX11_flow_8 rfl 1 rfl ?_
      refine g_get (v := .ref (am 4)) (T := TX11) (N := 13) (ci := 10) C in_X11 0 rfl rfl 9 (by decide) wd943 (Or.inl rfl) rfl dX11_flow_9 rfl ?_
      refine g_iload_n C dX11_flow_12 rfl 0 rfl ?_
      refine g_aload_n C dX11_flow_13 rfl 2 rfl ?_
      refine g_iload_n C dX11_flow_14 rfl 0 rfl ?_
      refine g_perm (ws1 := wS E ad S ++ (wM E am ss sa (setA (setA M 4 (cpI (M.1 4) (levS S) k9)) 5 (cpI (M.1 5) (fun _ => 0) k9)))) pm_10 ?_
      refine g_callVf (As := [.int (iI (k9 : Int))]) (rv := some (.int (iI (lev (S.1 1) (S.1 2) (S.1 3) (k9 : Int))))) (w1 := wS E ad S) (kc' := 0) (ks' := 0) C (wM E am ss sa (setA (setA M 4 (cpI (M.1 4) (levS S) k9)) 5 (cpI (M.1 5) (fun _ => 0) k9))) (k_X10_levelOf l E ad S (k9 : Int) hS (by omega)) mX10_levelOf iX10_levelOf wd1038 0 9 rfl rfl rfl rfl rfl (Nat.le_of_ble_eq_true rfl) ⟨Nat.le_of_ble_eq_true rfl, Nat.le_of_ble_eq_true rfl⟩ ⟨Nat.le_of_ble_eq_true rfl, Nat.le_of_ble_eq_true rfl⟩ rfl rfl rfl dX11_flow_15 rfl ?_
      refine g_perm (ws1 := wM E am ss sa (setA (setA M 4 (cpI (M.1 4) (levS S) k9)) 5 (cpI (M.1 5) (fun _ => 0) k9)) ++ (wS E ad S)) pm_10 ?_
      have n15 := lev_b (okS_1 hS) (okS_2 hS) (okS_3 hS) (k9 : Int)
      refine g_iast (f := (cpI (M.1 4) (levS S) k9)) (ws' := wM E am ss sa (setA (setA M 4 (fset (cpI (M.1 4) (levS S) k9) (k9 : Int) (lev (S.1 1) (S.1 2) (S.1 3) (k9 : Int)))) 5 (cpI (M.1 5) (fun _ => 0) k9)) ++ (wS E ad S)) C dX11_flow_18 rfl 4 rfl (by omega) (by decide) rfl ?_
      refine g_aload_n C dX11_flow_19 rfl 1 rfl ?_
      refine g_get (v := .ref (am 5)) (T := TX11) (N := 13) (ci := 10) C in_X11 0 rfl rfl 10 (by decide) wd944 (Or.inl rfl) rfl dX11_flow_20 rfl ?_
      refine g_iload_n C dX11_flow_23 rfl 0 rfl ?_
      refine g_iconst C dX11_flow_24 rfl ?_
      refine g_iast (f := (cpI (M.1 5) (fun _ => 0) k9)) (ws' := wM E am ss sa (setA (setA M 4 (fset (cpI (M.1 4) (levS S) k9) (k9 : Int) (lev (S.1 1) (S.1 2) (S.1 3) (k9 : Int)))) 5 (fset (cpI (M.1 5) (fun _ => 0) k9) (k9 : Int) (0))) ++ (wS E ad S)) C dX11_flow_25 rfl 5 rfl (by omega) (by decide) rfl ?_
      refine g_iinc (lv' := [(2, .int (iI ((k9 : Int) + 1))), (0, .ref (am 0)), (1, .ref (ad 0))]) C dX11_flow_26 rfl 0 rfl (by decide) rfl ?_
      refine g_goto C dX11_flow_29 2 (by decide) ?_
      exact g_to [0, 1, 2] (ih2 (by omega)) rfl rfl rfl
  refine g_to [0, 1, 2] (L2 0 (by omega)) rfl rfl rfl
abbrev r_X11_drain : Room := { frames := 1, cells := 0, slots := 0, locals := 13 }
set_option maxHeartbeats 4000000 in
set_option maxRecDepth 100000 in
theorem k_X11_drain (l : Launch) (E : gE) (am : Nat → Nat) (ss sa : Nat) (M : gS) (ad : Nat → Nat) (S : gS) (p : Int) (hS : okS S) (hp : 0 ≤ p ∧ p < 5) : gK l E yX11_drain cX11_drain 6 none r_X11_drain [.ref (am 0), .ref (ad 0), .int (iI p)] (wM E am ss sa M ++ (wS E ad S)) (none) (wM E am ss sa M ++ (wS E ad (drainS S p))) := by
  refine gK_by RX11 rfl mX11_drain [(0, .ref (am 0)), (1, .ref (ad 0)), (2, .int (iI p))] (Nat.le_of_ble_eq_true rfl) rfl ?_
  intro zp ze zs zm za zb zh zc zA zQ C Z
  refine g_iconst C dX11_drain_0 rfl ?_
  refine g_iload_n C dX11_drain_1 rfl 2 rfl ?_
  refine g_imul C dX11_drain_2 rfl ?_
  refine g_istore_n (lv' := [(3, .int (iI ((5) * p))), (0, .ref (am 0)), (1, .ref (ad 0)), (2, .int (iI p))]) C dX11_drain_3 rfl (by decide) rfl ?_
  have e5 := okS_40 hS p
  refine g_aload_n C dX11_drain_4 rfl 2 rfl ?_
  refine g_getN (v := .ref (ad 4)) (T := TX10) (N := 10) (ci := 9) C rfl in_X10 6 rfl rfl 5 (by decide) (by decide +kernel) rfl rfl dX11_drain_5 rfl ?_
  refine g_iload_n C dX11_drain_8 rfl 0 rfl ?_
  refine g_iald (f := (S.1 4)) C dX11_drain_9 rfl 10 rfl (by omega) (by decide) ?_
  have b9 := okS_40 hS p
  refine g_istore (lv' := [(4, .int (iI ((S.1 4) ((5) * p)))), (3, .int (iI ((5) * p))), (0, .ref (am 0)), (1, .ref (ad 0)), (2, .int (iI p))]) C dX11_drain_10 rfl (by decide) rfl ?_
  refine g_aload_n C dX11_drain_12 rfl 3 rfl ?_
  refine g_getN (v := .ref (ad 4)) (T := TX10) (N := 10) (ci := 9) C rfl in_X10 6 rfl rfl 5 (by decide) (by decide +kernel) rfl rfl dX11_drain_13 rfl ?_
  refine g_iload_n C dX11_drain_16 rfl 1 rfl ?_
  refine g_iconst C dX11_drain_17 rfl ?_
  refine g_iadd C dX11_drain_18 rfl ?_
  refine g_iald (f := (S.1 4)) C dX11_drain_19 rfl 10 rfl (by omega) (by decide) ?_
  have b19 := okS_43 hS p
  refine g_if_eq C dX11_drain_20 44 (by decide) rfl (by omega) (fun c20 => ?_) (fun c20 => ?_)
  · skip
    exact z_vret C Z dX11_drain_44 rfl (by unfold drainS ownM; first | (rw [if_pos (by omega)]) | (rw [if_neg (by omega), fset_ne (f := S.1 4) (a := 5 * p + 2) (j := 5 * p + 4) (by omega)]))
  · skip
    refine g_aload_n C dX11_drain_23 rfl 3 rfl ?_
    refine g_getN (v := .ref (ad 4)) (T := TX10) (N := 10) (ci := 9) C rfl in_X10 6 rfl rfl 5 (by decide) (by decide +kernel) rfl rfl dX11_drain_24 rfl ?_
    refine g_iload_n C dX11_drain_27 rfl 1 rfl ?_
    refine g_iconst C dX11_drain_28 rfl ?_
    refine g_iadd C dX11_drain_29 rfl ?_
    refine g_iald (f := (S.1 4)) C dX11_drain_30 rfl 10 rfl (by omega) (by decide) ?_
    have b30 := okS_42 hS p
    refine g_if_eq C dX11_drain_31 44 (by decide) rfl (by omega) (fun c31 => ?_) (fun c31 => ?_)
    · skip
      exact z_vret C Z dX11_drain_44 rfl (by unfold drainS ownM; first | (rw [if_pos (by omega)]) | (rw [if_neg (by omega), fset_ne (f := S.1 4) (a := 5 * p + 2) (j := 5 * p + 4) (by omega)]))
    · skip
      refine g_aload_n C dX11_drain_34 rfl 3 rfl ?_
      refine g_getN (v := .ref (ad 3)) (T := TX10) (N := 10) (ci := 9) C rfl in_X10 6 rfl rfl 4 (by decide) (by decide +kernel) rfl rfl dX11_drain_35 rfl ?_
      refine g_iload C dX11_drain_38 rfl 0 rfl ?_
      refine g_iald (f := (S.1 3)) C dX11_drain_40 rfl 9 rfl (by omega) (by decide) ?_
      have b40 := okS_3 hS ((S.1 4) ((5) * p))
      refine g_if_ne C dX11_drain_41 45 (by decide) rfl (by omega) (fun c41 => ?_) (fun c41 => ?_)
      · skip
        refine g_aload_n C dX11_drain_45 rfl 3 rfl ?_
        refine g_getN (v := .ref (ad 4)) (T := TX10) (N := 10) (ci := 9) C rfl in_X10 6 rfl rfl 5 (by decide) (by decide +kernel) rfl rfl dX11_drain_46 rfl ?_
        refine g_iload_n C dX11_drain_49 rfl 1 rfl ?_
        refine g_iconst C dX11_drain_50 rfl ?_
        refine g_iadd C dX11_drain_51 rfl ?_
        refine g_iald (f := (S.1 4)) C dX11_drain_52 rfl 10 rfl (by omega) (by decide) ?_
        have b52 := okS_41 hS p
        refine g_aload_n C dX11_drain_53 rfl 3 rfl ?_
        refine g_getN (v := .ref (ad 3)) (T := TX10) (N := 10) (ci := 9) C rfl in_X10 6 rfl rfl 4 (by decide) (by decide +kernel) rfl rfl dX11_drain_54 rfl ?_
        refine g_iload C dX11_drain_57 rfl 0 rfl ?_
        refine g_iald (f := (S.1 3)) C dX11_drain_59 rfl 9 rfl (by omega) (by decide) ?_
        have b59 := okS_3 hS ((S.1 4) ((5) * p))
        refine g_min2 C wd1140 ⟨wd755, wd19, wd756⟩ (Nat.le_of_ble_eq_true rfl) (Nat.le_of_ble_eq_true rfl) ⟨Nat.le_of_ble_eq_true rfl, Nat.le_of_ble_eq_true rfl⟩ dX11_drain_60 rfl (by omega) (by omega) ?_
        refine g_istore (lv' := [(5, .int (iI (min ((S.1 4) (((5) * p) + (1))) ((S.1 3) ((S.1 4) ((5) * p)))))), (4, .int (iI ((S.1 4) ((5) * p)))), (3, .int (iI ((5) * p))), (0, .ref (am 0)), (1, .ref (ad 0)), (2, .int (iI p))]) C dX11_drain_63 rfl (by decide) rfl ?_
        refine g_aload_n C dX11_drain_65 rfl 4 rfl ?_
        refine g_getN (v := .ref (ad 3)) (T := TX10) (N := 10) (ci := 9) C rfl in_X10 6 rfl rfl 4 (by decide) (by decide +kernel) rfl rfl dX11_drain_66 rfl ?_
        refine g_iload C dX11_drain_69 rfl 1 rfl ?_
        refine g_dup2 C dX11_drain_71 rfl rfl rfl ?_
        refine g_iald (f := (S.1 3)) C dX11_drain_72 rfl 9 rfl (by omega) (by decide) ?_
        have b72 := okS_3 hS ((S.1 4) ((5) * p))
        refine g_iload C dX11_drain_73 rfl 0 rfl ?_
        refine g_isub C dX11_drain_75 rfl ?_
        refine g_iast (f := (S.1 3)) (ws' := wM E am ss sa M ++ (wS E ad (setA S 3 (fset (S.1 3) ((S.1 4) ((5) * p)) (((S.1 3) ((S.1 4) ((5) * p))) - (min ((S.1 4) (((5) * p) + (1))) ((S.1 3) ((S.1 4) ((5) * p))))))))) C dX11_drain_76 rfl 9 rfl (by omega) (by decide) rfl ?_
        refine g_aload_n C dX11_drain_77 rfl 4 rfl ?_
        refine g_getN (v := .ref (ad 4)) (T := TX10) (N := 10) (ci := 9) C rfl in_X10 6 rfl rfl 5 (by decide) (by decide +kernel) rfl rfl dX11_drain_78 rfl ?_
        refine g_iload_n C dX11_drain_81 rfl 2 rfl ?_
        refine g_iconst C dX11_drain_82 rfl ?_
        refine g_iadd C dX11_drain_83 rfl ?_
        refine g_dup2 C dX11_drain_84 rfl rfl rfl ?_
        refine g_iald (f := (S.1 4)) C dX11_drain_85 rfl 10 rfl (by omega) (by decide) ?_
        have b85 := okS_42 hS p
        refine g_iconst C dX11_drain_86 rfl ?_
        refine g_isub C dX11_drain_87 rfl ?_
        refine g_iast (f := (S.1 4)) (ws' := wM E am ss sa M ++ (wS E ad (setA (setA S 3 (fset (S.1 3) ((S.1 4) ((5) * p)) (((S.1 3) ((S.1 4) ((5) * p))) - (min ((S.1 4) (((5) * p) + (1))) ((S.1 3) ((S.1 4) ((5) * p))))))) 4 (fset (S.1 4) (((5) * p) + (2)) (((S.1 4) (((5) * p) + (2))) - (1)))))) C dX11_drain_88 rfl 10 rfl (by omega) (by decide) rfl ?_
        refine g_aload_n C dX11_drain_89 rfl 4 rfl ?_
        refine g_getN (v := .ref (ad 4)) (T := TX10) (N := 10) (ci := 9) C rfl in_X10 6 rfl rfl 5 (by decide) (by decide +kernel) rfl rfl dX11_drain_90 rfl ?_
        refine g_iload_n C dX11_drain_93 rfl 2 rfl ?_
        refine g_iconst C dX11_drain_94 rfl ?_
        refine g_iadd C dX11_drain_95 rfl ?_
        refine g_dup2 C dX11_drain_96 rfl rfl rfl ?_
        refine g_iald (f := (fset (S.1 4) (((5) * p) + (2)) (((S.1 4) (((5) * p) + (2))) - (1)))) C dX11_drain_97 rfl 10 rfl (by omega) (by decide) ?_
        refine g_iload C dX11_drain_98 rfl 0 rfl ?_
        refine g_iadd C dX11_drain_100 rfl ?_
        refine g_iast (f := (fset (S.1 4) (((5) * p) + (2)) (((S.1 4) (((5) * p) + (2))) - (1)))) (ws' := wM E am ss sa M ++ (wS E ad (setA (setA S 3 (fset (S.1 3) ((S.1 4) ((5) * p)) (((S.1 3) ((S.1 4) ((5) * p))) - (min ((S.1 4) (((5) * p) + (1))) ((S.1 3) ((S.1 4) ((5) * p))))))) 4 (fset (fset (S.1 4) (((5) * p) + (2)) (((S.1 4) (((5) * p) + (2))) - (1))) (((5) * p) + (4)) (((fset (S.1 4) (((5) * p) + (2)) (((S.1 4) (((5) * p) + (2))) - (1))) (((5) * p) + (4))) + (min ((S.1 4) (((5) * p) + (1))) ((S.1 3) ((S.1 4) ((5) * p))))))))) C dX11_drain_101 rfl 10 rfl (by omega) (by decide) rfl ?_
        exact z_vret C Z dX11_drain_102 rfl (by unfold drainS ownM; first | (rw [if_pos (by omega)]) | (rw [if_neg (by omega), fset_ne (f := S.1 4) (a := 5 * p + 2) (j := 5 * p + 4) (by omega)]))
      · skip
        exact z_vret C Z dX11_drain_44 rfl (by unfold drainS ownM; first | (rw [if_pos (by omega)]) | (rw [if_neg (by omega), fset_ne (f := S.1 4) (a := 5 * p + 2) (j := 5 * p + 4) (by omega)]))
