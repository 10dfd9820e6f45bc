abbrev r_X9_digestOfTools : Room := { frames := 2, cells := 0, slots := 0, locals := 45 }
set_option maxHeartbeats 4000000 in
set_option maxRecDepth 100000 in
theorem k_X9_digestOfTools (l : Launch) (E : gE) (o tr : Nat) (ad : Nat → Nat) (S : gS) (d : Int64) (hS : okT S) : gK l E yX9_digestOfTools cX9_digestOfTools 7 (some .long) r_X9_digestOfTools [.ref o, .long d] ([(o, .inr (8, [.ref (ad 0), .ref tr]))] ++ (wT E ad S)) (some (.long (ceT S d))) ([(o, .inr (8, [.ref (ad 0), .ref tr]))] ++ (wT E ad S)) := by
  refine gK_by RX9 rfl mX9_digestOfTools [(0, .ref o), (1, .long d)] (Nat.le_of_ble_eq_true rfl) rfl ?_
  intro zp ze zs zm za zb zh zc zA zQ C Z
  refine g_lload_n C dX9_digestOfTools_0 rfl 1 rfl ?_
  refine g_lstore_n (lv' := [(3, .long d), (0, .ref o), (1, .long d)]) C dX9_digestOfTools_1 rfl (by decide) rfl ?_
  refine g_iconst C dX9_digestOfTools_2 rfl ?_
  refine g_istore (lv' := [(5, .int (iI (0))), (3, .long d), (0, .ref o), (1, .long d)]) C dX9_digestOfTools_3 rfl (by decide) rfl ?_
  have L5 : ∀ k1 : Nat, k1 ≤ (S.2 1).toNat → gG E zp l ze r_X9_digestOfTools zs zm za zb zh zc zA 7 0 0 zQ ([(o, .inr (8, [.ref (ad 0), .ref tr]))] ++ (wT E ad S)) 5 [(5, .int (iI (k1 : Int))), (3, .long (cdI (pTell S) 6 (d) k1)), (0, .ref o), (1, .long d)] [] := by
    refine g_up ((S.2 1).toNat) _ ?_
    intro k1 ih5 hk5
    obtain ⟨x1, hx5⟩ : ∃ z, z = cdI (pTell S) 6 (d) k1 := ⟨_, rfl⟩
    rw [← hx5]
    have ff5 := okT_i1 hS
    refine g_iload C dX9_digestOfTools_5 rfl 0 rfl ?_
    refine g_aload_n C dX9_digestOfTools_7 rfl 2 rfl ?_
    refine g_get (v := .ref (ad 0)) (T := TX9) (N := 2) (ci := 8) C in_X9 0 rfl rfl 0 (by decide) wd244 (Or.inl rfl) rfl dX9_digestOfTools_8 rfl ?_
    refine g_get (v := .ref (ad 7)) (T := TX7) (N := 8) (ci := 6) C in_X7 1 rfl rfl 2 (by decide) wd217 (Or.inl rfl) rfl dX9_digestOfTools_11 rfl ?_
    refine g_get (v := .int (iI (S.2 1))) (T := TX5) (N := 6) (ci := 4) C in_X5 8 rfl rfl 1 (by decide) wd108 (Or.inr wd98) rfl dX9_digestOfTools_14 rfl ?_
    have f14 := okT_i1 hS
    refine g_icmp_ge C dX9_digestOfTools_17 64 (by decide) rfl (by omega) (by omega) (fun c17 => ?_) (fun c17 => ?_)
    · skip
      have hz5 : x1 = ce4 S d := by rw [hx5, show k1 = (S.2 1).toNat from by omega]; rfl
      refine g_to [0, 1, 2, 3] (lv1 := [(5, .int (iI (k1 : Int))), (3, .long (ce4 S d)), (0, .ref o), (1, .long d)]) ?_ rfl (by rw [hz5]; rfl) rfl
      refine g_iconst C dX9_digestOfTools_64 rfl ?_
      refine g_istore (lv' := [(5, .int (iI (0))), (3, .long (ce4 S d)), (0, .ref o), (1, .long d)]) C dX9_digestOfTools_65 rfl (by decide) rfl ?_
      have L67 : ∀ k2 : Nat, k2 ≤ (S.2 2).toNat → gG E zp l ze r_X9_digestOfTools zs zm za zb zh zc zA 7 0 0 zQ ([(o, .inr (8, [.ref (ad 0), .ref tr]))] ++ (wT E ad S)) 67 [(5, .int (iI (k2 : Int))), (3, .long (cdI (gTell S) 5 (ce4 S d) k2)), (0, .ref o), (1, .long d)] [] := by
        refine g_up ((S.2 2).toNat) _ ?_
        intro k2 ih67 hk67
        obtain ⟨x2, hx67⟩ : ∃ z, z = cdI (gTell S) 5 (ce4 S d) k2 := ⟨_, rfl⟩
        rw [← hx67]
        have ff67 := okT_i2 hS
        refine g_iload C dX9_digestOfTools_67 rfl 0 rfl ?_
        refine g_aload_n C dX9_digestOfTools_69 rfl 2 rfl ?_
        refine g_get (v := .ref (ad 0)) (T := TX9) (N := 2) (ci := 8) C in_X9 0 rfl rfl 0 (by decide) wd244 (Or.inl rfl) rfl dX9_digestOfTools_70 rfl ?_
        refine g_get (v := .ref (ad 13)) (T := TX7) (N := 8) (ci := 6) C in_X7 1 rfl rfl 3 (by decide) wd219 (Or.inl rfl) rfl dX9_digestOfTools_73 rfl ?_
        refine g_get (v := .int (iI (S.2 2))) (T := TX1) (N := 3) (ci := 1) C in_X1 14 rfl rfl 1 (by decide) wd109 (Or.inr wd100) rfl dX9_digestOfTools_76 rfl ?_
        have f76 := okT_i2 hS
        refine g_icmp_ge C dX9_digestOfTools_79 132 (by decide) rfl (by omega) (by omega) (fun c79 => ?_) (fun c79 => ?_)
        · skip
          have hz67 : x2 = ce5 S (ce4 S d) := by rw [hx67, show k2 = (S.2 2).toNat from by omega]; rfl
          refine g_to [0, 1, 2, 3] (lv1 := [(5, .int (iI (k2 : Int))), (3, .long (ce5 S (ce4 S d))), (0, .ref o), (1, .long d)]) ?_ rfl (by rw [hz67]; rfl) rfl
          refine g_iconst C dX9_digestOfTools_132 rfl ?_
          refine g_istore (lv' := [(5, .int (iI (0))), (3, .long (ce5 S (ce4 S d))), (0, .ref o), (1, .long d)]) C dX9_digestOfTools_133 rfl (by decide) rfl ?_
          have L135 : ∀ k3 : Nat, k3 ≤ (S.2 3).toNat → gG E zp l ze r_X9_digestOfTools zs zm za zb zh zc zA 7 0 0 zQ ([(o, .inr (8, [.ref (ad 0), .ref tr]))] ++ (wT E ad S)) 135 [(5, .int (iI (k3 : Int))), (3, .long (cdI (rTell S) 5 (ce5 S (ce4 S d)) k3)), (0, .ref o), (1, .long d)] [] := by
            refine g_up ((S.2 3).toNat) _ ?_
            intro k3 ih135 hk135
            obtain ⟨x3, hx135⟩ : ∃ z, z = cdI (rTell S) 5 (ce5 S (ce4 S d)) k3 := ⟨_, rfl⟩
            rw [← hx135]
            have ff135 := okT_i3 hS
            refine g_iload C dX9_digestOfTools_135 rfl 0 rfl ?_
            refine g_aload_n C dX9_digestOfTools_137 rfl 2 rfl ?_
            refine g_get (v := .ref (ad 0)) (T := TX9) (N := 2) (ci := 8) C in_X9 0 rfl rfl 0 (by decide) wd244 (Or.inl rfl) rfl dX9_digestOfTools_138 rfl ?_
            refine g_get (v := .ref (ad 16)) (T := TX7) (N := 8) (ci := 6) C in_X7 1 rfl rfl 4 (by decide) wd221 (Or.inl rfl) rfl dX9_digestOfTools_141 rfl ?_
            refine g_get (v := .int (iI (S.2 3))) (T := TX6) (N := 5) (ci := 5) C in_X6 17 rfl rfl 1 (by decide) wd110 (Or.inr wd102) rfl dX9_digestOfTools_144 rfl ?_
            have f144 := okT_i3 hS
            refine g_icmp_ge C dX9_digestOfTools_147 193 (by decide) rfl (by omega) (by omega) (fun c147 => ?_) (fun c147 => ?_)
            · skip
              have hz135 : x3 = ceT S d := by rw [hx135, show k3 = (S.2 3).toNat from by omega]; rfl
              refine g_lload_n C dX9_digestOfTools_193 rfl 1 rfl ?_
              exact z_lret C Z dX9_digestOfTools_194 (by rw [hz135]) rfl
            · skip
              refine g_iconst C dX9_digestOfTools_150 rfl ?_
              refine g_istore (lv' := [(6, .int (iI (0))), (5, .int (iI (k3 : Int))), (3, .long x3), (0, .ref o), (1, .long d)]) C dX9_digestOfTools_151 rfl (by decide) rfl ?_
              have L153 : ∀ j3 : Nat, j3 ≤ 5 → gG E zp l ze r_X9_digestOfTools zs zm za zb zh zc zA 7 0 0 zQ ([(o, .inr (8, [.ref (ad 0), .ref tr]))] ++ (wT E ad S)) 153 [(6, .int (iI (j3 : Int))), (5, .int (iI (k3 : Int))), (3, .long (dgI (rTell S (k3 : Int)) x3 j3)), (0, .ref o), (1, .long d)] [] := by
                refine g_up (5) _ ?_
                intro j3 ih153 hk153
                obtain ⟨y3, hx153⟩ : ∃ z, z = dgI (rTell S (k3 : Int)) x3 j3 := ⟨_, rfl⟩
                rw [← hx153]
                refine g_iload C dX9_digestOfTools_153 rfl 0 rfl ?_
                refine g_iconst C dX9_digestOfTools_155 rfl ?_
                refine g_icmp_ge C dX9_digestOfTools_156 187 (by decide) rfl (by omega) (by omega) (fun c156 => ?_) (fun c156 => ?_)
                · skip
                  have hz153 : y3 = dgI (rTell S (k3 : Int)) x3 5 := by rw [hx153, show j3 = 5 from by omega] <;> rfl
                  refine g_iinc (lv' := [(5, .int (iI ((k3 : Int) + 1))), (6, .int (iI (j3 : Int))), (3, .long y3), (0, .ref o), (1, .long d)]) C dX9_digestOfTools_187 rfl 1 rfl (by decide) rfl ?_
                  refine g_goto C dX9_digestOfTools_190 135 (by decide) ?_
                  have e135 : (cdB (rTell S) 5) k3 x3 = y3 := by
                    rw [hz153]; rfl
                  have i135 := ih135 (by omega)
                  rw [show cdI (rTell S) 5 (ce5 S (ce4 S d)) (k3 + 1) = y3 from by rw [← e135, hx135]; rfl] at i135
                  exact g_to [0, 2, 3, 4] (i135) rfl rfl rfl
                · skip
                  refine g_lload_n C dX9_digestOfTools_159 rfl 2 rfl ?_
                  refine g_ldc2 C wd264 dX9_digestOfTools_160 rfl ?_
                  refine g_lmul C dX9_digestOfTools_163 rfl ?_
                  refine g_aload_n C dX9_digestOfTools_164 rfl 3 rfl ?_
                  refine g_get (v := .ref (ad 0)) (T := TX9) (N := 2) (ci := 8) C in_X9 0 rfl rfl 0 (by decide) wd244 (Or.inl rfl) rfl dX9_digestOfTools_165 rfl ?_
                  refine g_get (v := .ref (ad 16)) (T := TX7) (N := 8) (ci := 6) C in_X7 1 rfl rfl 4 (by decide) wd221 (Or.inl rfl) rfl dX9_digestOfTools_168 rfl ?_
                  refine g_iload C dX9_digestOfTools_171 rfl 1 rfl ?_
                  refine g_iload C dX9_digestOfTools_173 rfl 0 rfl ?_
                  refine g_perm (ws1 := wT E ad S ++ ([(o, .inr (8, [.ref (ad 0), .ref tr]))])) pm_10 ?_
                  refine g_callVf (As := [.int (iI (k3 : Int)), .int (iI (j3 : Int))]) (rv := some (.int (iI (rTell S (k3 : Int) (j3 : Int))))) (w1 := wT E ad S) (kc' := 0) (ks' := 0) C ([(o, .inr (8, [.ref (ad 0), .ref tr]))]) (k_X6_tell l E ad S (k3 : Int) (j3 : Int) hS (by omega) (by omega)) mX6_tell iX6_tell wd340 16 5 rfl rfl rfl rfl rfl (Nat.le_of_ble_eq_true rfl) ⟨Nat.le_of_ble_eq_true rfl, Nat.le_of_ble_eq_true rfl⟩ ⟨Nat.le_of_ble_eq_true rfl, Nat.le_of_ble_eq_true rfl⟩ rfl rfl rfl dX9_digestOfTools_175 rfl ?_
                  refine g_perm (ws1 := [(o, .inr (8, [.ref (ad 0), .ref tr]))] ++ (wT E ad S)) pm_10 ?_
                  refine g_i2l C dX9_digestOfTools_178 rfl ?_
                  refine g_ladd C dX9_digestOfTools_179 rfl ?_
                  refine g_lstore_n (lv' := [(3, .long ((y3 * (31 : Int64)) + (lI (rTell S (k3 : Int) (j3 : Int))))), (6, .int (iI (j3 : Int))), (5, .int (iI (k3 : Int))), (0, .ref o), (1, .long d)]) C dX9_digestOfTools_180 rfl (by decide) rfl ?_
                  refine g_iinc (lv' := [(6, .int (iI ((j3 : Int) + 1))), (3, .long ((y3 * (31 : Int64)) + (lI (rTell S (k3 : Int) (j3 : Int))))), (5, .int (iI (k3 : Int))), (0, .ref o), (1, .long d)]) C dX9_digestOfTools_181 rfl 1 rfl (by decide) rfl ?_
                  refine g_goto C dX9_digestOfTools_184 153 (by decide) ?_
                  have e153 : (dgB (rTell S (k3 : Int))) j3 y3 = ((y3 * (31 : Int64)) + (lI (rTell S (k3 : Int) (j3 : Int)))) := by
                    rfl
                  have i153 := ih153 (by omega)
                  rw [show dgI (rTell S (k3 : Int)) x3 (j3 + 1) = ((y3 * (31 : Int64)) + (lI (rTell S (k3 : Int) (j3 : Int)))) from by rw [← e153, hx153]; rfl] at i153
                  exact g_to [0, 2, 1, 3, 4] (i153) rfl rfl rfl
              refine g_to [0, 1, 2, 3, 4] (L153 0 (by omega)) rfl (by rw [dgI_0]; rfl) rfl
          refine g_to [0, 1, 2, 3] (L135 0 (by omega)) rfl (by rw [cdI_0]; rfl) rfl
        · skip
          refine g_iconst C dX9_digestOfTools_82 rfl ?_
          refine g_istore (lv' := [(6, .int (iI (0))), (5, .int (iI (k2 : Int))), (3, .long x2), (0, .ref o), (1, .long d)]) C dX9_digestOfTools_83 rfl (by decide) rfl ?_
          have L85 : ∀ j2 : Nat, j2 ≤ 5 → gG E zp l ze r_X9_digestOfTools zs zm za zb zh zc zA 7 0 0 zQ ([(o, .inr (8, [.ref (ad 0), .ref tr]))] ++ (wT E ad S)) 85 [(6, .int (iI (j2 : Int))), (5, .int (iI (k2 : Int))), (3, .long (dgI (gTell S (k2 : Int)) x2 j2)), (0, .ref o), (1, .long d)] [] := by
            refine g_up (5) _ ?_
            intro j2 ih85 hk85
            obtain ⟨y2, hx85⟩ : ∃ z, z = dgI (gTell S (k2 : Int)) x2 j2 := ⟨_, rfl⟩
            rw [← hx85]
            refine g_iload C dX9_digestOfTools_85 rfl 0 rfl ?_
            refine g_iconst C dX9_digestOfTools_87 rfl ?_
            refine g_icmp_ge C dX9_digestOfTools_88 126 (by decide) rfl (by omega) (by omega) (fun c88 => ?_) (fun c88 => ?_)
            · skip
              have hz85 : y2 = dgI (gTell S (k2 : Int)) x2 5 := by rw [hx85, show j2 = 5 from by omega] <;> rfl
              refine g_iinc (lv' := [(5, .int (iI ((k2 : Int) + 1))), (6, .int (iI (j2 : Int))), (3, .long y2), (0, .ref o), (1, .long d)]) C dX9_digestOfTools_126 rfl 1 rfl (by decide) rfl ?_
              refine g_goto C dX9_digestOfTools_129 67 (by decide) ?_
              have e67 : (cdB (gTell S) 5) k2 x2 = y2 := by
                rw [hz85]; rfl
              have i67 := ih67 (by omega)
              rw [show cdI (gTell S) 5 (ce4 S d) (k2 + 1) = y2 from by rw [← e67, hx67]; rfl] at i67
              exact g_to [0, 2, 3, 4] (i67) rfl rfl rfl
            · skip
              refine g_lload_n C dX9_digestOfTools_91 rfl 2 rfl ?_
              refine g_ldc2 C wd264 dX9_digestOfTools_92 rfl ?_
              refine g_lmul C dX9_digestOfTools_95 rfl ?_
              refine g_aload_n C dX9_digestOfTools_96 rfl 3 rfl ?_
              refine g_get (v := .ref (ad 0)) (T := TX9) (N := 2) (ci := 8) C in_X9 0 rfl rfl 0 (by decide) wd244 (Or.inl rfl) rfl dX9_digestOfTools_97 rfl ?_
              refine g_get (v := .ref (ad 13)) (T := TX7) (N := 8) (ci := 6) C in_X7 1 rfl rfl 3 (by decide) wd219 (Or.inl rfl) rfl dX9_digestOfTools_100 rfl ?_
              refine g_iload C dX9_digestOfTools_103 rfl 1 rfl ?_
              refine g_iload C dX9_digestOfTools_105 rfl 0 rfl ?_
              refine g_aload_n C dX9_digestOfTools_107 rfl 3 rfl ?_
              refine g_get (v := .ref (ad 0)) (T := TX9) (N := 2) (ci := 8) C in_X9 0 rfl rfl 0 (by decide) wd244 (Or.inl rfl) rfl dX9_digestOfTools_108 rfl ?_
              refine g_get (v := .ref (ad 1)) (T := TX7) (N := 8) (ci := 6) C in_X7 1 rfl rfl 1 (by decide) wd215 (Or.inl rfl) rfl dX9_digestOfTools_111 rfl ?_
              refine g_perm (ws1 := wT E ad S ++ ([(o, .inr (8, [.ref (ad 0), .ref tr]))])) pm_10 ?_
              refine g_callVf (As := [.int (iI (k2 : Int)), .int (iI (j2 : Int)), .ref (ad 1)]) (rv := some (.int (iI (gTell S (k2 : Int) (j2 : Int))))) (w1 := wT E ad S) (kc' := 0) (ks' := 0) C ([(o, .inr (8, [.ref (ad 0), .ref tr]))]) (k_X1_tell l E ad S (k2 : Int) (j2 : Int) hS (by omega) (by omega)) mX1_tell iX1_tell wd330 13 1 rfl rfl rfl rfl rfl (Nat.le_of_ble_eq_true rfl) ⟨Nat.le_of_ble_eq_true rfl, Nat.le_of_ble_eq_true rfl⟩ ⟨Nat.le_of_ble_eq_true rfl, Nat.le_of_ble_eq_true rfl⟩ rfl rfl rfl dX9_digestOfTools_114 rfl ?_
              refine g_perm (ws1 := [(o, .inr (8, [.ref (ad 0), .ref tr]))] ++ (wT E ad S)) pm_10 ?_
              refine g_i2l C dX9_digestOfTools_117 rfl ?_
              refine g_ladd C dX9_digestOfTools_118 rfl ?_
              refine g_lstore_n (lv' := [(3, .long ((y2 * (31 : Int64)) + (lI (gTell S (k2 : Int) (j2 : Int))))), (6, .int (iI (j2 : Int))), (5, .int (iI (k2 : Int))), (0, .ref o), (1, .long d)]) C dX9_digestOfTools_119 rfl (by decide) rfl ?_
              refine g_iinc (lv' := [(6, .int (iI ((j2 : Int) + 1))), (3, .long ((y2 * (31 : Int64)) + (lI (gTell S (k2 : Int) (j2 : Int))))), (5, .int (iI (k2 : Int))), (0, .ref o), (1, .long d)]) C dX9_digestOfTools_120 rfl 1 rfl (by decide) rfl ?_
              refine g_goto C dX9_digestOfTools_123 85 (by decide) ?_
              have e85 : (dgB (gTell S (k2 : Int))) j2 y2 = ((y2 * (31 : Int64)) + (lI (gTell S (k2 : Int) (j2 : Int)))) := by
                rfl
              have i85 := ih85 (by omega)
              rw [show dgI (gTell S (k2 : Int)) x2 (j2 + 1) = ((y2 * (31 : Int64)) + (lI (gTell S (k2 : Int) (j2 : Int)))) from by rw [← e85, hx85]; rfl] at i85
              exact g_to [0, 2, 1, 3, 4] (i85) rfl rfl rfl
          refine g_to [0, 1, 2, 3, 4] (L85 0 (by omega)) rfl (by rw [dgI_0]; rfl) rfl
      refine g_to [0, 1, 2, 3] (L67 0 (by omega)) rfl (by rw [cdI_0]; rfl) rfl
    · skip
      refine g_iconst C dX9_digestOfTools_20 rfl ?_
      refine g_istore (lv' := [(6, .int (iI (0))), (5, .int (iI (k1 : Int))), (3, .long x1), (0, .ref o), (1, .long d)]) C dX9_digestOfTools_21 rfl (by decide) rfl ?_
      have L23 : ∀ j1 : Nat, j1 ≤ 6 → gG E zp l ze r_X9_digestOfTools zs zm za zb zh zc zA 7 0 0 zQ ([(o, .inr (8, [.ref (ad 0), .ref tr]))] ++ (wT E ad S)) 23 [(6, .int (iI (j1 : Int))), (5, .int (iI (k1 : Int))), (3, .long (dgI (pTell S (k1 : Int)) x1 j1)), (0, .ref o), (1, .long d)] [] := by
        refine g_up (6) _ ?_
        intro j1 ih23 hk23
        obtain ⟨y1, hx23⟩ : ∃ z, z = dgI (pTell S (k1 : Int)) x1 j1 := ⟨_, rfl⟩
        rw [← hx23]
        refine g_iload C dX9_digestOfTools_23 rfl 0 rfl ?_
        refine g_bipush C dX9_digestOfTools_25 rfl rfl ?_
        refine g_icmp_ge C dX9_digestOfTools_27 58 (by decide) rfl (by omega) (by omega) (fun c27 => ?_) (fun c27 => ?_)
        · skip
          have hz23 : y1 = dgI (pTell S (k1 : Int)) x1 6 := by rw [hx23, show j1 = 6 from by omega] <;> rfl
          refine g_iinc (lv' := [(5, .int (iI ((k1 : Int) + 1))), (6, .int (iI (j1 : Int))), (3, .long y1), (0, .ref o), (1, .long d)]) C dX9_digestOfTools_58 rfl 1 rfl (by decide) rfl ?_
          refine g_goto C dX9_digestOfTools_61 5 (by decide) ?_
          have e5 : (cdB (pTell S) 6) k1 x1 = y1 := by
            rw [hz23]; rfl
          have i5 := ih5 (by omega)
          rw [show cdI (pTell S) 6 (d) (k1 + 1) = y1 from by rw [← e5, hx5]; rfl] at i5
          exact g_to [0, 2, 3, 4] (i5) rfl rfl rfl
        · skip
          refine g_lload_n C dX9_digestOfTools_30 rfl 2 rfl ?_
          refine g_ldc2 C wd264 dX9_digestOfTools_31 rfl ?_
          refine g_lmul C dX9_digestOfTools_34 rfl ?_
          refine g_aload_n C dX9_digestOfTools_35 rfl 3 rfl ?_
          refine g_get (v := .ref (ad 0)) (T := TX9) (N := 2) (ci := 8) C in_X9 0 rfl rfl 0 (by decide) wd244 (Or.inl rfl) rfl dX9_digestOfTools_36 rfl ?_
          refine g_get (v := .ref (ad 7)) (T := TX7) (N := 8) (ci := 6) C in_X7 1 rfl rfl 2 (by decide) wd217 (Or.inl rfl) rfl dX9_digestOfTools_39 rfl ?_
          refine g_iload C dX9_digestOfTools_42 rfl 1 rfl ?_
          refine g_iload C dX9_digestOfTools_44 rfl 0 rfl ?_
          refine g_perm (ws1 := wT E ad S ++ ([(o, .inr (8, [.ref (ad 0), .ref tr]))])) pm_10 ?_
          refine g_callVf (As := [.int (iI (k1 : Int)), .int (iI (j1 : Int))]) (rv := some (.int (iI (pTell S (k1 : Int) (j1 : Int))))) (w1 := wT E ad S) (kc' := 0) (ks' := 0) C ([(o, .inr (8, [.ref (ad 0), .ref tr]))]) (k_X5_tell l E ad S (k1 : Int) (j1 : Int) hS (by omega) (by omega)) mX5_tell iX5_tell wd314 7 4 rfl rfl rfl rfl rfl (Nat.le_of_ble_eq_true rfl) ⟨Nat.le_of_ble_eq_true rfl, Nat.le_of_ble_eq_true rfl⟩ ⟨Nat.le_of_ble_eq_true rfl, Nat.le_of_ble_eq_true rfl⟩ rfl rfl rfl dX9_digestOfTools_46 rfl ?_
          refine g_perm (ws1 := [(o, .inr (8, [.ref (ad 0), .ref tr]))] ++ (wT E ad S)) pm_10 ?_
          refine g_i2l C dX9_digestOfTools_49 rfl ?_
          refine g_ladd C dX9_digestOfTools_50 rfl ?_
          refine g_lstore_n (lv' := [(3, .long ((y1 * (31 : Int64)) + (lI (pTell S (k1 : Int) (j1 : Int))))), (6, .int (iI (j1 : Int))), (5, .int (iI (k1 : Int))), (0, .ref o), (1, .long d)]) C dX9_digestOfTools_51 rfl (by decide) rfl ?_
          refine g_iinc (lv' := [(6, .int (iI ((j1 : Int) + 1))), (3, .long ((y1 * (31 : Int64)) + (lI (pTell S (k1 : Int) (j1 : Int))))), (5, .int (iI (k1 : Int))), (0, .ref o), (1, .long d)]) C dX9_digestOfTools_52 rfl 1 rfl (by decide) rfl ?_
          refine g_goto C dX9_digestOfTools_55 23 (by decide) ?_
          have e23 : (dgB (pTell S (k1 : Int))) j1 y1 = ((y1 * (31 : Int64)) + (lI (pTell S (k1 : Int) (j1 : Int)))) := by
            rfl
          have i23 := ih23 (by omega)
          rw [show dgI (pTell S (k1 : Int)) x1 (j1 + 1) = ((y1 * (31 : Int64)) + (lI (pTell S (k1 : Int) (j1 : Int)))) from by rw [← e23, hx23]; rfl] at i23
          exact g_to [0, 2, 1, 3, 4] (i23) rfl rfl rfl
      refine g_to [0, 1, 2, 3, 4] (L23 0 (by omega)) rfl (by rw [dgI_0]; rfl) rfl
  refine g_to [0, 1, 2, 3] (L5 0 (by omega)) rfl (by rw [cdI_0]; rfl) rfl
abbrev r_X9_digestOfPeople : Room := { frames := 5, cells := 0, slots := 0, locals := 112 }
set_option maxHeartbeats 4000000 in
set_option maxRecDepth 100000 in
theorem k_X9_digestOfPeople (l : Launch) (E : gE) (o tr : Nat) (ad : Nat → Nat) (S : gS) (d : Int64) (hS : okT S) : gK l E yX9_digestOfPeople cX9_digestOfPeople 7 (some .long) r_X9_digestOfPeople [.ref o, .long d] ([(o, .inr (8, [.ref (ad 0), .ref tr]))] ++ (wT E ad S)) (some (.long (ceP S d))) ([(o, .inr (8, [.ref (ad 0), .ref tr]))] ++ (wT E ad (ce7 S d).2)) := by
  refine gK_by RX9 rfl mX9_digestOfPeople [(0, .ref o), (1, .long d)] (Nat.le_of_ble_eq_true rfl) rfl ?_
  intro zp ze zs zm za zb zh zc zA zQ C Z
  refine g_lload_n C dX9_digestOfPeople_0 rfl 1 rfl ?_
  refine g_lstore_n (lv' := [(3, .long d), (0, .ref o), (1, .long d)]) C dX9_digestOfPeople_1 rfl (by decide) rfl ?_
  refine g_iconst C dX9_digestOfPeople_2 rfl ?_
  refine g_istore (lv' := [(5, .int (iI (0))), (3, .long d), (0, .ref o), (1, .long d)]) C dX9_digestOfPeople_3 rfl (by decide) rfl ?_
  have L5 : ∀ k1 : Nat, k1 ≤ (S.2 4).toNat → gG E zp l ze r_X9_digestOfPeople zs zm za zb zh zc zA 7 0 0 zQ ([(o, .inr (8, [.ref (ad 0), .ref tr]))] ++ (wT E ad (peI S d k1).2)) 5 [(5, .int (iI (k1 : Int))), (3, .long (peI S d k1).1), (0, .ref o), (1, .long d)] [] := by
    refine g_up ((S.2 4).toNat) _ ?_
    intro k1 ih5 hk5
    have iv5_0 := peI_b (d := d) hS k1
    obtain ⟨x1, hx5⟩ : ∃ z, z = peI S d k1 := ⟨_, rfl⟩
    rw [← hx5]
    rw [← hx5] at iv5_0
    have ff5 := okT_i4 hS
    have em5 := iv5_0.2 4 (by decide)
    refine g_iload C dX9_digestOfPeople_5 rfl 0 rfl ?_
    refine g_aload_n C dX9_digestOfPeople_7 rfl 2 rfl ?_
    refine g_get (v := .ref (ad 0)) (T := TX9) (N := 2) (ci := 8) C in_X9 0 rfl rfl 0 (by decide) wd244 (Or.inl rfl) rfl dX9_digestOfPeople_8 rfl ?_
    refine g_get (v := .ref (ad 21)) (T := TX7) (N := 8) (ci := 6) C in_X7 1 rfl rfl 5 (by decide) wd223 (Or.inl rfl) rfl dX9_digestOfPeople_11 rfl ?_
    refine g_get (v := .int (iI (x1.2.2 4))) (T := TX2) (N := 5) (ci := 2) C in_X2 22 rfl rfl 1 (by decide) wd111 (Or.inr wd104) rfl dX9_digestOfPeople_14 rfl ?_
    have f14 := okT_i4 iv5_0.1
    refine g_icmp_ge C dX9_digestOfPeople_17 60 (by decide) rfl (by omega) (by omega) (fun c17 => ?_) (fun c17 => ?_)
    · skip
      have hz5 : x1 = ce7 S d := by rw [hx5, show k1 = (S.2 4).toNat from by omega]; rfl
      have k79 : okT (ce7 S d).2 ∧ ∀ j : Nat, j ≠ 7 → (ce7 S d).2.2 j = S.2 j := peI_b (d := d) hS (S.2 4).toNat
      refine g_to [0, 1, 2, 3] (ws1 := [(o, .inr (8, [.ref (ad 0), .ref tr]))] ++ (wT E ad (ce7 S d).2)) (lv1 := [(5, .int (iI (k1 : Int))), (3, .long (ce7 S d).1), (0, .ref o), (1, .long d)]) ?_ (by rw [hz5]) (by rw [hz5]; rfl) rfl
      refine g_iconst C dX9_digestOfPeople_60 rfl ?_
      refine g_istore (lv' := [(5, .int (iI (0))), (3, .long (ce7 S d).1), (0, .ref o), (1, .long d)]) C dX9_digestOfPeople_61 rfl (by decide) rfl ?_
      have L63 : ∀ k2 : Nat, k2 ≤ ((ce7 S d).2.2 6).toNat → gG E zp l ze r_X9_digestOfPeople zs zm za zb zh zc zA 7 0 0 zQ ([(o, .inr (8, [.ref (ad 0), .ref tr]))] ++ (wT E ad (ce7 S d).2)) 63 [(5, .int (iI (k2 : Int))), (3, .long (cdI (cTell (ce7 S d).2) 3 ((ce7 S d).1) k2)), (0, .ref o), (1, .long d)] [] := by
        refine g_up (((ce7 S d).2.2 6).toNat) _ ?_
        intro k2 ih63 hk63
        obtain ⟨x2, hx63⟩ : ∃ z, z = cdI (cTell (ce7 S d).2) 3 ((ce7 S d).1) k2 := ⟨_, rfl⟩
        rw [← hx63]
        have ff63 : 0 ≤ (ce7 S d).2.2 6 ∧ (ce7 S d).2.2 6 ≤ 3 := okT_i6 k79.1
        refine g_iload C dX9_digestOfPeople_63 rfl 0 rfl ?_
        refine g_aload_n C dX9_digestOfPeople_65 rfl 2 rfl ?_
        refine g_get (v := .ref (ad 0)) (T := TX9) (N := 2) (ci := 8) C in_X9 0 rfl rfl 0 (by decide) wd244 (Or.inl rfl) rfl dX9_digestOfPeople_66 rfl ?_
        refine g_get (v := .ref (ad 25)) (T := TX7) (N := 8) (ci := 6) C in_X7 1 rfl rfl 6 (by decide) wd225 (Or.inl rfl) rfl dX9_digestOfPeople_69 rfl ?_
        refine g_get (v := .int (iI ((ce7 S d).2.2 6))) (T := TX0) (N := 3) (ci := 0) C in_X0 26 rfl rfl 1 (by decide) wd112 (Or.inr wd106) rfl dX9_digestOfPeople_72 rfl ?_
        have f72 := okT_i6 k79.1
        refine g_icmp_ge C dX9_digestOfPeople_75 121 (by decide) rfl (by omega) (by omega) (fun c75 => ?_) (fun c75 => ?_)
        · skip
          have hz63 : x2 = ceP S d := by rw [hx63, show k2 = ((ce7 S d).2.2 6).toNat from by omega]; rfl
          refine g_lload_n C dX9_digestOfPeople_121 rfl 1 rfl ?_
          exact z_lret C Z dX9_digestOfPeople_122 (by rw [hz63]) rfl
        · skip
          refine g_iconst C dX9_digestOfPeople_78 rfl ?_
          refine g_istore (lv' := [(6, .int (iI (0))), (5, .int (iI (k2 : Int))), (3, .long x2), (0, .ref o), (1, .long d)]) C dX9_digestOfPeople_79 rfl (by decide) rfl ?_
          have L81 : ∀ j2 : Nat, j2 ≤ 3 → gG E zp l ze r_X9_digestOfPeople zs zm za zb zh zc zA 7 0 0 zQ ([(o, .inr (8, [.ref (ad 0), .ref tr]))] ++ (wT E ad (ce7 S d).2)) 81 [(6, .int (iI (j2 : Int))), (5, .int (iI (k2 : Int))), (3, .long (dgI (cTell (ce7 S d).2 (k2 : Int)) x2 j2)), (0, .ref o), (1, .long d)] [] := by
            refine g_up (3) _ ?_
            intro j2 ih81 hk81
            obtain ⟨y2, hx81⟩ : ∃ z, z = dgI (cTell (ce7 S d).2 (k2 : Int)) x2 j2 := ⟨_, rfl⟩
            rw [← hx81]
            refine g_iload C dX9_digestOfPeople_81 rfl 0 rfl ?_
            refine g_iconst C dX9_digestOfPeople_83 rfl ?_
            refine g_icmp_ge C dX9_digestOfPeople_84 115 (by decide) rfl (by omega) (by omega) (fun c84 => ?_) (fun c84 => ?_)
            · skip
              have hz81 : y2 = dgI (cTell (ce7 S d).2 (k2 : Int)) x2 3 := by rw [hx81, show j2 = 3 from by omega] <;> rfl
              refine g_iinc (lv' := [(5, .int (iI ((k2 : Int) + 1))), (6, .int (iI (j2 : Int))), (3, .long y2), (0, .ref o), (1, .long d)]) C dX9_digestOfPeople_115 rfl 1 rfl (by decide) rfl ?_
              refine g_goto C dX9_digestOfPeople_118 63 (by decide) ?_
              have e63 : (cdB (cTell (ce7 S d).2) 3) k2 x2 = y2 := by
                rw [hz81]; rfl
              have i63 := ih63 (by omega)
              rw [show cdI (cTell (ce7 S d).2) 3 ((ce7 S d).1) (k2 + 1) = y2 from by rw [← e63, hx63]; rfl] at i63
              exact g_to [0, 2, 3, 4] (i63) rfl rfl rfl
            · skip
              refine g_lload_n C dX9_digestOfPeople_87 rfl 2 rfl ?_
              refine g_ldc2 C wd264 dX9_digestOfPeople_88 rfl ?_
              refine g_lmul C dX9_digestOfPeople_91 rfl ?_
              refine g_aload_n C dX9_digestOfPeople_92 rfl 3 rfl ?_
              refine g_get (v := .ref (ad 0)) (T := TX9) (N := 2) (ci := 8) C in_X9 0 rfl rfl 0 (by decide) wd244 (Or.inl rfl) rfl dX9_digestOfPeople_93 rfl ?_
              refine g_get (v := .ref (ad 25)) (T := TX7) (N := 8) (ci := 6) C in_X7 1 rfl rfl 6 (by decide) wd225 (Or.inl rfl) rfl dX9_digestOfPeople_96 rfl ?_
              refine g_iload C dX9_digestOfPeople_99 rfl 1 rfl ?_
              refine g_iload C dX9_digestOfPeople_101 rfl 0 rfl ?_
              refine g_perm (ws1 := wT E ad (ce7 S d).2 ++ ([(o, .inr (8, [.ref (ad 0), .ref tr]))])) pm_10 ?_
              refine g_callVf (As := [.int (iI (k2 : Int)), .int (iI (j2 : Int))]) (rv := some (.int (iI (cTell ((ce7 S d).2) (k2 : Int) (j2 : Int))))) (w1 := wT E ad (ce7 S d).2) (kc' := 0) (ks' := 0) C ([(o, .inr (8, [.ref (ad 0), .ref tr]))]) (k_X0_tell l E ad ((ce7 S d).2) (k2 : Int) (j2 : Int) k79.1 (by omega) (by omega)) mX0_tell iX0_tell wd392 25 0 rfl rfl rfl rfl rfl (Nat.le_of_ble_eq_true rfl) ⟨Nat.le_of_ble_eq_true rfl, Nat.le_of_ble_eq_true rfl⟩ ⟨Nat.le_of_ble_eq_true rfl, Nat.le_of_ble_eq_true rfl⟩ rfl rfl rfl dX9_digestOfPeople_103 rfl ?_
              refine g_perm (ws1 := [(o, .inr (8, [.ref (ad 0), .ref tr]))] ++ (wT E ad (ce7 S d).2)) pm_10 ?_
              refine g_i2l C dX9_digestOfPeople_106 rfl ?_
              refine g_ladd C dX9_digestOfPeople_107 rfl ?_
              refine g_lstore_n (lv' := [(3, .long ((y2 * (31 : Int64)) + (lI (cTell ((ce7 S d).2) (k2 : Int) (j2 : Int))))), (6, .int (iI (j2 : Int))), (5, .int (iI (k2 : Int))), (0, .ref o), (1, .long d)]) C dX9_digestOfPeople_108 rfl (by decide) rfl ?_
              refine g_iinc (lv' := [(6, .int (iI ((j2 : Int) + 1))), (3, .long ((y2 * (31 : Int64)) + (lI (cTell ((ce7 S d).2) (k2 : Int) (j2 : Int))))), (5, .int (iI (k2 : Int))), (0, .ref o), (1, .long d)]) C dX9_digestOfPeople_109 rfl 1 rfl (by decide) rfl ?_
              refine g_goto C dX9_digestOfPeople_112 81 (by decide) ?_
              have e81 : (dgB (cTell (ce7 S d).2 (k2 : Int))) j2 y2 = ((y2 * (31 : Int64)) + (lI (cTell ((ce7 S d).2) (k2 : Int) (j2 : Int)))) := by
                rfl
              have i81 := ih81 (by omega)
              rw [show dgI (cTell (ce7 S d).2 (k2 : Int)) x2 (j2 + 1) = ((y2 * (31 : Int64)) + (lI (cTell ((ce7 S d).2) (k2 : Int) (j2 : Int)))) from by rw [← e81, hx81]; rfl] at i81
              exact g_to [0, 2, 1, 3, 4] (i81) rfl rfl rfl
          refine g_to [0, 1, 2, 3, 4] (L81 0 (by omega)) rfl (by rw [dgI_0]; rfl) rfl
      refine g_to [0, 1, 2, 3] (L63 0 (by omega)) rfl (by rw [cdI_0]; rfl) rfl
    · skip
      refine g_iconst C dX9_digestOfPeople_20 rfl ?_
      refine g_istore (lv' := [(6, .int (iI (0))), (5, .int (iI (k1 : Int))), (3, .long x1.1), (0, .ref o), (1, .long d)]) C dX9_digestOfPeople_21 rfl (by decide) rfl ?_
      have L23 : ∀ j1 : Nat, j1 ≤ 5 → gG E zp l ze r_X9_digestOfPeople zs zm za zb zh zc zA 7 0 0 zQ ([(o, .inr (8, [.ref (ad 0), .ref tr]))] ++ (wT E ad (itr (peB k1) x1 j1).2)) 23 [(6, .int (iI (j1 : Int))), (5, .int (iI (k1 : Int))), (3, .long (itr (peB k1) x1 j1).1), (0, .ref o), (1, .long d)] [] := by
        refine g_up (5) _ ?_
        intro j1 ih23 hk23
        have iv23_0 := peB_b (S := S) (h := k1) iv5_0 j1
        obtain ⟨y1, hx23⟩ : ∃ z, z = itr (peB k1) x1 j1 := ⟨_, rfl⟩
        rw [← hx23]
        rw [← hx23] at iv23_0
        refine g_iload C dX9_digestOfPeople_23 rfl 0 rfl ?_
        refine g_iconst C dX9_digestOfPeople_25 rfl ?_
        refine g_icmp_ge C dX9_digestOfPeople_26 54 (by decide) rfl (by omega) (by omega) (fun c26 => ?_) (fun c26 => ?_)
        · skip
          have hz23 : y1 = itr (peB k1) x1 5 := by rw [hx23, show j1 = 5 from by omega] <;> rfl
          refine g_iinc (lv' := [(5, .int (iI ((k1 : Int) + 1))), (6, .int (iI (j1 : Int))), (3, .long y1.1), (0, .ref o), (1, .long d)]) C dX9_digestOfPeople_54 rfl 1 rfl (by decide) rfl ?_
          refine g_goto C dX9_digestOfPeople_57 5 (by decide) ?_
          have e5 : peO k1 x1 = (y1.1, y1.2) := by
            show itr (peB k1) x1 5 = _
            rw [← hz23]
          have i5 := ih5 (by omega)
          rw [show peI S d (k1 + 1) = (y1.1, y1.2) from by rw [← e5, hx5]; rfl] at i5
          exact g_to [0, 2, 3, 4] (i5) rfl rfl rfl
        · skip
          refine g_lload_n C dX9_digestOfPeople_29 rfl 2 rfl ?_
          refine g_ldc2 C wd264 dX9_digestOfPeople_30 rfl ?_
          refine g_lmul C dX9_digestOfPeople_33 rfl ?_
          refine g_aload_n C dX9_digestOfPeople_34 rfl 3 rfl ?_
          refine g_get (v := .ref (ad 0)) (T := TX9) (N := 2) (ci := 8) C in_X9 0 rfl rfl 0 (by decide) wd244 (Or.inl rfl) rfl dX9_digestOfPeople_35 rfl ?_
          refine g_iload C dX9_digestOfPeople_38 rfl 1 rfl ?_
          refine g_iload C dX9_digestOfPeople_40 rfl 0 rfl ?_
          refine g_perm (ws1 := wT E ad y1.2 ++ ([(o, .inr (8, [.ref (ad 0), .ref tr]))])) pm_10 ?_
          refine g_callVf (As := [.int (iI (k1 : Int)), .int (iI (j1 : Int))]) (rv := some (.int (iI (hTell y1.2 (k1 : Int) (j1 : Int))))) (w1 := wT E ad (hTellS y1.2 (k1 : Int) (j1 : Int))) (kc' := 0) (ks' := 0) C ([(o, .inr (8, [.ref (ad 0), .ref tr]))]) (k_X7_tellHousehold l E ad y1.2 (k1 : Int) (j1 : Int) iv23_0.1 (by omega) (by omega)) mX7_tellHousehold iX7_tellHousehold wd354 0 6 rfl rfl rfl rfl rfl (Nat.le_of_ble_eq_true rfl) ⟨Nat.le_of_ble_eq_true rfl, Nat.le_of_ble_eq_true rfl⟩ ⟨Nat.le_of_ble_eq_true rfl, Nat.le_of_ble_eq_true rfl⟩ rfl rfl rfl dX9_digestOfPeople_42 rfl ?_
          refine g_perm (ws1 := [(o, .inr (8, [.ref (ad 0), .ref tr]))] ++ (wT E ad (hTellS y1.2 (k1 : Int) (j1 : Int)))) pm_10 ?_
          refine g_i2l C dX9_digestOfPeople_45 rfl ?_
          refine g_ladd C dX9_digestOfPeople_46 rfl ?_
          refine g_lstore_n (lv' := [(3, .long ((y1.1 * (31 : Int64)) + (lI (hTell y1.2 (k1 : Int) (j1 : Int))))), (6, .int (iI (j1 : Int))), (5, .int (iI (k1 : Int))), (0, .ref o), (1, .long d)]) C dX9_digestOfPeople_47 rfl (by decide) rfl ?_
          refine g_iinc (lv' := [(6, .int (iI ((j1 : Int) + 1))), (3, .long ((y1.1 * (31 : Int64)) + (lI (hTell y1.2 (k1 : Int) (j1 : Int))))), (5, .int (iI (k1 : Int))), (0, .ref o), (1, .long d)]) C dX9_digestOfPeople_48 rfl 1 rfl (by decide) rfl ?_
          refine g_goto C dX9_digestOfPeople_51 23 (by decide) ?_
          have e23 : (peB k1) j1 y1 = (((y1.1 * (31 : Int64)) + (lI (hTell y1.2 (k1 : Int) (j1 : Int)))), (hTellS y1.2 (k1 : Int) (j1 : Int))) := by
            rfl
          have i23 := ih23 (by omega)
          rw [show itr (peB k1) x1 (j1 + 1) = (((y1.1 * (31 : Int64)) + (lI (hTell y1.2 (k1 : Int) (j1 : Int)))), (hTellS y1.2 (k1 : Int) (j1 : Int))) from by rw [← e23, hx23]; rfl] at i23
          exact g_to [0, 2, 1, 3, 4] (i23) rfl rfl rfl
      refine g_to [0, 1, 2, 3, 4] (L23 0 (by omega)) rfl rfl rfl
  refine g_to [0, 1, 2, 3] (L5 0 (by omega)) rfl rfl rfl
abbrev r_X9_digest : Room := { frames := 6, cells := 0, slots := 0, locals := 138 }
set_option maxHeartbeats 4000000 in
set_option maxRecDepth 100000 in
theorem k_X9_digest (l : Launch) (E : gE) (o tr : Nat) (ad : Nat → Nat) (S : gS) (hS : okT S) : gK l E yX9_digest cX9_digest 5 (some .long) r_X9_digest [.ref o] ([(o, .inr (8, [.ref (ad 0), .ref tr]))] ++ (wT E ad S)) (some (.long (ceP S (ceD S)))) ([(o, .inr (8, [.ref (ad 0), .ref tr]))] ++ (wT E ad (ce7 S (ceD S)).2)) := by
  refine gK_by RX9 rfl mX9_digest [(0, .ref o)] (Nat.le_of_ble_eq_true rfl) rfl ?_
  intro zp ze zs zm za zb zh zc zA zQ C Z
  refine g_ldc2 C wd263 dX9_digest_0 rfl ?_
  refine g_lstore_n (lv' := [(1, .long (1013 : Int64)), (0, .ref o)]) C dX9_digest_3 rfl (by decide) rfl ?_
  refine g_iconst C dX9_digest_4 rfl ?_
  refine g_istore_n (lv' := [(3, .int (iI (0))), (1, .long (1013 : Int64)), (0, .ref o)]) C dX9_digest_5 rfl (by decide) rfl ?_
  have L6 : ∀ k1 : Nat, k1 ≤ 10 → gG E zp l ze r_X9_digest zs zm za zb zh zc zA 5 0 0 zQ ([(o, .inr (8, [.ref (ad 0), .ref tr]))] ++ (wT E ad S)) 6 [(3, .int (iI (k1 : Int))), (1, .long (dgI (nTell S) (1013) k1)), (0, .ref o)] [] := by
    refine g_up (10) _ ?_
    intro k1 ih6 hk6
    obtain ⟨x1, hx6⟩ : ∃ z, z = dgI (nTell S) (1013) k1 := ⟨_, rfl⟩
    rw [← hx6]
    refine g_iload_n C dX9_digest_6 rfl 0 rfl ?_
    refine g_bipush C dX9_digest_7 rfl rfl ?_
    refine g_icmp_ge C dX9_digest_9 34 (by decide) rfl (by omega) (by omega) (fun c9 => ?_) (fun c9 => ?_)
    · skip
      have hz6 : x1 = cd1 S := by rw [hx6, show k1 = 10 from by omega]; rfl
      refine g_to [0, 1, 2] (lv1 := [(3, .int (iI (k1 : Int))), (1, .long (cd1 S)), (0, .ref o)]) ?_ rfl (by rw [hz6]; rfl) rfl
      refine g_iconst C dX9_digest_34 rfl ?_
      refine g_istore_n (lv' := [(3, .int (iI (0))), (1, .long (cd1 S)), (0, .ref o)]) C dX9_digest_35 rfl (by decide) rfl ?_
      have L36 : ∀ k2 : Nat, k2 ≤ 80 → gG E zp l ze r_X9_digest zs zm za zb zh zc zA 5 0 0 zQ ([(o, .inr (8, [.ref (ad 0), .ref tr]))] ++ (wT E ad S)) 36 [(3, .int (iI (k2 : Int))), (1, .long (cdI (cellTell S) 6 (cd1 S) k2)), (0, .ref o)] [] := by
        refine g_up (80) _ ?_
        intro k2 ih36 hk36
        obtain ⟨x2, hx36⟩ : ∃ z, z = cdI (cellTell S) 6 (cd1 S) k2 := ⟨_, rfl⟩
        rw [← hx36]
        refine g_iload_n C dX9_digest_36 rfl 0 rfl ?_
        refine g_bipush C dX9_digest_37 rfl rfl ?_
        refine g_icmp_ge C dX9_digest_39 82 (by decide) rfl (by omega) (by omega) (fun c39 => ?_) (fun c39 => ?_)
        · skip
          have hz36 : x2 = ce2 S := by rw [hx36, show k2 = 80 from by omega]; rfl
          refine g_to [0, 1, 2] (lv1 := [(3, .int (iI (k2 : Int))), (1, .long (ce2 S)), (0, .ref o)]) ?_ rfl (by rw [hz36]; rfl) rfl
          refine g_iconst C dX9_digest_82 rfl ?_
          refine g_istore_n (lv' := [(3, .int (iI (0))), (1, .long (ce2 S)), (0, .ref o)]) C dX9_digest_83 rfl (by decide) rfl ?_
          have L84 : ∀ k3 : Nat, k3 ≤ 12 → gG E zp l ze r_X9_digest zs zm za zb zh zc zA 5 0 0 zQ ([(o, .inr (8, [.ref (ad 0), .ref tr]))] ++ (wT E ad S)) 84 [(3, .int (iI (k3 : Int))), (1, .long (dgI (S.1 6) (ce2 S) k3)), (0, .ref o)] [] := by
            refine g_up (12) _ ?_
            intro k3 ih84 hk84
            obtain ⟨x3, hx84⟩ : ∃ z, z = dgI (S.1 6) (ce2 S) k3 := ⟨_, rfl⟩
            rw [← hx84]
            refine g_iload_n C dX9_digest_84 rfl 0 rfl ?_
            refine g_bipush C dX9_digest_85 rfl rfl ?_
            refine g_icmp_ge C dX9_digest_87 116 (by decide) rfl (by omega) (by omega) (fun c87 => ?_) (fun c87 => ?_)
            · skip
              have hz84 : x3 = ce3 S := by rw [hx84, show k3 = 12 from by omega]; rfl
              refine g_to [0, 1, 2] (lv1 := [(3, .int (iI (k3 : Int))), (1, .long (ce3 S)), (0, .ref o)]) ?_ rfl (by rw [hz84]; rfl) rfl
              refine g_aload_n C dX9_digest_116 rfl 2 rfl ?_
              refine g_aload_n C dX9_digest_117 rfl 2 rfl ?_
              refine g_lload_n C dX9_digest_118 rfl 1 rfl ?_
              refine g_callV0 (As := [.long (ce3 S)]) (rv := some (.long (ceT S (ce3 S)))) (w1 := [(o, .inr (8, [.ref (ad 0), .ref tr]))] ++ (wT E ad S)) (kc' := 0) (ks' := 0) C (k_X9_digestOfTools l E o tr ad S (ce3 S) hS) mX9_digestOfTools iX9_digestOfTools wd310 0 8 rfl rfl rfl rfl rfl (Nat.le_of_ble_eq_true rfl) ⟨Nat.le_of_ble_eq_true rfl, Nat.le_of_ble_eq_true rfl⟩ ⟨Nat.le_of_ble_eq_true rfl, Nat.le_of_ble_eq_true rfl⟩ rfl rfl dX9_digest_119 rfl ?_
              refine g_callV0 (As := [.long (ceT S (ce3 S))]) (rv := some (.long (ceP S (ceT S (ce3 S))))) (w1 := [(o, .inr (8, [.ref (ad 0), .ref tr]))] ++ (wT E ad (ce7 S (ceT S (ce3 S))).2)) (kc' := 0) (ks' := 0) C (k_X9_digestOfPeople l E o tr ad S (ceT S (ce3 S)) hS) mX9_digestOfPeople iX9_digestOfPeople wd350 0 8 rfl rfl rfl rfl rfl (Nat.le_of_ble_eq_true rfl) ⟨Nat.le_of_ble_eq_true rfl, Nat.le_of_ble_eq_true rfl⟩ ⟨Nat.le_of_ble_eq_true rfl, Nat.le_of_ble_eq_true rfl⟩ rfl rfl dX9_digest_122 rfl ?_
              exact z_lret C Z dX9_digest_125 rfl rfl
            · skip
              refine g_lload_n C dX9_digest_90 rfl 1 rfl ?_
              refine g_ldc2 C wd264 dX9_digest_91 rfl ?_
              refine g_lmul C dX9_digest_94 rfl ?_
              refine g_aload_n C dX9_digest_95 rfl 2 rfl ?_
              refine g_get (v := .ref (ad 0)) (T := TX9) (N := 2) (ci := 8) C in_X9 0 rfl rfl 0 (by decide) wd244 (Or.inl rfl) rfl dX9_digest_96 rfl ?_
              refine g_get (v := .ref (ad 1)) (T := TX7) (N := 8) (ci := 6) C in_X7 1 rfl rfl 1 (by decide) wd215 (Or.inl rfl) rfl dX9_digest_99 rfl ?_
              refine g_get (v := .ref (ad 6)) (T := TX3) (N := 5) (ci := 3) C in_X3 2 rfl rfl 4 (by decide) wd54 (Or.inl rfl) rfl dX9_digest_102 rfl ?_
              refine g_iload_n C dX9_digest_105 rfl 0 rfl ?_
              refine g_iald (f := (S.1 6)) C dX9_digest_106 rfl 7 rfl (by omega) (by decide) ?_
              have b106 := okT_6 hS (k3 : Int)
              refine g_i2l C dX9_digest_107 rfl ?_
              refine g_ladd C dX9_digest_108 rfl ?_
              refine g_lstore_n (lv' := [(1, .long ((x3 * (31 : Int64)) + (lI ((S.1 6) (k3 : Int))))), (3, .int (iI (k3 : Int))), (0, .ref o)]) C dX9_digest_109 rfl (by decide) rfl ?_
              refine g_iinc (lv' := [(3, .int (iI ((k3 : Int) + 1))), (1, .long ((x3 * (31 : Int64)) + (lI ((S.1 6) (k3 : Int))))), (0, .ref o)]) C dX9_digest_110 rfl 1 rfl (by decide) rfl ?_
              refine g_goto C dX9_digest_113 84 (by decide) ?_
              have e84 : (dgB (S.1 6)) k3 x3 = ((x3 * (31 : Int64)) + (lI ((S.1 6) (k3 : Int)))) := by
                rfl
              have i84 := ih84 (by omega)
              rw [show dgI (S.1 6) (ce2 S) (k3 + 1) = ((x3 * (31 : Int64)) + (lI ((S.1 6) (k3 : Int)))) from by rw [← e84, hx84]; rfl] at i84
              exact g_to [0, 1, 2] (i84) rfl rfl rfl
          refine g_to [0, 1, 2] (L84 0 (by omega)) rfl (by rw [dgI_0]; rfl) rfl
        · skip
          refine g_iconst C dX9_digest_42 rfl ?_
          refine g_istore (lv' := [(4, .int (iI (0))), (3, .int (iI (k2 : Int))), (1, .long x2), (0, .ref o)]) C dX9_digest_43 rfl (by decide) rfl ?_
          have L45 : ∀ j2 : Nat, j2 ≤ 6 → gG E zp l ze r_X9_digest zs zm za zb zh zc zA 5 0 0 zQ ([(o, .inr (8, [.ref (ad 0), .ref tr]))] ++ (wT E ad S)) 45 [(4, .int (iI (j2 : Int))), (3, .int (iI (k2 : Int))), (1, .long (dgI (cellTell S (k2 : Int)) x2 j2)), (0, .ref o)] [] := by
            refine g_up (6) _ ?_
            intro j2 ih45 hk45
            obtain ⟨y2, hx45⟩ : ∃ z, z = dgI (cellTell S (k2 : Int)) x2 j2 := ⟨_, rfl⟩
            rw [← hx45]
            refine g_iload C dX9_digest_45 rfl 0 rfl ?_
            refine g_bipush C dX9_digest_47 rfl rfl ?_
            refine g_icmp_ge C dX9_digest_49 76 (by decide) rfl (by omega) (by omega) (fun c49 => ?_) (fun c49 => ?_)
            · skip
              have hz45 : y2 = dgI (cellTell S (k2 : Int)) x2 6 := by rw [hx45, show j2 = 6 from by omega] <;> rfl
              refine g_iinc (lv' := [(3, .int (iI ((k2 : Int) + 1))), (4, .int (iI (j2 : Int))), (1, .long y2), (0, .ref o)]) C dX9_digest_76 rfl 1 rfl (by decide) rfl ?_
              refine g_goto C dX9_digest_79 36 (by decide) ?_
              have e36 : (cdB (cellTell S) 6) k2 x2 = y2 := by
                rw [hz45]; rfl
              have i36 := ih36 (by omega)
              rw [show cdI (cellTell S) 6 (cd1 S) (k2 + 1) = y2 from by rw [← e36, hx36]; rfl] at i36
              exact g_to [0, 2, 3] (i36) rfl rfl rfl
            · skip
              refine g_lload_n C dX9_digest_52 rfl 2 rfl ?_
              refine g_ldc2 C wd264 dX9_digest_53 rfl ?_
              refine g_lmul C dX9_digest_56 rfl ?_
              refine g_aload_n C dX9_digest_57 rfl 3 rfl ?_
              refine g_get (v := .ref (ad 0)) (T := TX9) (N := 2) (ci := 8) C in_X9 0 rfl rfl 0 (by decide) wd244 (Or.inl rfl) rfl dX9_digest_58 rfl ?_
              refine g_iload_n C dX9_digest_61 rfl 1 rfl ?_
              refine g_iload C dX9_digest_62 rfl 0 rfl ?_
              refine g_perm (ws1 := wT E ad S ++ ([(o, .inr (8, [.ref (ad 0), .ref tr]))])) pm_10 ?_
              refine g_callVf (As := [.int (iI (k2 : Int)), .int (iI (j2 : Int))]) (rv := some (.int (iI (cellTell S (k2 : Int) (j2 : Int))))) (w1 := wT E ad S) (kc' := 0) (ks' := 0) C ([(o, .inr (8, [.ref (ad 0), .ref tr]))]) (k_X7_tellCell l E ad S (k2 : Int) (j2 : Int) hS (by omega) (by omega)) mX7_tellCell iX7_tellCell wd290 0 6 rfl rfl rfl rfl rfl (Nat.le_of_ble_eq_true rfl) ⟨Nat.le_of_ble_eq_true rfl, Nat.le_of_ble_eq_true rfl⟩ ⟨Nat.le_of_ble_eq_true rfl, Nat.le_of_ble_eq_true rfl⟩ rfl rfl rfl dX9_digest_64 rfl ?_
              refine g_perm (ws1 := [(o, .inr (8, [.ref (ad 0), .ref tr]))] ++ (wT E ad S)) pm_10 ?_
              refine g_i2l C dX9_digest_67 rfl ?_
              refine g_ladd C dX9_digest_68 rfl ?_
              refine g_lstore_n (lv' := [(1, .long ((y2 * (31 : Int64)) + (lI (cellTell S (k2 : Int) (j2 : Int))))), (4, .int (iI (j2 : Int))), (3, .int (iI (k2 : Int))), (0, .ref o)]) C dX9_digest_69 rfl (by decide) rfl ?_
              refine g_iinc (lv' := [(4, .int (iI ((j2 : Int) + 1))), (1, .long ((y2 * (31 : Int64)) + (lI (cellTell S (k2 : Int) (j2 : Int))))), (3, .int (iI (k2 : Int))), (0, .ref o)]) C dX9_digest_70 rfl 1 rfl (by decide) rfl ?_
              refine g_goto C dX9_digest_73 45 (by decide) ?_
              have e45 : (dgB (cellTell S (k2 : Int))) j2 y2 = ((y2 * (31 : Int64)) + (lI (cellTell S (k2 : Int) (j2 : Int)))) := by
                rfl
              have i45 := ih45 (by omega)
              rw [show dgI (cellTell S (k2 : Int)) x2 (j2 + 1) = ((y2 * (31 : Int64)) + (lI (cellTell S (k2 : Int) (j2 : Int)))) from by rw [← e45, hx45]; rfl] at i45
              exact g_to [0, 2, 1, 3] (i45) rfl rfl rfl
          refine g_to [0, 1, 2, 3] (L45 0 (by omega)) rfl (by rw [dgI_0]; rfl) rfl
      refine g_to [0, 1, 2] (L36 0 (by omega)) rfl (by rw [cdI_0]; rfl) rfl
    · skip
      refine g_lload_n C dX9_digest_12 rfl 1 rfl ?_
      refine g_ldc2 C wd264 dX9_digest_13 rfl ?_
      refine g_lmul C dX9_digest_16 rfl ?_
      refine g_aload_n C dX9_digest_17 rfl 2 rfl ?_
      refine g_get (v := .ref (ad 0)) (T := TX9) (N := 2) (ci := 8) C in_X9 0 rfl rfl 0 (by decide) wd244 (Or.inl rfl) rfl dX9_digest_18 rfl ?_
      refine g_iload_n C dX9_digest_21 rfl 0 rfl ?_
      refine g_perm (ws1 := wT E ad S ++ ([(o, .inr (8, [.ref (ad 0), .ref tr]))])) pm_10 ?_
      refine g_callVf (As := [.int (iI (k1 : Int))]) (rv := some (.int (iI (nTell S (k1 : Int))))) (w1 := wT E ad S) (kc' := 0) (ks' := 0) C ([(o, .inr (8, [.ref (ad 0), .ref tr]))]) (k_X7_tellCount l E ad S (k1 : Int) hS (by omega)) mX7_tellCount iX7_tellCount wd265 0 6 rfl rfl rfl rfl rfl (Nat.le_of_ble_eq_true rfl) ⟨Nat.le_of_ble_eq_true rfl, Nat.le_of_ble_eq_true rfl⟩ ⟨Nat.le_of_ble_eq_true rfl, Nat.le_of_ble_eq_true rfl⟩ rfl rfl rfl dX9_digest_22 rfl ?_
      refine g_perm (ws1 := [(o, .inr (8, [.ref (ad 0), .ref tr]))] ++ (wT E ad S)) pm_10 ?_
      refine g_i2l C dX9_digest_25 rfl ?_
      refine g_ladd C dX9_digest_26 rfl ?_
      refine g_lstore_n (lv' := [(1, .long ((x1 * (31 : Int64)) + (lI (nTell S (k1 : Int))))), (3, .int (iI (k1 : Int))), (0, .ref o)]) C dX9_digest_27 rfl (by decide) rfl ?_
      refine g_iinc (lv' := [(3, .int (iI ((k1 : Int) + 1))), (1, .long ((x1 * (31 : Int64)) + (lI (nTell S (k1 : Int))))), (0, .ref o)]) C dX9_digest_28 rfl 1 rfl (by decide) rfl ?_
      refine g_goto C dX9_digest_31 6 (by decide) ?_
      have e6 : (dgB (nTell S)) k1 x1 = ((x1 * (31 : Int64)) + (lI (nTell S (k1 : Int)))) := by
        rfl
      have i6 := ih6 (by omega)
      rw [show dgI (nTell S) (1013) (k1 + 1) = ((x1 * (31 : Int64)) + (lI (nTell S (k1 : Int)))) from by rw [← e6, hx6]; rfl] at i6
      exact g_to [0, 1, 2] (i6) rfl rfl rfl
  refine g_to [0, 1, 2] (L6 0 (by omega)) rfl (by rw [dgI_0]; rfl) rfl
