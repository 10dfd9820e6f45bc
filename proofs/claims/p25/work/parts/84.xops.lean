/-! what is kept between calls -/
def inv (T M S : gS) : Prop := simA 5 4 T M S ∧ okT T ∧ okM M ∧ okS S ∧ okP S (M.2 4) ∧ bnd (S.1 2) 0 5 ∧ ∀ k : Int, M.2 5 ≤ k → k < 3 → T.1 27 k = 0
theorem inv_M {T M N S : gS} (h : inv T M S) (h1 : N.1 1 = M.1 1) (h2 : ∀ j : Nat, j ≠ 0 → N.2 j = M.2 j) (h3 : okM N) : inv T N S := by
  obtain ⟨⟨⟨⟨a1, a2, a3⟩, b1, b2, b3⟩, a4⟩, t, m, s, p, b, z⟩ := h
  have e1 := h2 1 (by decide); have e2 := h2 2 (by decide); have e3 := h2 3 (by decide); have e4 := h2 4 (by decide); have e5 := h2 5 (by decide)
  refine ⟨⟨⟨⟨?_, ?_, ?_⟩, ?_, ?_, ?_⟩, a4⟩, t, h3, s, ?_, b, ?_⟩
  · unfold simL at a1 ⊢; rw [h1]; exact a1
  · unfold simP at a2 ⊢; rw [e1]; exact a2
  · unfold simG at a3 ⊢; rw [e2]; exact a3
  · unfold simR at b1 ⊢; rw [e3, e4]; exact b1
  · unfold simH at b2 ⊢; rw [e4]; exact b2
  · unfold simC at b3 ⊢; rw [e5]; exact b3
  · rw [e4]; exact p
  · rw [e5]; exact z
theorem inv_0 {T M S : gS} {t : Int} (h : inv T M S) : inv T (setI M 0 t) S := inv_M h rfl (fun j hj => if_neg hj) (okM_j0 h.2.2.1)
theorem inv_H {T M S : gS} (h : inv T M S) : okH T := by
  intro k a b c
  have g := h.1.1.2.2.1
  have g2 := g.2.2 k a (by rw [← g.1]; exact b)
  rw [g2.2.1]
  exact h.2.2.2.2.1 k a (by rw [← g.1]; exact b) (by rw [← g2.2.2]; exact c)
theorem tC_q {x y : Int} (h : tC x y) : 0 ≤ 10 * y + x ∧ 10 * y + x < 80 := by
  unfold tC at h
  omega
theorem eqR_fset {f g : Int → Int} {n q v : Int} (h : eqR f g n) : eqR (fset f q v) (fset g q v) n := by
  intro z a b
  unfold fset
  split
  · rfl
  · exact h z a b
theorem o_setGround {T M S : gS} {x y g : Int} (i : inv T M S) (hc : tC x y) (h : 0 ≤ g ∧ g ≤ 9) : T.1 2 (10 * y + x) = S.1 1 (10 * y + x) ∧ inv (setA T 2 (fset (T.1 2) (10 * y + x) g)) (setI M 0 0) (setA S 1 (fset (S.1 1) (10 * y + x) g)) := by
  have q := tC_q hc
  obtain ⟨⟨⟨⟨hL, hP, hG⟩, hU⟩, h0⟩, t, m, s, p, b, z⟩ := i
  exact ⟨hL.1 _ q.1 q.2, ⟨⟨⟨⟨eqR_fset hL.1, hL.2⟩, hP, hG⟩, hU⟩, h0⟩, okT_s2 t (bnd_fset (okT_2 t) h), okM_j0 m, okS_s1 s (bnd_fset (okS_1 s) h), p, b, z⟩
theorem o_lay {T M S : gS} {x y v : Int} (i : inv T M S) (hc : tC x y) : sm (T.1 3) 0 80 - T.1 3 (10 * y + x) + v = sumM S (10 * y + x) v ∧ (0 ≤ v ∧ v ≤ 5 → inv (setA T 3 (fset (T.1 3) (10 * y + x) v)) (setI M 0 0) (setA S 2 (fset (S.1 2) (10 * y + x) v))) := by
  have q := tC_q hc
  obtain ⟨⟨⟨⟨hL, hP, hG⟩, hU⟩, h0⟩, t, m, s, p, b, z⟩ := i
  refine ⟨?_, fun h => ⟨⟨⟨⟨⟨hL.1, eqR_fset hL.2.1, hL.2.2⟩, hP, hG⟩, hU⟩, h0⟩, okT_s3 t (bnd_fset (okT_3 t) (by omega)), okM_j0 m, okS_s2 s (bnd_fset (okS_2 s) (by omega)), p, bnd_fset b h, z⟩⟩
  unfold sumM
  rw [sm_eq (f := T.1 3) (g := S.1 2) 80 (fun k a b => hL.2.1 _ (by omega) (by omega)), hL.2.1 _ q.1 q.2]
theorem o_setRiver {T M S : gS} {k v : Int} (i : inv T M S) (hk : 0 ≤ k ∧ k ≤ 11) (h : 0 ≤ v ∧ v ≤ 12) : T.1 6 k = M.1 1 k ∧ inv (setA T 6 (fset (T.1 6) k v)) (setI (setA M 1 (fset (M.1 1) k v)) 0 0) S := by
  obtain ⟨⟨⟨⟨hL, hP, hG⟩, hU⟩, h0⟩, t, m, s, p, b, z⟩ := i
  exact ⟨hL.2.2.2 k hk.1 (by omega), ⟨⟨⟨⟨hL.1, hL.2.1, hL.2.2.1, eqR_fset hL.2.2.2⟩, hP, hG⟩, hU⟩, h0⟩, okT_s6 t (bnd_fset (okT_6 t) h), okM_j0 (okM_s1 m (bnd_fset (okM_1 m) h)), s, p, b, z⟩
theorem o_addPump {T M S : gS} {x y pw fu : Int} (i : inv T M S) (hc : tC x y) : (T.2 1 = M.2 1 ∧ fstI (T.1 8) (10 * y + x) (T.2 1).toNat = fstI (fun j => S.1 4 (5 * j)) (10 * y + x) (M.2 1).toNat) ∧ ((1 ≤ pw ∧ pw ≤ 5) ∧ 0 ≤ fu ∧ fu ≤ 30 → T.2 1 < 5 → inv (setUpS T (10 * y + x) pw fu) (setI (setI M 0 0) 1 (M.2 1 + 1)) (sAP M S x y pw fu)) := by
  have q := tC_q hc
  obtain ⟨⟨⟨⟨hL, hP, hG⟩, hU⟩, h0⟩, t, m, s, p, b, z⟩ := i
  have n1 := okM_i1 m
  refine ⟨⟨hP.1, ?_⟩, fun h h5 => ?_⟩
  · rw [hP.1]
    exact fst_eq _ (fun k a b => (hP.2.2.1 k a (by omega)).1)
  · have e := hP.1
    refine ⟨⟨⟨⟨hL, ⟨?_, ?_, fun k a b9 => ?_, fun k a b9 => ?_⟩, hG⟩, hU⟩, h0⟩, ?_, ?_, ?_, p, b, z⟩
    · show T.2 1 + 1 = M.2 1 + 1
      rw [e]
    · show M.2 1 + 1 ≤ 5
      omega
    · have b9 : k < M.2 1 + 1 := b9
      show fset (T.1 8) (T.2 1) (10 * y + x) k = fset (fset (fset (fset (S.1 4) (5 * M.2 1) (10 * y + x)) (5 * M.2 1 + 1) pw) (5 * M.2 1 + 2) fu) (5 * M.2 1 + 3) 1 (5 * k) ∧ fset (T.1 9) (T.2 1) pw k = fset (fset (fset (fset (S.1 4) (5 * M.2 1) (10 * y + x)) (5 * M.2 1 + 1) pw) (5 * M.2 1 + 2) fu) (5 * M.2 1 + 3) 1 (5 * k + 1) ∧ fset (T.1 10) (T.2 1) fu k = fset (fset (fset (fset (S.1 4) (5 * M.2 1) (10 * y + x)) (5 * M.2 1 + 1) pw) (5 * M.2 1 + 2) fu) (5 * M.2 1 + 3) 1 (5 * k + 2) ∧ fset (T.1 11) (T.2 1) 1 k = fset (fset (fset (fset (S.1 4) (5 * M.2 1) (10 * y + x)) (5 * M.2 1 + 1) pw) (5 * M.2 1 + 2) fu) (5 * M.2 1 + 3) 1 (5 * k + 3)
      rw [e]
      by_cases c : k = M.2 1
      · rw [c]
        refine ⟨?_, ?_, ?_, ?_⟩
        · rw [fset_same, fset_ne (by omega), fset_ne (by omega), fset_ne (by omega), fset_same]
        · rw [fset_same, fset_ne (by omega), fset_ne (by omega), fset_same]
        · rw [fset_same, fset_ne (by omega), fset_same]
        · rw [fset_same, fset_same]
      · have g := hP.2.2.1 k a (by omega)
        refine ⟨?_, ?_, ?_, ?_⟩
        · rw [fset_ne c, fset_ne (by omega), fset_ne (by omega), fset_ne (by omega), fset_ne (by omega)]; exact g.1
        · rw [fset_ne c, fset_ne (by omega), fset_ne (by omega), fset_ne (by omega), fset_ne (by omega)]; exact g.2.1
        · rw [fset_ne c, fset_ne (by omega), fset_ne (by omega), fset_ne (by omega), fset_ne (by omega)]; exact g.2.2.1
        · rw [fset_ne c, fset_ne (by omega), fset_ne (by omega), fset_ne (by omega), fset_ne (by omega)]; exact g.2.2.2
    · show T.1 12 k = fset (fset (fset (fset (S.1 4) (5 * M.2 1) (10 * y + x)) (5 * M.2 1 + 1) pw) (5 * M.2 1 + 2) fu) (5 * M.2 1 + 3) 1 (5 * k + 4)
      rw [fset_ne (by omega), fset_ne (by omega), fset_ne (by omega), fset_ne (by omega)]
      exact hP.2.2.2 k a b9
    · exact okT_j1 (okT_s11 (okT_s10 (okT_s9 (okT_s8 t (bnd_fset (okT_8 t) (by omega))) (bnd_fset (okT_9 t) (by omega))) (bnd_fset (okT_10 t) (by omega))) (bnd_fset (okT_11 t) (by omega))) (by omega)
    · exact okM_j1 (okM_j0 m) (by omega)
    · refine okS_s4 s (fun k => ?_) (fun k => ?_) (fun k => ?_) (fun k => ?_)
      · have := okS_40 s k
        rw [fset_ne (by omega), fset_ne (by omega), fset_ne (by omega)]
        unfold fset
        split <;> omega
      · have := okS_41 s k
        rw [fset_ne (by omega), fset_ne (by omega)]
        unfold fset
        split
        · omega
        · rw [if_neg (by omega)]; exact this
      · have := okS_42 s k
        rw [fset_ne (by omega)]
        unfold fset
        split
        · omega
        · rw [if_neg (by omega), if_neg (by omega)]; exact this
      · have := okS_43 s k
        unfold fset
        split
        · omega
        · rw [if_neg (by omega), if_neg (by omega), if_neg (by omega)]; exact this
theorem o_run {T M S : gS} {k : Int} (i : inv T M S) (hk : 0 ≤ k ∧ k < M.2 1) : bI (T.1 11 k = 0) = bI (1 - S.1 4 (5 * k + 3) = 1) ∧ inv (setA T 11 (fset (T.1 11) k (bI (T.1 11 k = 0)))) (setI M 0 0) (sRN S k) := by
  obtain ⟨⟨⟨⟨hL, hP, hG⟩, hU⟩, h0⟩, t, m, s, p, b, z⟩ := i
  have g := (hP.2.2.1 k hk.1 hk.2).2.2.2
  have b1 := okT_11 t k
  have w := bI_w (T.1 11 k = 0)
  refine ⟨?_, ⟨⟨⟨⟨hL, ⟨hP.1, hP.2.1, fun j a b9 => ?_, fun j a b9 => ?_⟩, hG⟩, hU⟩, h0⟩, okT_s11 t (bnd_fset (okT_11 t) (by omega)), okM_j0 m, ?_, p, b, z⟩⟩
  · have w2 := bI_w (1 - S.1 4 (5 * k + 3) = 1)
    omega
  · have g := hP.2.2.1 j a b9
    show T.1 8 j = fset (S.1 4) (5 * k + 3) (1 - S.1 4 (5 * k + 3)) (5 * j) ∧ T.1 9 j = fset (S.1 4) (5 * k + 3) (1 - S.1 4 (5 * k + 3)) (5 * j + 1) ∧ T.1 10 j = fset (S.1 4) (5 * k + 3) (1 - S.1 4 (5 * k + 3)) (5 * j + 2) ∧ fset (T.1 11) k (bI (T.1 11 k = 0)) j = fset (S.1 4) (5 * k + 3) (1 - S.1 4 (5 * k + 3)) (5 * j + 3)
    rw [fset_ne (show 5 * j ≠ 5 * k + 3 by omega), fset_ne (show 5 * j + 1 ≠ 5 * k + 3 by omega), fset_ne (show 5 * j + 2 ≠ 5 * k + 3 by omega)]
    refine ⟨g.1, g.2.1, g.2.2.1, ?_⟩
    by_cases e : j = k
    · rw [e, fset_same, fset_same]; omega
    · rw [fset_ne e, fset_ne (by omega)]; exact g.2.2.2
  · show T.1 12 j = fset (S.1 4) (5 * k + 3) (1 - S.1 4 (5 * k + 3)) (5 * j + 4)
    rw [fset_ne (by omega)]
    exact hP.2.2.2 j a b9
  · refine okS_s4 s (fun j => ?_) (fun j => ?_) (fun j => ?_) (fun j => ?_)
    · rw [fset_ne (by omega)]; exact okS_40 s j
    · rw [fset_ne (by omega)]; exact okS_41 s j
    · rw [fset_ne (by omega)]; exact okS_42 s j
    · have := okS_43 s j
      have := okS_43 s k
      unfold fset
      split <;> omega
theorem o_addGauge {T M S : gS} {x y mk : Int} (i : inv T M S) (hc : tC x y) : (T.2 2 = M.2 2 ∧ fstI (T.1 14) (10 * y + x) (T.2 2).toNat = fstI (fun j => S.1 5 (2 * j)) (10 * y + x) (M.2 2).toNat) ∧ (1 ≤ mk ∧ mk ≤ 20 → T.2 2 < 4 → inv (hangS T (10 * y + x) mk) (setI (setI M 0 0) 2 (M.2 2 + 1)) (sAG M S x y mk)) := by
  have q := tC_q hc
  obtain ⟨⟨⟨⟨hL, hP, hG⟩, hU⟩, h0⟩, t, m, s, p, b, z⟩ := i
  have n1 := okM_i2 m
  refine ⟨⟨hG.1, ?_⟩, fun h h5 => ?_⟩
  · rw [hG.1]
    exact fst_eq _ (fun k a b => (hG.2 k a (by omega)).1)
  · have e := hG.1
    refine ⟨⟨⟨⟨hL, hP, ⟨?_, fun k a b9 => ?_⟩⟩, hU⟩, h0⟩, ?_, ?_, ?_, p, b, z⟩
    · show T.2 2 + 1 = M.2 2 + 1
      rw [e]
    · have b9 : k < M.2 2 + 1 := b9
      show fset (T.1 14) (T.2 2) (10 * y + x) k = fset (fset (S.1 5) (2 * M.2 2) (10 * y + x)) (2 * M.2 2 + 1) mk (2 * k) ∧ fset (T.1 15) (T.2 2) mk k = fset (fset (S.1 5) (2 * M.2 2) (10 * y + x)) (2 * M.2 2 + 1) mk (2 * k + 1)
      rw [e]
      by_cases c : k = M.2 2
      · rw [c]
        refine ⟨?_, ?_⟩
        · rw [fset_same, fset_ne (by omega), fset_same]
        · rw [fset_same, fset_same]
      · have g := hG.2 k a (by omega)
        refine ⟨?_, ?_⟩
        · rw [fset_ne c, fset_ne (by omega), fset_ne (by omega)]; exact g.1
        · rw [fset_ne c, fset_ne (by omega), fset_ne (by omega)]; exact g.2
    · exact okT_j2 (okT_s15 (okT_s14 t (bnd_fset (okT_14 t) (by omega))) (bnd_fset (okT_15 t) (by omega))) (by omega)
    · exact okM_j2 (okM_j0 m) (by omega)
    · refine okS_s5 s (fun k => ?_) (fun k => ?_)
      · have := okS_50 s k
        rw [fset_ne (by omega)]
        unfold fset
        split <;> omega
      · have := okS_51 s k
        unfold fset
        split
        · omega
        · rw [if_neg (by omega)]; exact this
theorem o_addRefuge {T M S : gS} {x y rm : Int} (i : inv T M S) (hc : tC x y) : (T.2 3 = M.2 3 ∧ fstI (T.1 17) (10 * y + x) (T.2 3).toNat = fstI (fun j => S.1 6 (2 * j)) (10 * y + x) (M.2 3).toNat) ∧ (1 ≤ rm ∧ rm ≤ 20 → T.2 3 < 4 → inv (openS T (10 * y + x) rm) (setI (setI M 0 0) 3 (M.2 3 + 1)) (sAR M S x y rm)) := by
  have q := tC_q hc
  obtain ⟨⟨⟨hW, hR, hH, hC⟩, h0⟩, t, m, s, p, b, z⟩ := i
  have n1 := okM_i3 m
  refine ⟨⟨hR.1, ?_⟩, fun h h5 => ?_⟩
  · rw [hR.1]
    exact fst_eq _ (fun k a b => (hR.2.2.1 k a (by omega)).1)
  · have e := hR.1
    refine ⟨⟨⟨hW, ⟨?_, ?_, fun k a b9 => ?_, hR.2.2.2⟩, hH, hC⟩, h0⟩, ?_, ?_, ?_, p, b, z⟩
    · show T.2 3 + 1 = M.2 3 + 1
      rw [e]
    · show M.2 3 + 1 ≤ 4
      omega
    · have b9 : k < M.2 3 + 1 := b9
      show fset (T.1 17) (T.2 3) (10 * y + x) k = fset (fset (S.1 6) (2 * M.2 3) (10 * y + x)) (2 * M.2 3 + 1) rm (2 * k) ∧ fset (T.1 18) (T.2 3) rm k = fset (fset (S.1 6) (2 * M.2 3) (10 * y + x)) (2 * M.2 3 + 1) rm (2 * k + 1)
      rw [e]
      by_cases c : k = M.2 3
      · rw [c]
        refine ⟨?_, ?_⟩
        · rw [fset_same, fset_ne (by omega), fset_same]
        · rw [fset_same, fset_same]
      · have g := hR.2.2.1 k a (by omega)
        refine ⟨?_, ?_⟩
        · rw [fset_ne c, fset_ne (by omega), fset_ne (by omega)]; exact g.1
        · rw [fset_ne c, fset_ne (by omega), fset_ne (by omega)]; exact g.2
    · exact okT_j3 (okT_s18 (okT_s17 t (bnd_fset (okT_17 t) (by omega))) (bnd_fset (okT_18 t) (by omega))) (by omega)
    · exact okM_j3 (okM_j0 m) (by omega)
    · refine okS_s6 s (fun k => ?_) (fun k => ?_)
      · have := okS_60 s k
        rw [fset_ne (by omega)]
        unfold fset
        split <;> omega
      · have := okS_61 s k
        unfold fset
        split
        · omega
        · rw [if_neg (by omega)]; exact this
theorem o_settle {T M S : gS} {x y n : Int} (i : inv T M S) (hc : tC x y) : T.2 4 = M.2 4 ∧ (1 ≤ n ∧ n ≤ 6 → T.2 4 < 10 → inv (inS T (10 * y + x) n) (setI (setI M 0 0) 4 (M.2 4 + 1)) (sSE M S x y n)) := by
  have q := tC_q hc
  obtain ⟨⟨⟨hW, hR, hH, hC⟩, h0⟩, t, m, s, p, b, z⟩ := i
  have n1 := okM_i4 m
  refine ⟨hH.1, fun h h5 => ?_⟩
  have e := hH.1
  have r0 : ∀ k : Int, k < M.2 4 → (sSE M S x y n).1 7 (4 * k) = S.1 7 (4 * k) ∧ (sSE M S x y n).1 7 (4 * k + 1) = S.1 7 (4 * k + 1) ∧ (sSE M S x y n).1 7 (4 * k + 2) = S.1 7 (4 * k + 2) ∧ (sSE M S x y n).1 7 (4 * k + 3) = S.1 7 (4 * k + 3) := by
    intro k hk
    show fset (fset (fset (fset (S.1 7) (4 * M.2 4) (10 * y + x)) (4 * M.2 4 + 1) n) (4 * M.2 4 + 2) 0) (4 * M.2 4 + 3) (-1) (4 * k) = _ ∧ fset (fset (fset (fset (S.1 7) (4 * M.2 4) (10 * y + x)) (4 * M.2 4 + 1) n) (4 * M.2 4 + 2) 0) (4 * M.2 4 + 3) (-1) (4 * k + 1) = _ ∧ fset (fset (fset (fset (S.1 7) (4 * M.2 4) (10 * y + x)) (4 * M.2 4 + 1) n) (4 * M.2 4 + 2) 0) (4 * M.2 4 + 3) (-1) (4 * k + 2) = _ ∧ fset (fset (fset (fset (S.1 7) (4 * M.2 4) (10 * y + x)) (4 * M.2 4 + 1) n) (4 * M.2 4 + 2) 0) (4 * M.2 4 + 3) (-1) (4 * k + 3) = _
    refine ⟨?_, ?_, ?_, ?_⟩ <;> rw [fset_ne (by omega), fset_ne (by omega), fset_ne (by omega), fset_ne (by omega)]
  have r1 : (sSE M S x y n).1 7 (4 * M.2 4) = 10 * y + x ∧ (sSE M S x y n).1 7 (4 * M.2 4 + 1) = n ∧ (sSE M S x y n).1 7 (4 * M.2 4 + 2) = 0 := by
    show fset (fset (fset (fset (S.1 7) (4 * M.2 4) (10 * y + x)) (4 * M.2 4 + 1) n) (4 * M.2 4 + 2) 0) (4 * M.2 4 + 3) (-1) (4 * M.2 4) = _ ∧ fset (fset (fset (fset (S.1 7) (4 * M.2 4) (10 * y + x)) (4 * M.2 4 + 1) n) (4 * M.2 4 + 2) 0) (4 * M.2 4 + 3) (-1) (4 * M.2 4 + 1) = _ ∧ fset (fset (fset (fset (S.1 7) (4 * M.2 4) (10 * y + x)) (4 * M.2 4 + 1) n) (4 * M.2 4 + 2) 0) (4 * M.2 4 + 3) (-1) (4 * M.2 4 + 2) = _
    refine ⟨?_, ?_, ?_⟩
    · rw [fset_ne (by omega), fset_ne (by omega), fset_ne (by omega), fset_same]
    · rw [fset_ne (by omega), fset_ne (by omega), fset_same]
    · rw [fset_ne (by omega), fset_same]
  refine ⟨⟨⟨hW, ⟨hR.1, hR.2.1, hR.2.2.1, fun k a b9 => ?_⟩, ⟨?_, hH.2.1, fun k a b9 => ?_⟩, hC⟩, h0⟩, ?_, ?_, ?_, fun k a b9 c9 => ?_, b, z⟩
  · have g := hR.2.2.2 k a b9
    have e1 := pin_cong (S := S) (U := sSE M S x y n) (r := k) (M.2 4).toNat (fun j a b => by
      have := r0 j (by omega)
      rw [this.2.1, this.2.2.1, this.2.2.2]
      exact ⟨Iff.rfl, fun _ => ⟨rfl, rfl⟩⟩)
    show T.1 19 k = pinI (sSE M S x y n) k (M.2 4 + 1).toNat ∧ T.1 20 k = gstI (sSE M S x y n) k (M.2 4 + 1).toNat
    have e2 : (M.2 4 + 1).toNat = (M.2 4).toNat + 1 := by omega
    have e3 : (((M.2 4).toNat : Nat) : Int) = M.2 4 := by omega
    have c : ¬ ((sSE M S x y n).1 7 (4 * (((M.2 4).toNat : Nat) : Int) + 2) = 2 ∧ (sSE M S x y n).1 7 (4 * (((M.2 4).toNat : Nat) : Int) + 3) = k) := by
      rw [e3, r1.2.2]
      omega
    rw [e2]
    show T.1 19 k = pinI (sSE M S x y n) k (M.2 4).toNat + tod ((sSE M S x y n).1 7 (4 * (((M.2 4).toNat : Nat) : Int) + 2) = 2 ∧ (sSE M S x y n).1 7 (4 * (((M.2 4).toNat : Nat) : Int) + 3) = k) ((sSE M S x y n).1 7 (4 * (((M.2 4).toNat : Nat) : Int) + 1)) 0 ∧ T.1 20 k = gstI (sSE M S x y n) k (M.2 4).toNat + bI ((sSE M S x y n).1 7 (4 * (((M.2 4).toNat : Nat) : Int) + 2) = 2 ∧ (sSE M S x y n).1 7 (4 * (((M.2 4).toNat : Nat) : Int) + 3) = k)
    rw [tod_f c, bI_f c, e1.1, e1.2]
    exact ⟨by rw [g.1]; omega, by rw [g.2]; omega⟩
  · show T.2 4 + 1 = M.2 4 + 1
    rw [e]
  · have b9 : k < M.2 4 + 1 := b9
    show fset (T.1 22) (T.2 4) (10 * y + x) k = (sSE M S x y n).1 7 (4 * k) ∧ fset (T.1 23) (T.2 4) n k = (sSE M S x y n).1 7 (4 * k + 1) ∧ fset (T.1 24) (T.2 4) 0 k = (sSE M S x y n).1 7 (4 * k + 2)
    rw [e]
    by_cases c : k = M.2 4
    · rw [c, fset_same, fset_same, fset_same, r1.1, r1.2.1, r1.2.2]
      exact ⟨rfl, rfl, rfl⟩
    · have r := r0 k (by omega)
      rw [fset_ne c, fset_ne c, fset_ne c, r.1, r.2.1, r.2.2.1]
      exact hH.2.2 k a (by omega)
  · exact okT_j4 (okT_s24 (okT_s23 (okT_s22 t (bnd_fset (okT_22 t) (by omega))) (bnd_fset (okT_23 t) (by omega))) (bnd_fset (okT_24 t) (by omega))) (by omega)
  · exact okM_j4 (okM_j0 m) (by omega)
  · refine okS_s7 s (fun k => ?_) (fun k => ?_) (fun k => ?_) (fun k => ?_)
    · have := okS_70 s k
      rw [fset_ne (by omega), fset_ne (by omega), fset_ne (by omega)]
      unfold fset
      split <;> omega
    · have := okS_71 s k
      rw [fset_ne (by omega), fset_ne (by omega)]
      unfold fset
      split
      · omega
      · rw [if_neg (by omega)]; exact this
    · have := okS_72 s k
      rw [fset_ne (by omega)]
      unfold fset
      split
      · omega
      · rw [if_neg (by omega), if_neg (by omega)]; exact this
    · have := okS_73 s k
      unfold fset
      split
      · omega
      · rw [if_neg (by omega), if_neg (by omega), if_neg (by omega)]; exact this
  · have b9 : k < M.2 4 + 1 := b9
    by_cases c : k = M.2 4
    · rw [c, r1.2.1]; omega
    · have r := r0 k (by omega)
      rw [r.2.2.1] at c9
      rw [r.2.1]
      exact p k a (by omega) c9
theorem o_addCaller {T M S : gS} {x y : Int} (i : inv T M S) (hc : tC x y) : T.2 6 = M.2 5 ∧ (T.2 6 < 3 → inv (postS T (10 * y + x)) (setI (setI M 0 0) 5 (M.2 5 + 1)) (sAC M S x y)) := by
  have q := tC_q hc
  obtain ⟨⟨⟨hW, hR, hH, hC⟩, h0⟩, t, m, s, p, b, z⟩ := i
  have n1 := okM_i5 m
  refine ⟨hC.1, fun h5 => ?_⟩
  have e := hC.1
  refine ⟨⟨⟨hW, hR, hH, ⟨?_, fun k a b9 => ?_⟩⟩, h0⟩, ?_, ?_, ?_, p, b, fun k a b9 => z k ?_ b9⟩
  · show T.2 6 + 1 = M.2 5 + 1
    rw [e]
  · have b9 : k < M.2 5 + 1 := b9
    show fset (T.1 26) (T.2 6) (10 * y + x) k = fset (fset (S.1 8) (2 * M.2 5) (10 * y + x)) (2 * M.2 5 + 1) 0 (2 * k) ∧ T.1 27 k = fset (fset (S.1 8) (2 * M.2 5) (10 * y + x)) (2 * M.2 5 + 1) 0 (2 * k + 1)
    rw [e]
    by_cases c : k = M.2 5
    · rw [c]
      refine ⟨?_, ?_⟩
      · rw [fset_same, fset_ne (by omega), fset_same]
      · rw [fset_same]; exact z _ (Int.le_refl _) (by omega)
    · have g := hC.2 k a (by omega)
      refine ⟨?_, ?_⟩
      · rw [fset_ne c, fset_ne (by omega), fset_ne (by omega)]; exact g.1
      · rw [fset_ne (by omega), fset_ne (by omega)]; exact g.2
  · exact okT_j6 (okT_s26 t (bnd_fset (okT_26 t) (by omega))) (by omega)
  · exact okM_j5 (okM_j0 m) (by omega)
  · refine okS_s8 s (fun k => ?_)
    have := okS_80 s k
    rw [fset_ne (by omega)]
    unfold fset
    split <;> omega
  · have a : M.2 5 + 1 ≤ k := a
    omega
/-! hours -/
theorem clI_27 (T : gS) : ∀ n : Nat, ∀ j : Int, (n : Int) ≤ j → (clI T n).1 27 j = T.1 27 j
  | 0, _, _ => rfl
  | n + 1, j, h => by
    rw [← clI_27 T n j (by omega)]
    show (hailS (stepC (searchS (clI T n) ((clI T n).1 26 n)) n) n).1 27 j = (clI T n).1 27 j
    have e : (stepC (searchS (clI T n) ((clI T n).1 26 n)) n).1 27 = (clI T n).1 27 := by
      unfold stepC
      split <;> rfl
    show fset ((stepC (searchS (clI T n) ((clI T n).1 26 n)) n).1 27) n _ j = _
    rw [fset_ne (by omega), e]
theorem fleeI_27 (T : gS) : ∀ n : Nat, (fleeI T n).1 27 = T.1 27
  | 0 => rfl
  | n + 1 => by
    rw [← fleeI_27 T n]
    show (fleeB n (fleeI T n)).1 27 = (fleeI T n).1 27
    unfold fleeB
    split
    · unfold enterS
      split
      all_goals (unfold moveS; split <;> rfl)
    · rfl
theorem drownI_27 (T : gS) : ∀ n : Nat, (drownI T n).1 27 = T.1 27
  | 0 => rfl
  | n + 1 => by
    rw [← drownI_27 T n]
    show (drownB n (drownI T n)).1 27 = (drownI T n).1 27
    unfold drownB
    split
    · split <;> rfl
    · rfl
theorem hourS_27 {T : gS} {j : Int} (h6 : 0 ≤ T.2 6) (h : T.2 6 ≤ j) : (hourS T).1 27 j = T.1 27 j := by
  show (drownI (fleeI (calledS (hourW T)) _) _).1 27 j = T.1 27 j
  rw [drownI_27, fleeI_27]
  unfold calledS
  split
  · exact clI_27 (hourW T) _ j (by show ((T.2 6).toNat : Int) ≤ j; omega)
  · rfl
theorem hoursI_6 (T : gS) : ∀ n : Nat, (hoursI T n).2 6 = T.2 6
  | 0 => rfl
  | n + 1 => by
    rw [← hoursI_6 T n]
    exact hourP_i (by decide) (by decide)
theorem hoursI_27 {T : gS} {j : Int} (h6 : 0 ≤ T.2 6) (h : T.2 6 ≤ j) : ∀ n : Nat, (hoursI T n).1 27 j = T.1 27 j
  | 0 => rfl
  | n + 1 => by
    rw [← hoursI_27 h6 h n]
    have e := hoursI_6 T n
    exact hourS_27 (T := hoursI T n) (by rw [e]; exact h6) (by rw [e]; exact h)
theorem mhsI_2 (M S : gS) : ∀ n : Nat, (mhsI M S n).2.1 2 = S.1 2
  | 0 => rfl
  | n + 1 => by
    rw [← mhsI_2 M S n]
    show (mHourS (mhsI M S n).1 (mhsI M S n).2).1 2 = (mhsI M S n).2.1 2
    rw [mDr_f _ _ (by decide) (by decide)]
    exact (drI_f _ _).1 2 (by decide) (by decide)
theorem mhsI_1 (M S : gS) : ∀ n : Nat, (mhsI M S n).1.1 1 = M.1 1
  | 0 => rfl
  | n + 1 => (mHourM_1 _ _).trans (mhsI_1 M S n)
theorem o_pass {T M S : gS} {n : Nat} (i : inv T M S) : (hoursI T n).2 5 - T.2 5 = (mhsI (setI M 0 0) S n).2.2 1 - S.2 1 ∧ inv (hoursI T n) (mhsI (setI M 0 0) S n).1 (mhsI (setI M 0 0) S n).2 ∧ (hoursI T n).2 0 = T.2 0 + n ∧ (mhsI (setI M 0 0) S n).1.2 0 = 0 := by
  have i0 := inv_0 (t := 0) i
  have hH := inv_H i0
  obtain ⟨h, t, m, s, p, b, z⟩ := i0
  have h2 := sim_hours t hH m s p h n
  obtain ⟨a1, a2, a3⟩ := hoursI_b t hH n
  obtain ⟨b1, b2, b3, b4, b5⟩ := mhsI_b m s p n
  have e := h2.1.2.2.1.2.1
  have e2 := h.1.2.2.1.2.1
  have n6 := okT_i6 t
  refine ⟨by rw [e, e2], ⟨h2, a1, b1, b2, ?_, ?_, fun k a b9 => ?_⟩, a3, ?_⟩
  · rw [b4]; exact b3
  · rw [mhsI_2]; exact b
  · have a : (mhsI (setI M 0 0) S n).1.2 5 ≤ k := a
    rw [b4] at a
    rw [hoursI_27 n6.1 (by rw [h.1.2.2.2.1]; exact a)]
    exact z k a b9
  · rw [b4]; rfl
