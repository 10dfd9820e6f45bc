/-! rows that the model's people leave as they are -/
theorem flI_1 (M S : gS) : ∀ n : Nat, (flI M S n).1.1 1 = M.1 1
  | 0 => rfl
  | n + 1 => by
    rw [← flI_1 M S n]
    show (flB n (flI M S n)).1.1 1 = (flI M S n).1.1 1
    generalize flI M S n = x
    unfold flB
    split
    · exact flM_1
    · rfl
theorem mclI_1 (M S : gS) : ∀ n : Nat, (mclI M S n).1.1 1 = M.1 1
  | 0 => rfl
  | n + 1 => by
    rw [← mclI_1 M S n]
    exact mCallM_1
theorem mHou_1 (M S : gS) : (mHou M S).1.1 1 = M.1 1 := by
  unfold mHou
  rw [flI_1]
  unfold mCld
  split
  · exact mclI_1 M S _
  · rfl
theorem mHourM_1 (M S : gS) : (mHourM M S).1 1 = M.1 1 := mHou_1 _ _
theorem mhI_f (S : gS) (c : Int) {j : Nat} (h7 : j ≠ 7) (h8 : j ≠ 8) : ∀ n : Nat, (mhI S c n).1 j = S.1 j
  | 0 => rfl
  | n + 1 => by
    rw [← mhI_f S c h7 h8 n]
    show (mhB c n (mhI S c n)).1 j = (mhI S c n).1 j
    generalize mhI S c n = x
    unfold mhB
    split
    · show (if j = 8 then _ else if j = 7 then _ else x.1 j) = _
      rw [if_neg h8, if_neg h7]
    · rfl
theorem mclI_f (M S : gS) {j : Nat} (h7 : j ≠ 7) (h8 : j ≠ 8) : ∀ n : Nat, (mclI M S n).2.1 j = S.1 j
  | 0 => rfl
  | n + 1 => by
    rw [← mclI_f M S h7 h8 n]
    show (mCallS (mclI M S n).1 (mclI M S n).2 n).1 j = (mclI M S n).2.1 j
    unfold mCallS
    rw [mhI_f _ _ h7 h8]
    unfold mStep
    split
    · show (if j = 8 then _ else (mclI M S n).2.1 j) = _
      rw [if_neg h8]
    · rfl
theorem flI_f (M S : gS) {j : Nat} (h7 : j ≠ 7) : ∀ n : Nat, (flI M S n).2.1 j = S.1 j
  | 0 => rfl
  | n + 1 => by
    rw [← flI_f M S h7 n]
    show (flB n (flI M S n)).2.1 j = (flI M S n).2.1 j
    generalize flI M S n = x
    have e1 : (flS x.1 x.2 n).1 j = x.2.1 j := by
      unfold flS
      split
      · show (if j = 7 then _ else x.2.1 j) = _
        rw [if_neg h7]
      · rfl
    unfold flB
    split
    · rw [← e1]
      show (enS x.1 (flS x.1 x.2 n) n).1 j = (flS x.1 x.2 n).1 j
      unfold enS
      split
      · rfl
      · show (if j = 7 then _ else (flS x.1 x.2 n).1 j) = _
        rw [if_neg h7]
    · rfl
theorem mdI_f (S : gS) {j : Nat} (h7 : j ≠ 7) : ∀ n : Nat, (mdI S n).1 j = S.1 j
  | 0 => rfl
  | n + 1 => by
    rw [← mdI_f S h7 n]
    show (mdS (mdI S n) n).1 j = (mdI S n).1 j
    generalize mdI S n = x
    unfold mdS
    split
    · rfl
    · split
      · show (if j = 7 then _ else x.1 j) = _
        rw [if_neg h7]
      · show (if j = 7 then _ else x.1 j) = _
        rw [if_neg h7]
theorem mDr_f (M S : gS) {j : Nat} (h7 : j ≠ 7) (h8 : j ≠ 8) : (mHourS M S).1 j = (mWat M S).1 j := by
  show (mdI (mHou (mWatM M S) (mWat M S)).2 (M.2 4).toNat).1 j = _
  rw [mdI_f _ h7]
  unfold mHou
  rw [flI_f _ _ h7]
  unfold mCld
  split
  · exact mclI_f _ _ h7 h8 _
  · rfl
/-! water alone -/
def simV (p : Int) (T M S : gS) : Prop := simW p T M S ∧ T.2 0 = S.2 0
theorem simW_S {p : Int} {T M S U : gS} (h1 : U.1 1 = S.1 1) (h2 : U.1 2 = S.1 2) (h3 : U.1 3 = S.1 3) (h4 : U.1 4 = S.1 4) (h5 : U.1 5 = S.1 5) (h : simW p T M S) : simW p T M U := by
  unfold simW simL simP simG at h ⊢
  rw [h1, h2, h3, h4, h5]
  exact h
theorem simV_hour {p : Int} {T M S : gS} (hT : okT T) (hM : okM M) (hS : okS S) (hP : okP S (M.2 4)) (h : simV p T M S) : simV p (hourW T) (mHourM M S) (mHourS M S) := by
  have h1 := sim_water hT hM hS h.2 h.1
  have h2 : simW p (waterS T) M (mWat M S) := simW_M (M := mWatM M S) rfl rfl h1
  have h3 : simW p (waterS T) (mHourM M S) (mWat M S) := simW_M (mHourM_1 M S) (mHour_b hM hS hP).2.2.2 h2
  have h4 : simW p (waterS T) (mHourM M S) (mHourS M S) := simW_S (mDr_f M S (by decide) (by decide)) (mDr_f M S (by decide) (by decide)) (mDr_f M S (by decide) (by decide)) (mDr_f M S (by decide) (by decide)) (mDr_f M S (by decide) (by decide)) h3
  refine ⟨h4, ?_⟩
  rw [mHourS_0]
  show T.2 0 + 1 = S.2 0 + 1
  rw [h.2]
theorem simV_hours {p : Int} {T M S : gS} (hT : okT T) (hM : okM M) (hS : okS S) (hP : okP S (M.2 4)) (h : simV p T M S) : ∀ n : Nat, simV p (hWI T n) (mhsI M S n).1 (mhsI M S n).2
  | 0 => h
  | n + 1 => by
    have ih := simV_hours hT hM hS hP h n
    obtain ⟨a1, a2, a3⟩ := hWI_b hT n
    obtain ⟨b1, b2, b3, b4, b5⟩ := mhsI_b hM hS hP n
    exact simV_hour a1 b1 b2 (by show okP (mhsI M S n).2 ((mhsI M S n).1.2 4); rw [b4]; exact b3) ih
/-! copies -/
theorem fcpy_in {f g : Int → Int} {n q : Int} (a : 0 ≤ q) (b : q < n) : fcpy f g n q = f q := if_pos ⟨a, b⟩
theorem cpI_in {f g : Int → Int} {n : Nat} {q : Int} (a : 0 ≤ q) (b : q < n) : cpI f g n q = g q := by rw [cpI_v, if_pos ⟨a, b⟩]
theorem sim_copy {p r : Int} {T M S H K : gS} (hM : okM M) (h : simA p r T M S) : simA (M.2 1) (M.2 3) (copyS H T) M (becS S K) := by
  obtain ⟨⟨⟨hL, hP, hG⟩, hR, hH, hC⟩, h0⟩ := h
  have n1 := okM_i1 hM; have n2 := okM_i2 hM; have n3 := okM_i3 hM; have n4 := okM_i4 hM; have n5 := okM_i5 hM
  have c1 : ((T.2 1).toNat : Int) = M.2 1 := by rw [hP.1]; omega
  have c2 : ((T.2 2).toNat : Int) = M.2 2 := by rw [hG.1]; omega
  have c3 : ((T.2 3).toNat : Int) = M.2 3 := by rw [hR.1]; omega
  have c4 : ((T.2 4).toNat : Int) = M.2 4 := by rw [hH.1]; omega
  have c5 : ((T.2 6).toNat : Int) = M.2 5 := by rw [hC.1]; omega
  refine ⟨⟨⟨⟨fun q a b => ?_, fun q a b => ?_, fun q a b => ?_, fun q a b => ?_⟩, ⟨hP.1, Int.le_refl _, fun k a b => ?_, fun k a b => ?_⟩, ⟨hG.1, fun k a b => ?_⟩⟩, ⟨hR.1, Int.le_refl _, fun k a b => ?_, fun k a b => ?_⟩, ⟨hH.1, hH.2.1, fun k a b => ?_⟩, ⟨hC.1, fun k a b => ?_⟩⟩, h0⟩
  · exact (fcpy_in a b).trans ((hL.1 q a b).trans (fcpy_in a b).symm)
  · exact (fcpy_in a b).trans ((hL.2.1 q a b).trans (fcpy_in a b).symm)
  · exact (fcpy_in a b).trans ((hL.2.2.1 q a b).trans (fcpy_in a b).symm)
  · exact (fcpy_in a b).trans (hL.2.2.2 q a b)
  · have g := hP.2.2.1 k a b
    refine ⟨?_, ?_, ?_, ?_⟩
    · exact (cpI_in a (by omega)).trans (g.1.trans (fcpy_in (by omega) (by omega)).symm)
    · exact (cpI_in a (by omega)).trans (g.2.1.trans (fcpy_in (by omega) (by omega)).symm)
    · exact (cpI_in a (by omega)).trans (g.2.2.1.trans (fcpy_in (by omega) (by omega)).symm)
    · exact (cpI_in a (by omega)).trans (g.2.2.2.trans (fcpy_in (by omega) (by omega)).symm)
  · have g := hP.2.2.2 k a (by have := hP.2.1; omega)
    exact (cpI_in a (by omega)).trans (g.trans (fcpy_in (by omega) (by omega)).symm)
  · have g := hG.2 k a b
    exact ⟨(cpI_in a (by omega)).trans (g.1.trans (fcpy_in (by omega) (by omega)).symm), (cpI_in a (by omega)).trans (g.2.trans (fcpy_in (by omega) (by omega)).symm)⟩
  · have g := hR.2.2.1 k a b
    exact ⟨(cpI_in a (by omega)).trans (g.1.trans (fcpy_in (by omega) (by omega)).symm), (cpI_in a (by omega)).trans (g.2.trans (fcpy_in (by omega) (by omega)).symm)⟩
  · have g := hR.2.2.2 k a (by have := hR.2.1; omega)
    have e := pin_cong (S := S) (U := becS S K) (r := k) (M.2 4).toNat (fun i x y => by
      have e1 : (becS S K).1 7 (4 * i + 2) = S.1 7 (4 * i + 2) := fcpy_in (by omega) (by omega)
      have e2 : (becS S K).1 7 (4 * i + 3) = S.1 7 (4 * i + 3) := fcpy_in (by omega) (by omega)
      have e3 : (becS S K).1 7 (4 * i + 1) = S.1 7 (4 * i + 1) := fcpy_in (by omega) (by omega)
      rw [e1, e2, e3]
      exact ⟨Iff.rfl, fun _ => ⟨rfl, rfl⟩⟩)
    rw [e.1, e.2]
    exact ⟨(cpI_in a (by omega)).trans g.1, (cpI_in a (by omega)).trans g.2⟩
  · have g := hH.2.2 k a b
    exact ⟨(cpI_in a (by omega)).trans (g.1.trans (fcpy_in (by omega) (by omega)).symm), (cpI_in a (by omega)).trans (g.2.1.trans (fcpy_in (by omega) (by omega)).symm), (cpI_in a (by omega)).trans (g.2.2.trans (fcpy_in (by omega) (by omega)).symm)⟩
  · have g := hC.2 k a b
    exact ⟨(cpI_in a (by omega)).trans (g.1.trans (fcpy_in (by omega) (by omega)).symm), (cpI_in a (by omega)).trans (g.2.trans (fcpy_in (by omega) (by omega)).symm)⟩
theorem sim_ww {p r q : Int} {T M S H K : gS} (hM : okM M) (h : simA p r T M S) (hq : -1 ≤ q ∧ q < 80) : simA (M.2 1) (M.2 3) (cwB T H q) M (wwB S K q) := by
  have g := sim_copy (H := H) (K := K) hM h
  unfold cwB wwB
  by_cases c : q = -1
  · rw [if_pos c, if_pos c]; exact g
  · rw [if_neg c, if_neg c]
    obtain ⟨⟨⟨hL, hP, hG⟩, hU⟩, h0⟩ := g
    refine ⟨⟨⟨⟨hL.1, fun z a b => ?_, hL.2.2⟩, hP, hG⟩, hU⟩, h0⟩
    show fset ((copyS H T).1 3) q ((copyS H T).1 3 q + 1) z = fset ((becS S K).1 2) q ((becS S K).1 2 q + 1) z
    rw [← hL.2.1 q (by omega) (by omega)]
    unfold fset
    split
    · rfl
    · exact hL.2.1 z a b
/-! sums -/
theorem sm_eq {f g : Int → Int} {o : Int} : ∀ n : Nat, (∀ k : Int, 0 ≤ k → k < n → f (o + k) = g (o + k)) → sm f o n = sm g o n
  | 0, _ => rfl
  | n + 1, h => by
    have ih := sm_eq n (fun k a b => h k a (by omega))
    show sm f o n + f (o + n) = sm g o n + g (o + n)
    rw [ih, h n (by omega) (by omega)]
theorem wet_eq {f g : Int → Int} (h : eqR f g 80) (hb : bnd f 0 40) : wet f = mwt g := by
  have key : ∀ n : Nat, n ≤ 70 → itr (wetB f) 0 n = itr (mwtB g) 0 n := by
    intro n
    induction n with
    | zero => intro _; rfl
    | succ n ih =>
      intro hn
      show itr (wetB f) 0 n + bI (0 < f (10 + (n : Int))) = itr (mwtB g) 0 n + min 1 (g (10 + (n : Int)))
      rw [ih (by omega), ← h (10 + (n : Int)) (by omega) (by omega)]
      have := hb (10 + (n : Int))
      have := bI_w (0 < f (10 + (n : Int)))
      omega
  exact key 70 (Nat.le_refl 70)
theorem hsum_eq {T M S : gS} {st : Int} (h : simH T M S) (hM : okM M) : hsum T st = ppI S st (M.2 4).toNat := by
  have n4 := okM_i4 hM
  have key : ∀ n : Nat, (n : Int) ≤ M.2 4 → itr (hsumB (T.1 24) (T.1 23) st) 0 n = ppI S st n := by
    intro n
    induction n with
    | zero => intro _; rfl
    | succ n ih =>
      intro hn
      have g := h.2.2 n (by omega) (by omega)
      show itr (hsumB (T.1 24) (T.1 23) st) 0 n + tod (T.1 24 n = st) (T.1 23 n) 0 = ppI S st n + tod (S.1 7 (4 * (n : Int) + 2) = st) (S.1 7 (4 * (n : Int) + 1)) 0
      rw [ih (by omega), g.2.1, g.2.2]
  unfold hsum
  rw [h.1]
  exact key _ (by omega)
theorem out_eq {T M S : gS} {q : Int} (h : simH T M S) (hM : okM M) (hS : okS S) : outS T q = papI S q (M.2 4).toNat := by
  have n4 := okM_i4 hM
  have key : ∀ n : Nat, (n : Int) ≤ M.2 4 → itr (outB (T.1 24) (T.1 23) (T.1 22) q) 0 n = papI S q n := by
    intro n
    induction n with
    | zero => intro _; rfl
    | succ n ih =>
      intro hn
      have g := h.2.2 n (by omega) (by omega)
      have b := okS_72 hS n
      show itr (outB (T.1 24) (T.1 23) (T.1 22) q) 0 n + tod ((T.1 24 n = 0 ∨ T.1 24 n = 1) ∧ T.1 22 n = q) (T.1 23 n) 0 = papI S q n + tod (S.1 7 (4 * (n : Int)) = q ∧ S.1 7 (4 * (n : Int) + 2) < 2) (S.1 7 (4 * (n : Int) + 1)) 0
      rw [ih (by omega), g.2.1, g.2.2, g.1]
      congr 1
      by_cases c : S.1 7 (4 * (n : Int)) = q ∧ S.1 7 (4 * (n : Int) + 2) < 2
      · rw [tod_t c, tod_t ⟨by omega, c.1⟩]
      · rw [tod_f c, tod_f (fun y => c ⟨y.2, by omega⟩)]
  unfold outS
  rw [h.1]
  exact key _ (by omega)
theorem fue_eq {p : Int} {T M S : gS} (h : simP p T M S) (hM : okM M) : sm (T.1 10) 0 (T.2 1).toNat = fueI S (M.2 1).toNat := by
  have n1 := okM_i1 hM
  have key : ∀ n : Nat, (n : Int) ≤ M.2 1 → sm (T.1 10) 0 n = fueI S n := by
    intro n
    induction n with
    | zero => intro _; rfl
    | succ n ih =>
      intro hn
      have g := h.2.2.1 n (by omega) (by omega)
      show sm (T.1 10) 0 n + T.1 10 (0 + (n : Int)) = fueI S n + S.1 4 (5 * (n : Int) + 2)
      rw [ih (by omega), Int.zero_add, g.2.2.1]
  rw [h.1]
  exact key _ (by omega)
/-! what both tell -/
theorem cnt_eq {p r w : Int} {T M S : gS} (hT : okT T) (hM : okM M) (h : simA p r T M S) : nTell T w = mCnt M S w := by
  obtain ⟨⟨⟨hL, hP, hG⟩, hR, hH, hC⟩, h0⟩ := h
  unfold nTell mCnt
  rw [h0, hH.1, hsum_eq hH hM, hsum_eq hH hM, hsum_eq hH hM, hH.2.1, wet_eq hL.2.2.1 (okT_4 hT), ring_eq hT hL.2.2.1 hG, sm_eq (f := T.1 4) (g := S.1 3) 70 (fun k a b => hL.2.2.1 _ (by omega) (by omega)), sm_eq (f := T.1 3) (g := S.1 2) 80 (fun k a b => hL.2.1 _ (by omega) (by omega))]
theorem cel_eq {p r q w : Int} {T M S : gS} (hM : okM M) (hS : okS S) (h : sim p r T M S) (hq : 0 ≤ q ∧ q < 80) : cellTell T q w = mCel S (M.2 4).toNat q w := by
  obtain ⟨⟨hL, hP, hG⟩, hR, hH, hC⟩ := h
  unfold cellTell mCel
  rw [hL.1 q hq.1 hq.2, hL.2.1 q hq.1 hq.2, hL.2.2.1 q hq.1 hq.2, lev_eq hL.1 hL.2.1 hL.2.2.1 q hq.1 hq.2, out_eq hH hM hS]
  have e : bI (S.1 3 q < 3) = bI (q ≠ -1 ∧ S.1 3 q < 3) := by
    by_cases c : S.1 3 q < 3
    · rw [bI_t c, bI_t ⟨by omega, c⟩]
    · rw [bI_f c, bI_f (fun y => c y.2)]
  rw [e]
theorem pmp_eq {p k w : Int} {T M S : gS} (hT : okT T) (h : simP p T M S) (hk : 0 ≤ k ∧ k < M.2 1) (hw : 0 ≤ w ∧ w ≤ 5) : pTell T k w = mPmp S k w := by
  have g := h.2.2.1 k hk.1 hk.2
  have g2 := h.2.2.2 k hk.1 (by have := h.2.1; omega)
  have b := okT_11 hT k
  unfold pTell mPmp
  rw [g.1, g.2.1, g.2.2.1, g2]
  by_cases c0 : w = 0
  · rw [if_pos c0, if_pos c0]
  · rw [if_neg c0, if_neg c0]
    by_cases c1 : w = 1
    · rw [if_pos c1, if_pos c1]
    · rw [if_neg c1, if_neg c1]
      by_cases c2 : w = 2
      · rw [if_pos c2, c2, show 5 * k + 2 - 1 = 5 * k + 1 by omega]
      · rw [if_neg c2]
        by_cases c3 : w = 3
        · rw [if_pos c3, c3, show 5 * k + 3 - 1 = 5 * k + 2 by omega]
        · rw [if_neg c3]
          by_cases c4 : w = 4
          · rw [if_pos c4, c4, show 5 * k + 4 - 1 = 5 * k + 3 by omega, ← g.2.2.2]
            have := bI_w (T.1 11 k ≠ 0)
            omega
          · rw [if_neg c4, show w = 5 by omega, show 5 * k + 5 - 1 = 5 * k + 4 by omega]
theorem gau_eq {k w : Int} {T M S : gS} (hT : okT T) (hw : eqR (T.1 4) (S.1 3) 80) (h : simG T M S) (hk : 0 ≤ k ∧ k < M.2 2) : gTell T k w = mGau S k w := by
  have g := h.2 k hk.1 hk.2
  have b := okT_14 hT k
  unfold gTell mGau
  rw [hw (T.1 14 k) (by omega) (by omega), g.1, g.2]
theorem ref_eq {r k w : Int} {T M S : gS} (h : simR r T M S) (hk : 0 ≤ k ∧ k < M.2 3) : rTell T k w = mRef S (M.2 4).toNat k w := by
  have g := h.2.2.1 k hk.1 hk.2
  have g2 := h.2.2.2 k hk.1 (by have := h.2.1; omega)
  unfold rTell mRef
  rw [g.1, g.2, g2.1, g2.2]
theorem ctl_eq {k w : Int} {T M S : gS} (h : simC T M S) (hk : 0 ≤ k ∧ k < M.2 5) : cTell T k w = mCtl S k w := by
  have g := h.2 k hk.1 hk.2
  unfold cTell mCtl
  rw [g.1, g.2]
theorem way_eq {p r k : Int} {T M S : gS} (hT : okT T) (hM : okM M) (hS : okS S) (h : sim p r T M S) (hk : 0 ≤ k ∧ k < M.2 4) : wayV T k = mWay M S k := by
  have g := h.2.2.1.2.2 k hk.1 hk.2
  have b := okS_72 hS k
  have hr := okT_22 hT k
  unfold wayV mWay
  rw [g.2.2]
  by_cases c2 : S.1 7 (4 * k + 2) = 2
  · rw [if_pos c2, if_pos (by omega), if_pos c2]
  · rw [if_neg c2]
    by_cases c3 : S.1 7 (4 * k + 2) = 3
    · rw [if_pos c3, if_pos (by omega), if_neg c2]
    · have c5 : ¬ 1 < S.1 7 (4 * k + 2) := by omega
      rw [if_neg c3, if_neg c5]
      obtain ⟨e1, e2⟩ := srchS_eq (a := T.1 22 k) hT h.1.1.2.2.1 (by omega)
      have h1 : sim p r (searchS T (T.1 22 k)) M S := h
      have t1 := okT_srch (c := T.1 22 k) hT (by omega)
      rw [g.1] at e1 e2 h1 t1 ⊢
      generalize searchS T (S.1 7 (4 * k)) = U at e1 e2 h1 t1
      obtain ⟨q1, q2, q3⟩ := roomS_eq t1 hM h1 hk e1
      rw [← q1]
      by_cases c4 : roomS U (U.1 23 k) = -1
      · rw [if_pos c4, if_pos c4]
      · rw [if_neg c4, if_neg c4]
        have q4 := q3 c4
        have q5 := (h1.2.1.2.2.1 (roomS U (U.1 23 k)) (by omega) q2.2).1
        rw [e1 _ q4.1.1 q4.1.2, q5]
theorem htl_eq {p r k w : Int} {T M S : gS} (hT : okT T) (hM : okM M) (hS : okS S) (h : sim p r T M S) (hk : 0 ≤ k ∧ k < M.2 4) (hw : 0 ≤ w ∧ w ≤ 4) : hTell T k w = mHtl M S k w := by
  have g := h.2.2.1.2.2 k hk.1 hk.2
  unfold hTell mHtl
  rw [g.1, g.2.1, g.2.2, way_eq hT hM hS h hk]
  by_cases c0 : w = 0
  · rw [if_pos c0, if_pos c0]
  · rw [if_neg c0, if_neg c0]
    by_cases c1 : w = 1
    · rw [if_pos c1, if_pos c1]
    · rw [if_neg c1, if_neg c1]
      by_cases c2 : w = 2
      · rw [if_pos c2, if_neg (by omega), c2, show 4 * k + 2 - 1 = 4 * k + 1 by omega]
      · rw [if_neg c2]
        by_cases c3 : w = 3
        · rw [if_pos c3, if_neg (by omega), c3, show 4 * k + 3 - 1 = 4 * k + 2 by omega]
        · rw [if_neg c3, if_pos (by omega)]
theorem sim_hTell {p r k w : Int} {T M S : gS} (hM : okM M) (hS : okS S) (h : simA p r T M S) : simA p r (hTellS T k w) (mHtlM M S k w) S := by
  have h1 : simA p r (hTellS T k w) M S := by
    unfold hTellS wayS
    repeat' split
    all_goals exact h
  have e := okM_htl (h := k) (what := w) hM hS
  have e2 : (mHtlM M S k w).1 1 = M.1 1 := by
    unfold mHtlM
    split
    · unfold mWayM
      split
      · rfl
      · exact flM_1
    · rfl
  exact ⟨sim_M e2 e.2 h1.1, h1.2⟩
theorem share_eq {T M S : gS} (h : simH T M S) (hM : okM M) : shr (hsum T 2) (hsum T 2 + hsum T 0 + hsum T 1) = shr (ppI S 2 (M.2 4).toNat) (ppI S 0 (M.2 4).toNat + ppI S 1 (M.2 4).toNat + ppI S 2 (M.2 4).toNat) := by
  rw [hsum_eq h hM, hsum_eq h hM, hsum_eq h hM]
  congr 1
  omega
/-! ahead -/
theorem for_eq {p r p2 r2 w : Int} {T M S X N Y : gS} (hX : okT X) (hN : okM N) (h : simA p r T M S) (h2 : simA p2 r2 X N Y) : cForV T X w = foreV M S Y N w := by
  unfold cForV foreV
  rw [hsum_eq h2.1.2.2.1 hN, h2.1.2.2.1.2.1, h.1.2.2.1.2.1, wet_eq h2.1.1.1.2.2.1 (okT_4 hX), fue_eq h2.1.1.2.1 hN]
theorem rg_eq {p : Int} {B M C : gS} {g : Int} (hB : okT B) (hM : okM M) (hC : okS C) (hP : okP C (M.2 4)) (h : simV p B M C) (hg : 0 ≤ g ∧ g < M.2 2) : cgR B g = rgR M C g := by
  unfold cgR rgR
  refine fst_eq 49 (fun j _ _ => ?_)
  have h1 := simV_hours hB hM hC hP h j.toNat
  have b := (hWI_b hB j.toNat).1
  have e := (mhsI_b hM hC hP j.toNat).2.2.2.1
  unfold cgF rgF
  generalize hWI B j.toNat = x at h1 b
  generalize mhsI M C j.toNat = y at h1 e
  have g1 := h1.1.2.2.2 g hg.1 (by rw [e]; exact hg.2)
  have b1 := okT_14 b g
  rw [h1.1.1.2.2.1 (x.1 14 g) (by omega) (by omega), g1.1, g1.2]
theorem wv_eq {p r q : Int} {T M S H K : gS} {n : Nat} (hT : okT T) (hH : okT H) (hM : okM M) (hS : okS S) (hK : okS K) (hP : okP S (M.2 4)) (hb : bnd (S.1 2) 0 5) (h : simA p r T M S) (hq : q = -1 ∨ (0 ≤ q ∧ q < 80) ∧ T.1 3 q < 5) : cvV (cwX T H q n) = wwV (wwX M S K q n) := by
  have n4 := okM_i4 hM
  have h1 := sim_ww (H := H) (K := K) (q := q) hM h (by omega)
  have t1 := okT_cw hT hH hq
  have s1 := okS_ww (q := q) hS hK hb (by omega)
  have p1 := okP_ww (H := K) (q := q) (by omega) hP
  have h2 := simV_hours t1 hM s1 p1 ⟨h1.1.1, h1.2⟩ n
  unfold cvV wwV cwX wwX
  generalize hWI (cwB T H q) n = x at h2
  generalize mhsI M (wwB S K q) n = y at h2
  exact sm_eq 70 (fun k a b => h2.1.1.2.2.1 _ (by omega) (by omega))
theorem ad_eq {p r : Int} {T M S H K : gS} {n : Nat} (hT : okT T) (hH : okT H) (hM : okM M) (hS : okS S) (hK : okS K) (hP : okP S (M.2 4)) (hb : bnd (S.1 2) 0 5) (h : simA p r T M S) (hr : ∀ N : gS, N.2 = M.2 → N.1 1 = M.1 1 → True) : ∀ k : Nat, k ≤ 10 → (caI T H n k).2 = (adI M S K n k).2.2 ∧ (adI M S K n k).1.1 1 = M.1 1
  | 0, _ => by
    have e := wv_eq (n := n) (q := -1) hT hH hM hS hK hP hb h (Or.inl rfl)
    refine ⟨?_, ?_⟩
    · show ((-1 : Int), cvV (cwX T H (-1) n)) = (-1, wwV (wwX M S K (-1) n))
      rw [e]
    · show (mhsI M (wwB S K (-1)) n).1.1 1 = M.1 1
      have key : ∀ n : Nat, (mhsI M (wwB S K (-1)) n).1.1 1 = M.1 1 := by
        intro n
        induction n with
        | zero => rfl
        | succ n ih => exact (mHourM_1 _ _).trans ih
      exact key n
  | k + 1, hk => by
    obtain ⟨i1, i2⟩ := ad_eq (n := n) hT hH hM hS hK hP hb h hr k (by omega)
    obtain ⟨a1, a2, a3⟩ := caI_b (n := n) hT hH k (by omega)
    obtain ⟨b1, b2, b3, b4, b5⟩ := adI_b (n := n) hM hS hK hP hb k (by omega)
    show (caB T n k (caI T H n k)).2 = (adB S n k (adI M S K n k)).2.2 ∧ (adB S n k (adI M S K n k)).1.1 1 = M.1 1
    generalize caI T H n k = x at i1 a1
    generalize adI M S K n k = y at i1 i2 b1 b2 b3
    have e0 := h.1.1.1.2.1 (10 + (k : Int)) (by omega) (by omega)
    have e1 := hb (10 + (k : Int))
    have h2 : simA p r T y.1 S := ⟨sim_M i2 b3 h.1, h.2⟩
    have m1 : (wwX y.1 S y.2.1 (10 + (k : Int)) n).1.1 1 = M.1 1 := by
      rw [← i2]
      have key : ∀ n : Nat, (mhsI y.1 (wwB S y.2.1 (10 + (k : Int))) n).1.1 1 = y.1.1 1 := by
        intro n
        induction n with
        | zero => rfl
        | succ n ih => exact (mHourM_1 _ _).trans ih
      exact key n
    unfold caB adB
    rw [show 10 * 1 + (k : Int) = 10 + (k : Int) by omega, e0]
    by_cases c : S.1 2 (10 + (k : Int)) = 5
    · rw [if_pos (by omega), if_pos c]
      exact ⟨i1, i2⟩
    · rw [if_neg (by omega), if_neg c]
      have w := wv_eq (n := n) (q := 10 + (k : Int)) hT a1 b1 hS b2 (by rw [b3]; exact hP) hb h2 (Or.inr ⟨by omega, by omega⟩)
      have i1b : x.2.2 = y.2.2.2 := congrArg Prod.snd i1
      have i1a : x.2.1 = y.2.2.1 := congrArg Prod.fst i1
      rw [w, i1b]
      by_cases c2 : y.2.2.2 ≤ wwV (wwX y.1 S y.2.1 (10 + (k : Int)) n)
      · rw [if_pos (by omega), if_pos c2]
        refine ⟨?_, m1⟩
        show (x.2.1, y.2.2.2) = (y.2.2.1, y.2.2.2)
        rw [i1a]
      · rw [if_neg (by omega), if_neg c2]
        exact ⟨rfl, m1⟩
/-! the checksums -/
theorem lmi_i {d e : Int64} {x y : Int} (h : d = e) (h2 : x = y) : lmi d x = lmi e y := by rw [h, h2]
theorem dgI_s {f : Int → Int} {d : Int64} {n : Nat} : dgI f d (n + 1) = lmi (dgI f d n) (f n) := rfl
theorem dgI_eq {f g : Int → Int} {d : Int64} (n : Nat) (h : eqR f g n) : dgI f d n = dgI g d n := by
  induction n with
  | zero => rw [dgI_0, dgI_0]
  | succ n ih =>
    have e := ih (fun q a b => h q a (by omega))
    have e2 := h n (by omega) (by omega)
    rw [dgI_s, dgI_s]
    exact lmi_i e e2
theorem dgI_add {g : Int → Int} {d : Int64} (a : Nat) : ∀ b : Nat, dgI g d (a + b) = dgI (fun j => g ((a : Int) + j)) (dgI g d a) b
  | 0 => rfl
  | b + 1 => by
    have ih := dgI_add (g := g) (d := d) a b
    show lmi (dgI g d (a + b)) (g ((a + b : Nat) : Int)) = lmi (dgI (fun j => g ((a : Int) + j)) (dgI g d a) b) (g ((a : Int) + (b : Int)))
    rw [ih, show ((a + b : Nat) : Int) = (a : Int) + (b : Int) by omega]
theorem cd_dg {f : Int → Int → Int} {g : Int → Int} {m : Nat} {d : Int64} : ∀ n : Nat, (∀ i j : Nat, i < n → j < m → g (((m * i : Nat) : Int) + j) = f i j) → dgI g d (m * n) = cdI f m d n
  | 0, _ => rfl
  | n + 1, h => by
    have ih := cd_dg (d := d) n (fun i j a b => h i j (by omega) b)
    rw [show m * (n + 1) = m * n + m by exact Nat.mul_succ m n, dgI_add, ih]
    show dgI _ (cdI f m d n) m = dgI (f n) (cdI f m d n) m
    refine dgI_eq m (fun q a b => ?_)
    have := h n q.toNat (by omega) (by omega)
    rw [show ((q.toNat : Nat) : Int) = q by omega] at this
    exact this
/-- households -/
def hoX (p r : Int) (M S : gS) (x y : gDM) : Prop := x.1 = y.1 ∧ simA p r x.2 y.2 S ∧ okT x.2 ∧ okM y.2 ∧ y.2.2 = M.2
theorem ho_step {p r : Int} {M S : gS} {x y : gDM} {h w : Int} (hS : okS S) (hk : 0 ≤ h ∧ h < M.2 4) (hw : 0 ≤ w ∧ w ≤ 4) (i : hoX p r M S x y) : hoX p r M S (lmi x.1 (hTell x.2 h w), hTellS x.2 h w) (lmi y.1 (mHtl y.2 S h w), mHtlM y.2 S h w) := by
  obtain ⟨i1, i2, i3, i4, i5⟩ := i
  have e := okM_htl (h := h) (what := w) i4 hS
  exact ⟨lmi_i i1 (htl_eq i3 i4 hS i2.1 (by rw [i5]; exact hk) hw), sim_hTell i4 hS i2, okT_hTell i3, e.1, e.2.trans i5⟩
theorem ho_eq {p r : Int} {T M S : gS} {d : Int64} (hT : okT T) (hM : okM M) (hS : okS S) (h : simA p r T M S) : ∀ n : Nat, (n : Int) ≤ M.2 4 → hoX p r M S (peI T d n) (dhI M S d (5 * n))
  | 0, _ => ⟨rfl, h, hT, hM, rfl⟩
  | n + 1, hn => by
    have ih := ho_eq (d := d) hT hM hS h n (by omega)
    have e1 : peI T d (n + 1) = itr (peB n) (peI T d n) 5 := rfl
    rw [e1]
    generalize peI T d n = x at ih
    have key : ∀ j : Nat, j ≤ 5 → hoX p r M S (itr (peB n) x j) (dhI M S d (5 * n + j)) := by
      intro j
      induction j with
      | zero => intro _; exact ih
      | succ j jh =>
        intro hj
        have q := jh (by omega)
        have e3 : itr (peB n) x (j + 1) = (lmi (itr (peB n) x j).1 (hTell (itr (peB n) x j).2 n j), hTellS (itr (peB n) x j).2 n j) := rfl
        have e4 : dhI M S d (5 * n + (j + 1)) = (lmi (dhI M S d (5 * n + j)).1 (mHtl (dhI M S d (5 * n + j)).2 S (((5 * n + j : Nat) : Int) / 5) (((5 * n + j : Nat) : Int) % 5)), mHtlM (dhI M S d (5 * n + j)).2 S (((5 * n + j : Nat) : Int) / 5) (((5 * n + j : Nat) : Int) % 5)) := rfl
        rw [e3, e4, show ((5 * n + j : Nat) : Int) / 5 = (n : Int) by omega, show ((5 * n + j : Nat) : Int) % 5 = (j : Int) by omega]
        exact ho_step hS ⟨by omega, by omega⟩ ⟨by omega, by omega⟩ q
    exact key 5 (Nat.le_refl 5)
theorem dig_eq {p r : Int} {T M S : gS} (hT : okT T) (hM : okM M) (hS : okS S) (h : simA p r T M S) : ceP T (ceD T) = dg8 M S ∧ simA p r (ce7 T (ceD T)).2 (dg7 M S).2 S ∧ okT (ce7 T (ceD T)).2 ∧ okM (dg7 M S).2 ∧ (dg7 M S).2.2 = M.2 := by
  have n1 := okM_i1 hM; have n2 := okM_i2 hM; have n3 := okM_i3 hM; have n4 := okM_i4 hM; have n5 := okM_i5 hM
  have h' := h
  obtain ⟨⟨⟨hL, hP, hG⟩, hR, hH, hC⟩, h0⟩ := h
  have e1 : cd1 T = dg1 M S := dgI_eq 10 (fun q a b => cnt_eq hT hM h')
  have e2 : ce2 T = dg2 M S := by
    unfold ce2 dg2
    rw [e1, show (480 : Nat) = 6 * 80 by decide]
    refine (cd_dg 80 (fun i j a b => ?_)).symm
    show mCel S (M.2 4).toNat ((((6 * i : Nat) : Int) + (j : Int)) / 6) ((((6 * i : Nat) : Int) + (j : Int)) % 6) = cellTell T i j
    rw [show (((6 * i : Nat) : Int) + (j : Int)) / 6 = (i : Int) by omega, show (((6 * i : Nat) : Int) + (j : Int)) % 6 = (j : Int) by omega]
    exact (cel_eq hM hS h'.1 ⟨by omega, by omega⟩).symm
  have e3 : ce3 T = dg3 M S := by
    unfold ce3 dg3
    rw [e2]
    exact dgI_eq 12 hL.2.2.2
  have e4 : ce4 T (ce3 T) = dg4 M S := by
    unfold ce4 dg4
    rw [e3, hP.1, show (6 * M.2 1).toNat = 6 * (M.2 1).toNat by omega]
    refine (cd_dg _ (fun i j a b => ?_)).symm
    show mPmp S ((((6 * i : Nat) : Int) + (j : Int)) / 6) ((((6 * i : Nat) : Int) + (j : Int)) % 6) = pTell T i j
    rw [show (((6 * i : Nat) : Int) + (j : Int)) / 6 = (i : Int) by omega, show (((6 * i : Nat) : Int) + (j : Int)) % 6 = (j : Int) by omega]
    exact (pmp_eq hT hP ⟨by omega, by omega⟩ ⟨by omega, by omega⟩).symm
  have e5 : ce5 T (ce4 T (ce3 T)) = dg5 M S := by
    unfold ce5 dg5
    rw [e4, hG.1, show (5 * M.2 2).toNat = 5 * (M.2 2).toNat by omega]
    refine (cd_dg _ (fun i j a b => ?_)).symm
    show mGau S ((((5 * i : Nat) : Int) + (j : Int)) / 5) ((((5 * i : Nat) : Int) + (j : Int)) % 5) = gTell T i j
    rw [show (((5 * i : Nat) : Int) + (j : Int)) / 5 = (i : Int) by omega, show (((5 * i : Nat) : Int) + (j : Int)) % 5 = (j : Int) by omega]
    exact (gau_eq hT hL.2.2.1 hG ⟨by omega, by omega⟩).symm
  have e6 : ceD T = dg6 M S := by
    show ce6 T (ce5 T (ce4 T (ce3 T))) = dg6 M S
    unfold ce6 dg6
    rw [e5, hR.1, show (5 * M.2 3).toNat = 5 * (M.2 3).toNat by omega]
    refine (cd_dg _ (fun i j a b => ?_)).symm
    show mRef S (M.2 4).toNat ((((5 * i : Nat) : Int) + (j : Int)) / 5) ((((5 * i : Nat) : Int) + (j : Int)) % 5) = rTell T i j
    rw [show (((5 * i : Nat) : Int) + (j : Int)) / 5 = (i : Int) by omega, show (((5 * i : Nat) : Int) + (j : Int)) % 5 = (j : Int) by omega]
    exact (ref_eq hR ⟨by omega, by omega⟩).symm
  have e7 : hoX p r M S (ce7 T (ceD T)) (dg7 M S) := by
    unfold ce7 dg7
    rw [e6, hH.1, show (5 * M.2 4).toNat = 5 * (M.2 4).toNat by omega]
    exact ho_eq hT hM hS h' _ (by omega)
  obtain ⟨i1, i2, i3, i4, i5⟩ := e7
  refine ⟨?_, i2, i3, i4, i5⟩
  show ce8 (ce7 T (ceD T)).2 (ce7 T (ceD T)).1 = dg8 M S
  unfold ce8 dg8
  rw [i1, i2.1.2.2.2.1, i5, show (3 * M.2 5).toNat = 3 * (M.2 5).toNat by omega]
  refine (cd_dg _ (fun i j a b => ?_)).symm
  show mCtl S ((((3 * i : Nat) : Int) + (j : Int)) / 3) ((((3 * i : Nat) : Int) + (j : Int)) % 3) = cTell (ce7 T (ceD T)).2 i j
  rw [show (((3 * i : Nat) : Int) + (j : Int)) / 3 = (i : Int) by omega, show (((3 * i : Nat) : Int) + (j : Int)) % 3 = (j : Int) by omega]
  exact (ctl_eq i2.1.2.2.2 ⟨by omega, by rw [i5]; omega⟩).symm
