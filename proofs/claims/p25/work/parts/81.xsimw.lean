/-! the class's town beside the model's: land, pumps, gauges -/
def simL (T M S : gS) : Prop := eqR (T.1 2) (S.1 1) 80 ∧ eqR (T.1 3) (S.1 2) 80 ∧ eqR (T.1 4) (S.1 3) 80 ∧ eqR (T.1 6) (M.1 1) 12
def simP (p : Int) (T M S : gS) : Prop := T.2 1 = M.2 1 ∧ M.2 1 ≤ p ∧ (∀ k : Int, 0 ≤ k → k < M.2 1 → T.1 8 k = S.1 4 (5 * k) ∧ T.1 9 k = S.1 4 (5 * k + 1) ∧ T.1 10 k = S.1 4 (5 * k + 2) ∧ T.1 11 k = S.1 4 (5 * k + 3)) ∧ ∀ k : Int, 0 ≤ k → k < p → T.1 12 k = S.1 4 (5 * k + 4)
def simG (T M S : gS) : Prop := T.2 2 = M.2 2 ∧ ∀ k : Int, 0 ≤ k → k < M.2 2 → T.1 14 k = S.1 5 (2 * k) ∧ T.1 15 k = S.1 5 (2 * k + 1)
def simW (p : Int) (T M S : gS) : Prop := simL T M S ∧ simP p T M S ∧ simG T M S
theorem simW_M {p : Int} {T M N S : gS} (h1 : N.1 1 = M.1 1) (h2 : N.2 = M.2) (h : simW p T M S) : simW p T N S := by
  unfold simW simL simP simG at h ⊢
  rw [h1, h2]
  exact h
/-- the river -/
theorem riseB_v (v : Int) (w : Int → Int) : ∀ (n : Nat) (q : Int), itr (riseB v) w n q = if 0 ≤ q ∧ q < n then v else w q
  | 0, q => by rw [if_neg (by omega)]; rfl
  | n + 1, q => by
    show fset (itr (riseB v) w n) n v q = _
    unfold fset
    by_cases h : q = n
    · rw [if_pos h, if_pos (by omega)]
    · rw [if_neg h, riseB_v v w n q]
      by_cases h2 : 0 ≤ q ∧ q < n
      · rw [if_pos h2, if_pos (by omega)]
      · rw [if_neg h2, if_neg (by omega)]
theorem rise_eq {tb tc w v : Int → Int} {h : Int} (h1 : eqR tb tc 12) (h2 : eqR w v 80) : eqR (rise tb w h) (rise tc v h) 80 := by
  intro q a b
  unfold rise
  rw [riseB_v, riseB_v, h1 (h % 12) (by omega) (by omega), h2 q a b]
/-- the flow -/
theorem lev_eq {g b w g2 b2 w2 : Int → Int} (h1 : eqR g g2 80) (h2 : eqR b b2 80) (h3 : eqR w w2 80) : eqR (lev g b w) (lev g2 b2 w2) 80 := by
  intro q x y
  unfold lev
  rw [h1 q x y, h2 q x y, h3 q x y]
theorem lowest_eq {u v : Int → Int} (h : eqR u v 80) {p : Int} (hp : 0 ≤ p ∧ p < 80) : lowest u p = lowest v p := by
  have key : ∀ n : Nat, itr (lowB u p) (-1) n = itr (lowB v p) (-1) n := by
    intro n
    induction n with
    | zero => rfl
    | succ n ih =>
      have hb := low_b (lv := u) hp n
      show lowB u p n (itr (lowB u p) (-1) n) = lowB v p n (itr (lowB v p) (-1) n)
      rw [← ih]
      generalize itr (lowB u p) (-1) n = z at hb
      unfold lowB
      by_cases h1 : nbr p n = -1
      · rw [if_neg (fun y => y.1 h1), if_neg (fun y => y.1 h1)]
      · have hr := nbr_in hp h1
        rw [h (nbr p n) hr.1 hr.2]
        by_cases h2 : z = -1
        · simp only [h2, true_or, and_true]
        · rw [h z (by omega) hb.2]
  exact key 4
theorem giv_eq {u v w x : Int → Int} (h : eqR u v 80) (hw : eqR w x 80) (hb : bnd w 0 40) {p lo : Int} (hp : 0 ≤ p ∧ p < 80) (hl : 0 ≤ lo ∧ lo < 80) : givn u w lo p = mgv v x lo p := by
  have := hb p
  unfold givn mgv
  rw [← h p hp.1 hp.2, ← h lo hl.1 hl.2, ← hw p hp.1 hp.2]
  split <;> split <;> omega
theorem flow_eq {u v w x t m0 : Int → Int} (h : eqR u v 80) (hw : eqR w x 80) (hb : bnd w 0 40) : ∀ n : Nat, n ≤ 80 → ∀ j : Int, 0 ≤ j → j < 80 → itr (flowB u w) (fcpy w t 80) n j = x j + itr (mflB v x) (cpI m0 (fun _ => 0) 80) n j
  | 0, _, j, h1, h2 => by
    show fcpy w t 80 j = x j + cpI m0 (fun _ => 0) 80 j
    rw [cpI_v, if_pos (by omega)]
    unfold fcpy
    rw [if_pos (by omega), hw j h1 h2]
    omega
  | n + 1, hn, j, h1, h2 => by
    have ih := flow_eq (t := t) (m0 := m0) h hw hb n (by omega)
    show flowB u w n (itr (flowB u w) (fcpy w t 80) n) j = x j + mflB v x n (itr (mflB v x) (cpI m0 (fun _ => 0) 80) n) j
    generalize itr (flowB u w) (fcpy w t 80) n = f at ih
    generalize itr (mflB v x) (cpI m0 (fun _ => 0) 80) n = g at ih
    have hl := lowest_b (lv := u) (p := n) (by omega)
    have hc := lowest_ne (lv := u) (p := n) (by omega)
    have e1 := lowest_eq h (p := n) (by omega)
    unfold flowB mflB
    rw [if_pos hc, ← e1]
    have e2 := giv_eq h hw hb (p := n) (lo := lowest u n) (by omega) (by omega)
    rw [← e2]
    generalize givn u w (lowest u n) n = g9
    generalize lowest u n = m at hl hc
    have i1 := ih j h1 h2
    have i2 := ih m (by omega) hl.2
    have i3 := ih n (by omega) (by omega)
    unfold fset
    by_cases c1 : j = m
    · rw [if_pos c1, if_pos c1]
      by_cases c2 : m = (n : Int)
      · rw [if_pos c2, if_pos c2, c1, c2]; omega
      · rw [if_neg c2, if_neg c2, c1]; omega
    · rw [if_neg c1, if_neg c1]
      by_cases c2 : j = (n : Int)
      · rw [if_pos c2, if_pos c2, c2]; omega
      · rw [if_neg c2, if_neg c2]; exact i1
theorem cutB_v (t w : Int → Int) : ∀ (n : Nat) (q : Int), itr (cutB t) w n q = if 0 ≤ q ∧ q < n then min (t q) 40 else w q
  | 0, q => by rw [if_neg (by omega)]; rfl
  | n + 1, q => by
    show fset (itr (cutB t) w n) n (min (t n) 40) q = _
    unfold fset
    by_cases h : q = n
    · rw [if_pos h, if_pos (by omega), h]
    · rw [if_neg h, cutB_v t w n q]
      by_cases h2 : 0 ≤ q ∧ q < n
      · rw [if_pos h2, if_pos (by omega)]
      · rw [if_neg h2, if_neg (by omega)]
theorem mwB_v (m w : Int → Int) : ∀ (n : Nat) (q : Int), itr (mwB m) w n q = if 0 ≤ q ∧ q < n then min 40 (w q + m q) else w q
  | 0, q => by rw [if_neg (by omega)]; rfl
  | n + 1, q => by
    show fset (itr (mwB m) w n) n (min 40 (itr (mwB m) w n n + m n)) q = _
    rw [mwB_v m w n n, if_neg (by omega)]
    unfold fset
    by_cases h : q = n
    · rw [if_pos h, if_pos (by omega), h]
    · rw [if_neg h, mwB_v m w n q]
      by_cases h2 : 0 ≤ q ∧ q < n
      · rw [if_pos h2, if_pos (by omega)]
      · rw [if_neg h2, if_neg (by omega)]
theorem flowS_eq {T M S : gS} (hT : okT T) (h : simL T M S) : eqR ((flowS T).1 4) ((mflowS M S).1 3) 80 := by
  obtain ⟨h1, h2, h3, h4⟩ := h
  have hl : eqR (lev (T.1 2) (T.1 3) (T.1 4)) (mlv M S) 80 := by
    intro q a b
    rw [lev_eq h1 h2 h3 q a b]
    unfold mlv
    rw [cpI_v, if_pos (by omega)]
    rfl
  have hf := flow_eq (t := T.1 5) (m0 := M.1 5) hl h3 (okT_4 hT) 80 (Nat.le_refl 80)
  intro q a b
  show flow2 (flow1 (lev (T.1 2) (T.1 3) (T.1 4)) (T.1 4) (T.1 5)) (T.1 4) q = itr (mwB (mmo M S)) (S.1 3) 80 q
  unfold flow2
  rw [cutB_v, mwB_v, if_pos (by omega), if_pos (by omega)]
  have hf := hf q a b
  have e : flow1 (lev (T.1 2) (T.1 3) (T.1 4)) (T.1 4) (T.1 5) q = S.1 3 q + mmo M S q := hf
  rw [e]
  omega
/-! pumps -/
theorem drI_f (S : gS) : ∀ n : Nat, (∀ j : Nat, j ≠ 3 → j ≠ 4 → (drI S n).1 j = S.1 j) ∧ (drI S n).2 = S.2
  | 0 => ⟨fun _ _ _ => rfl, rfl⟩
  | n + 1 => by
    obtain ⟨h1, h2⟩ := drI_f S n
    show (∀ j : Nat, j ≠ 3 → j ≠ 4 → (drainS (drI S n) n).1 j = S.1 j) ∧ (drainS (drI S n) n).2 = S.2
    generalize drI S n = x at h1 h2
    unfold drainS
    split
    · exact ⟨h1, h2⟩
    · refine ⟨fun j a b => ?_, h2⟩
      rw [← h1 j a b]
      show (if j = 4 then _ else if j = 3 then _ else x.1 j) = _
      rw [if_neg b, if_neg a]
theorem work_eq {p : Int} {T M S : gS} (hT : okT T) (hS : okS S) (hw : eqR (T.1 4) (S.1 3) 80) (h : simP p T M S) : ∀ n : Nat, (n : Int) ≤ M.2 1 →
    eqR (pumpI T n).1 ((drI S n).1 3) 80 ∧ (∀ k : Int, 0 ≤ k → k < p → (pumpI T n).2.1 k = (drI S n).1 4 (5 * k + 4)) ∧ (∀ k : Int, 0 ≤ k → k < M.2 1 → (pumpI T n).2.2 k = (drI S n).1 4 (5 * k + 2)) ∧
    (∀ k : Int, (drI S n).1 4 (5 * k) = S.1 4 (5 * k) ∧ (drI S n).1 4 (5 * k + 1) = S.1 4 (5 * k + 1) ∧ (drI S n).1 4 (5 * k + 3) = S.1 4 (5 * k + 3))
  | 0, _ => ⟨hw, h.2.2.2, fun k a b => (h.2.2.1 k a b).2.2.1, fun k => ⟨rfl, rfl, rfl⟩⟩
  | n + 1, hn => by
    obtain ⟨q1, q2, q3, q4⟩ := work_eq hT hS hw h n (by omega)
    have hb := pumpI_b hT n
    have hs := okS_drI hS n
    have e1 : pumpI T (n + 1) = pumpB (T.1 8) (T.1 9) (T.1 11) n (pumpI T n) := rfl
    have e2 : drI S (n + 1) = drainS (drI S n) n := rfl
    rw [e1, e2]
    generalize pumpI T n = x at q1 q2 q3 hb
    generalize drI S n = y at q1 q2 q3 q4 hs
    obtain ⟨g1, g2, g3, g4⟩ := h.2.2.1 n (by omega) (by omega)
    obtain ⟨r1, r2, r3⟩ := q4 n
    have q3n := q3 n (by omega) (by omega)
    have q2n := q2 n (by omega) (by have := h.2.1; omega)
    have cb := okT_8 hT n
    have pb := okT_9 hT n
    have wb := hb.1 (T.1 8 n)
    have fb := hb.2 n
    have q1n := q1 (T.1 8 n) (by omega) (by omega)
    unfold pumpB drainS ownM
    rw [r1, r2, r3, ← g1, ← g2, ← g4, ← q3n, ← q2n, ← q1n]
    have rb := okT_11 hT n
    by_cases hc : T.1 11 n ≠ 0 ∧ 0 < x.2.2 n ∧ 0 < x.1 (T.1 8 n)
    · rw [if_pos hc, if_neg (by omega)]
      refine ⟨fun q a b => ?_, fun k a b => ?_, fun k a b => ?_, fun k => ?_⟩
      · show fset x.1 (T.1 8 n) _ q = fset (y.1 3) (T.1 8 n) _ q
        unfold fset
        split
        · rfl
        · exact q1 q a b
      · show fset x.2.1 n _ k = fset (fset (y.1 4) (5 * (n : Int) + 2) _) (5 * (n : Int) + 4) _ (5 * k + 4)
        by_cases e : k = n
        · rw [e, fset_same, fset_same]
        · rw [fset_ne e, fset_ne (by omega), fset_ne (by omega)]
          exact q2 k a b
      · show fset x.2.2 n _ k = fset (fset (y.1 4) (5 * (n : Int) + 2) _) (5 * (n : Int) + 4) _ (5 * k + 2)
        rw [fset_ne (show 5 * k + 2 ≠ 5 * (n : Int) + 4 by omega)]
        by_cases e : k = n
        · rw [e, fset_same, fset_same]
        · rw [fset_ne e, fset_ne (by omega)]
          exact q3 k a b
      · have := q4 k
        show fset (fset (y.1 4) (5 * (n : Int) + 2) _) (5 * (n : Int) + 4) _ (5 * k) = _ ∧ fset (fset (y.1 4) (5 * (n : Int) + 2) _) (5 * (n : Int) + 4) _ (5 * k + 1) = _ ∧ fset (fset (y.1 4) (5 * (n : Int) + 2) _) (5 * (n : Int) + 4) _ (5 * k + 3) = _
        rw [fset_ne (by omega), fset_ne (by omega), fset_ne (by omega), fset_ne (by omega), fset_ne (by omega), fset_ne (by omega)]
        exact this
    · rw [if_neg hc, if_pos (by omega)]
      exact ⟨q1, q2, q3, q4⟩
/-- an hour's water -/
theorem sim_water {p : Int} {T M S : gS} (hT : okT T) (hM : okM M) (hS : okS S) (hh : T.2 0 = S.2 0) (h : simW p T M S) : simW p (waterS T) (mWatM M S) (mWat M S) := by
  obtain ⟨hL, hP, hG⟩ := h
  have t1 : okT (setA T 4 (rise (T.1 6) (T.1 4) (T.2 0))) := okT_s4 hT (rise_b (okT_6 hT) (okT_4 hT))
  have s1 := okS_mRise hM hS
  have L1 : simL (setA T 4 (rise (T.1 6) (T.1 4) (T.2 0))) M (mRise M S) := by
    refine ⟨hL.1, hL.2.1, ?_, hL.2.2.2⟩
    show eqR (rise (T.1 6) (T.1 4) (T.2 0)) (rise (M.1 1) (S.1 3) (S.2 0)) 80
    rw [hh]
    exact rise_eq hL.2.2.2 hL.2.2.1
  have P1 : simP p (setA T 4 (rise (T.1 6) (T.1 4) (T.2 0))) M (mRise M S) := hP
  have W1 := flowS_eq t1 L1
  have t2 := okT_flow t1
  have s2 := okS_mflow (M := M) s1
  have P2 : simP p (flowS (setA T 4 (rise (T.1 6) (T.1 4) (T.2 0)))) M (mflowS M (mRise M S)) := P1
  have L2 : eqR ((flowS (setA T 4 (rise (T.1 6) (T.1 4) (T.2 0)))).1 2) ((mflowS M (mRise M S)).1 1) 80 ∧ eqR ((flowS (setA T 4 (rise (T.1 6) (T.1 4) (T.2 0)))).1 3) ((mflowS M (mRise M S)).1 2) 80 ∧ eqR ((flowS (setA T 4 (rise (T.1 6) (T.1 4) (T.2 0)))).1 6) (M.1 1) 12 := ⟨hL.1, hL.2.1, hL.2.2.2⟩
  have G2 : simG (flowS (setA T 4 (rise (T.1 6) (T.1 4) (T.2 0)))) M (mflowS M (mRise M S)) := hG
  have hn := okM_i1 hM
  refine simW_M (M := M) rfl rfl ?_
  show simW p (workS (flowS (setA T 4 (rise (T.1 6) (T.1 4) (T.2 0))))) M (drI (mflowS M (mRise M S)) (M.2 1).toNat)
  clear L1 P1 hL hP hG hh t1 s1
  generalize flowS (setA T 4 (rise (T.1 6) (T.1 4) (T.2 0))) = U at W1 t2 P2 L2 G2
  generalize mflowS M (mRise M S) = V at W1 s2 P2 L2 G2
  have w := work_eq t2 s2 W1 P2 (M.2 1).toNat (by omega)
  have f := drI_f V (M.2 1).toNat
  have e : (U.2 1).toNat = (M.2 1).toNat := by rw [P2.1]
  unfold workS
  rw [e]
  generalize pumpI U (M.2 1).toNat = x at w
  generalize drI V (M.2 1).toNat = y at w f
  obtain ⟨w1, w2, w3, w4⟩ := w
  refine ⟨⟨?_, ?_, w1, L2.2.2⟩, ⟨P2.1, P2.2.1, fun k a b => ?_, w2⟩, ⟨G2.1, fun k a b => ?_⟩⟩
  · rw [f.1 1 (by decide) (by decide)]; exact L2.1
  · rw [f.1 2 (by decide) (by decide)]; exact L2.2.1
  · have g := P2.2.2.1 k a b
    rw [(w4 k).1, (w4 k).2.1, (w4 k).2.2]
    exact ⟨g.1, g.2.1, w3 k a b, g.2.2.2⟩
  · rw [f.1 5 (by decide) (by decide)]; exact G2.2 k a b
/-! a gauge rings -/
theorem ring_eq {T M S : gS} (hT : okT T) (hw : eqR (T.1 4) (S.1 3) 80) (h : simG T M S) : ringN (T.1 4) (T.1 14) (T.1 15) (T.2 2).toNat = mRing M S := by
  have key : ∀ n : Nat, (n : Int) ≤ M.2 2 → ringN (T.1 4) (T.1 14) (T.1 15) n = ringN (S.1 3) (fun k => S.1 5 (2 * k)) (fun k => S.1 5 (2 * k + 1)) n := by
    intro n
    induction n with
    | zero => intro _; rfl
    | succ n ih =>
      intro hn
      have g := h.2 n (by omega) (by omega)
      have b := okT_14 hT n
      show ringN (T.1 4) (T.1 14) (T.1 15) n + bI (T.1 15 n ≤ T.1 4 (T.1 14 n)) = ringN (S.1 3) (fun k => S.1 5 (2 * k)) (fun k => S.1 5 (2 * k + 1)) n + bI (S.1 5 (2 * (n : Int) + 1) ≤ S.1 3 (S.1 5 (2 * (n : Int))))
      rw [ih (by omega), hw _ (by omega) (by omega), g.2, g.1]
  unfold mRing
  rw [h.1]
  by_cases h9 : 0 ≤ M.2 2
  · exact key _ (by omega)
  · rw [show (M.2 2).toNat = 0 by omega]; rfl
