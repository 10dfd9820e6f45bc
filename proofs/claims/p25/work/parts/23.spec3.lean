theorem setA_c {S : gS} {a b : Nat} {f g : Int → Int} (h : b < a) : setA (setA S a f) b g = setA (setA S b g) a f := by
  refine Prod.ext ?_ rfl
  funext j
  show (if j = b then g else if j = a then f else S.1 j) = (if j = a then f else if j = b then g else S.1 j)
  by_cases h1 : j = b
  · rw [if_pos h1, if_neg (by omega), if_pos h1]
  · rw [if_neg h1, if_neg h1]
theorem rise_b {tb w : Int → Int} {h : Int} (h1 : bnd tb 0 12) (h2 : bnd w 0 40) : bnd (rise tb w h) 0 40 := by
  have := h1 (h % 12)
  exact bnd_itr h2 (fun k g hg => bnd_fset hg (by omega)) 10
theorem flow2_b {wt w : Int → Int} (h : bnd w 0 40) (h2 : ∀ j : Int, 0 ≤ j → j < 80 → 0 ≤ wt j) : ∀ n : Nat, n ≤ 80 → bnd (itr (cutB wt) w n) 0 40
  | 0, _ => h
  | n + 1, hn => by
    have h1 := flow2_b h h2 n (by omega)
    have := h2 n (by omega) (by omega)
    exact bnd_fset h1 (by omega)
/-- nobody gives more than it has -/
theorem flow_nn {lv w wt : Int → Int} (h : bnd w 0 40) : ∀ n : Nat, n ≤ 80 → ∀ j : Int, 0 ≤ j → j < 80 → (if j < n then 0 else w j) ≤ itr (flowB lv w) (fcpy w wt 80) n j
  | 0, _, j, h1, h2 => by
    show _ ≤ fcpy w wt 80 j
    unfold fcpy
    rw [if_neg (by omega), if_pos ⟨h1, h2⟩]
    exact Int.le_refl _
  | n + 1, hn, j, h1, h2 => by
    have q := flow_nn (lv := lv) (wt := wt) h n (by omega)
    show _ ≤ flowB lv w n (itr (flowB lv w) (fcpy w wt 80) n) j
    generalize itr (flowB lv w) (fcpy w wt 80) n = f at q ⊢
    have hg := givn_b (lv := lv) (lo := lowest lv n) (p := n) h
    have q1 := q j h1 h2
    have q2 := q n (by omega) (by omega)
    have q3 := h j
    rw [if_neg (by omega)] at q2
    unfold flowB
    by_cases hc : lowest lv n ≠ -1
    · rw [if_pos hc]
      have hl := lowest_b (lv := lv) (p := n) (by omega)
      have q4 := q (lowest lv n) (by omega) hl.2
      generalize givn lv w (lowest lv n) n = g at hg ⊢
      generalize lowest lv n = m at hc hl q4 ⊢
      have q5 := h m
      unfold fset
      by_cases e1 : j = m
      · subst e1
        rw [if_pos rfl]
        by_cases e2 : j = n
        · rw [if_pos e2, e2, if_pos (by omega)]
          omega
        · rw [if_neg e2]
          split at q1 <;> split <;> omega
      · rw [if_neg e1]
        by_cases e2 : j = n
        · rw [if_pos e2, if_pos (by omega)]
          omega
        · rw [if_neg e2]
          split at q1 <;> split <;> omega
    · rw [if_neg hc]
      split at q1 <;> split <;> omega
theorem okT_flow {S : gS} (h : okT S) : okT (flowS S) := by
  have h1 : bnd (flow1 (lev (S.1 2) (S.1 3) (S.1 4)) (S.1 4) (S.1 5)) (-100000) 100000 := flow_b (okT_4 h) (okT_5 h) (Nat.le_refl 80)
  have h2 : ∀ j : Int, 0 ≤ j → j < 80 → 0 ≤ flow1 (lev (S.1 2) (S.1 3) (S.1 4)) (S.1 4) (S.1 5) j := fun j a b => by
    have := flow_nn (lv := lev (S.1 2) (S.1 3) (S.1 4)) (wt := S.1 5) (okT_4 h) 80 (Nat.le_refl 80) j a b
    rw [if_pos (by omega)] at this
    exact this
  unfold flowS
  generalize flow1 (lev (S.1 2) (S.1 3) (S.1 4)) (S.1 4) (S.1 5) = f at h1 h2 ⊢
  exact okT_s4 (okT_s5 h h1) (flow2_b (okT_4 h) h2 80 (Nat.le_refl 80))
theorem okT_work {S : gS} (h : okT S) : okT (workS S) := by
  have h1 := pumpI_b h (S.2 1).toNat
  unfold workS
  generalize pumpI S (S.2 1).toNat = x at h1 ⊢
  exact okT_s10 (okT_s12 (okT_s4 h h1.1)) h1.2
def setUpS (S : gS) (q pw fu : Int) : gS := setI (setA (setA (setA (setA S 8 (fset (S.1 8) (S.2 1) q)) 9 (fset (S.1 9) (S.2 1) pw)) 10 (fset (S.1 10) (S.2 1) fu)) 11 (fset (S.1 11) (S.2 1) 1)) 1 (S.2 1 + 1)
def hangS (S : gS) (q mk : Int) : gS := setI (setA (setA S 14 (fset (S.1 14) (S.2 2) q)) 15 (fset (S.1 15) (S.2 2) mk)) 2 (S.2 2 + 1)
def openS (S : gS) (q rm : Int) : gS := setI (setA (setA S 17 (fset (S.1 17) (S.2 3) q)) 18 (fset (S.1 18) (S.2 3) rm)) 3 (S.2 3 + 1)
def inS (S : gS) (q pp : Int) : gS := setI (setA (setA (setA S 22 (fset (S.1 22) (S.2 4) q)) 23 (fset (S.1 23) (S.2 4) pp)) 24 (fset (S.1 24) (S.2 4) 0)) 4 (S.2 4 + 1)
def postS (S : gS) (q : Int) : gS := setI (setA S 26 (fset (S.1 26) (S.2 6) q)) 6 (S.2 6 + 1)
def pTell (S : gS) (k w : Int) : Int := if w = 0 then S.1 8 k % 10 else if w = 1 then S.1 8 k / 10 else if w = 2 then S.1 9 k else if w = 3 then S.1 10 k else if w = 4 then bI (S.1 11 k ≠ 0) else S.1 12 k
def gTell (S : gS) (k w : Int) : Int := if w = 0 then S.1 14 k % 10 else if w = 1 then S.1 14 k / 10 else if w = 2 then S.1 15 k else if w = 3 then S.1 4 (S.1 14 k) else bI (S.1 15 k ≤ S.1 4 (S.1 14 k))
def rTell (S : gS) (k w : Int) : Int := if w = 0 then S.1 17 k % 10 else if w = 1 then S.1 17 k / 10 else if w = 2 then S.1 18 k else if w = 3 then S.1 19 k else S.1 20 k
def cTell (S : gS) (k w : Int) : Int := if w = 0 then S.1 26 k % 10 else if w = 1 then S.1 26 k / 10 else S.1 27 k
theorem ring_b (w gc mk : Int → Int) : ∀ n : Nat, 0 ≤ ringN w gc mk n ∧ ringN w gc mk n ≤ n
  | 0 => by simp [ringN, itr]
  | n + 1 => by
    have h1 := ring_b w gc mk n
    show 0 ≤ ringB w gc mk n (ringN w gc mk n) ∧ ringB w gc mk n (ringN w gc mk n) ≤ _
    generalize ringN w gc mk n = z at h1 ⊢
    have := bI_01 (mk n ≤ w (gc n))
    unfold ringB
    omega
theorem roomS_b {S : gS} {m : Int} (h : okT S) : -1 ≤ roomS S m ∧ roomS S m < S.2 3 ∧ S.2 3 ≤ 4 := by
  have h1 := roomI_b (rm := S.1 18) (pp := S.1 19) (stp := S.1 29) (m := m) (okT_17 h) (S.2 3).toNat
  have h2 := okT_i3 h
  unfold roomS
  omega
theorem homeS_b {S : gS} (h : okT S) : -1 ≤ homeS S ∧ homeS S < S.2 4 ∧ S.2 4 ≤ 10 := by
  have h1 := homeI_b (hs := S.1 24) (stp := S.1 29) (okT_22 h) (S.2 4).toNat
  have h2 := okT_i4 h
  unfold homeS
  omega
