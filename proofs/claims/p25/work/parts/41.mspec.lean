/-! what the model's methods reckon -/
/-- reckoning from where a way leads to: far, row, many -/
abbrev gWm : Type := (Int → Int) × (Int → Int) × Int
def rkB (w : Int → Int) (k : Int) : Nat → gWm → gWm := fun d x =>
  if (nbr (x.2.1 k) d ≠ -1 ∧ w (nbr (x.2.1 k) d) < 3) ∧ x.1 (nbr (x.2.1 k) d) = -1 then
    (fset x.1 (nbr (x.2.1 k) d) (x.1 (x.2.1 k) + 1), fset x.2.1 x.2.2 (nbr (x.2.1 k) d), x.2.2 + 1) else x
def rkJ (w : Int → Int) (k : Int) (x : gWm) (n : Nat) : gWm := itr (rkB w k) x n
def rkO (w : Int → Int) : Nat → gWm → gWm := fun k x => if (k : Int) < x.2.2 then rkJ w k x 4 else x
def rkI (w : Int → Int) (x : gWm) (n : Nat) : gWm := itr (rkO w) x n
/-- what is kept while it reckons: the row's cells are apart, and each of them has its steps -/
def okR (hi : Int) (x : gWm) : Prop :=
  (∀ j : Int, -1 ≤ x.1 j ∧ x.1 j ≤ 1000 ∧ (0 ≤ j ∧ j < 80 → x.1 j ≤ hi)) ∧ bnd x.2.1 0 79 ∧ 0 ≤ x.2.2 ∧ x.2.2 ≤ 80 ∧
  (∀ i j : Int, 0 ≤ i → i < j → j < x.2.2 → x.2.1 i ≠ x.2.1 j) ∧ (∀ i : Int, 0 ≤ i → i < x.2.2 → 0 ≤ x.1 (x.2.1 i))
theorem holes : ∀ (m n : Nat) (f : Nat → Nat), (∀ i, i < n → f i < m) → (∀ i j, i < j → j < n → f i ≠ f j) → n ≤ m
  | m, 0, _, _, _ => Nat.zero_le m
  | 0, n + 1, f, h, _ => absurd (h 0 (Nat.succ_pos n)) (Nat.not_lt_zero _)
  | m + 1, n + 1, f, h, h2 => by
    have h3 : n ≤ m := holes m n (fun i => if f i < f n then f i else f i - 1) (fun i hi => by
      have a1 := h i (by omega); have a2 := h n (by omega); have a3 := h2 i n hi (by omega)
      split <;> omega) (fun i j hij hj => by
      have a1 := h2 i j hij (by omega); have a2 := h2 i n (by omega) (by omega); have a3 := h2 j n hj (by omega)
      split <;> split <;> omega)
    omega
theorem okR_room {hi : Int} {x : gWm} {q : Int} (h : okR hi x) (hq : 0 ≤ q ∧ q < 80) (h2 : x.1 q = -1) : x.2.2 < 80 := by
  obtain ⟨h1, hb, h3, h4, h5, h6⟩ := h
  by_cases c : x.2.2 < 80
  · exact c
  · have e : x.2.2 = 80 := by omega
    have := holes 80 81 (fun i => if i = 80 then q.toNat else (x.2.1 i).toNat) (fun i hi => by
      have := hb i
      split <;> omega) (fun i j hij hj => by
      have b1 := hb i; have b2 := hb j
      have q1 := h6 i (by omega) (by omega)
      rw [if_neg (by omega)]
      split
      · intro c2
        have : x.2.1 i = q := by omega
        rw [this] at q1
        omega
      · have := h5 i j (by omega) (by omega) (by omega)
        omega)
    omega
theorem rkB_b {w : Int → Int} {k : Int} {d : Nat} {hi : Int} {x : gWm} (h : okR hi x) (hh : hi < 1000) : okR (hi + 1) (rkB w k d x) := by
  have h' := h
  obtain ⟨h1, h2, h3, h4, h5, h6⟩ := h
  have hp := h2 k
  have q := nbr_b (k := x.2.1 k) (d := d) (by omega)
  unfold rkB
  by_cases hc : (nbr (x.2.1 k) d ≠ -1 ∧ w (nbr (x.2.1 k) d) < 3) ∧ x.1 (nbr (x.2.1 k) d) = -1
  · rw [if_pos hc]
    have hr := okR_room h' (q := nbr (x.2.1 k) d) (by omega) hc.2
    have q1 := h1 (x.2.1 k)
    generalize nbr (x.2.1 k) d = z at q hc hr ⊢
    refine ⟨fun j => ?_, bnd_fset h2 (by omega), by simp only []; omega, by simp only []; omega, fun i j hi hij hj => ?_, fun i hi hj => ?_⟩
    · have q3 := h1 j
      show -1 ≤ fset x.1 z (x.1 (x.2.1 k) + 1) j ∧ fset x.1 z (x.1 (x.2.1 k) + 1) j ≤ 1000 ∧ (_ → fset x.1 z (x.1 (x.2.1 k) + 1) j ≤ _)
      unfold fset
      split <;> omega
    · show fset x.2.1 x.2.2 z i ≠ fset x.2.1 x.2.2 z j
      have hj : j < x.2.2 + 1 := hj
      rw [fset_ne (show i ≠ x.2.2 by omega)]
      by_cases e : j = x.2.2
      · rw [e, fset_same]
        intro c
        have := h6 i hi (by omega)
        rw [c] at this
        omega
      · rw [fset_ne e]
        exact h5 i j hi hij (by omega)
    · show 0 ≤ fset x.1 z (x.1 (x.2.1 k) + 1) (fset x.2.1 x.2.2 z i)
      have hj : i < x.2.2 + 1 := hj
      by_cases e : i = x.2.2
      · rw [e, fset_same, fset_same]
        omega
      · rw [fset_ne e]
        have := h6 i hi (by omega)
        unfold fset
        split <;> omega
  · rw [if_neg hc]
    refine ⟨fun j => ?_, h2, h3, h4, h5, h6⟩
    have q3 := h1 j
    omega
theorem rkJ_b {w : Int → Int} {k : Int} {hi : Int} {x : gWm} (h : okR hi x) : ∀ n : Nat, hi + n ≤ 1000 → okR (hi + n) (rkJ w k x n)
  | 0, _ => by simpa [rkJ, itr] using h
  | n + 1, hn => by
    have h1 := rkJ_b (w := w) (k := k) h n (by omega)
    rw [show hi + ((n + 1 : Nat) : Int) = hi + n + 1 by omega]
    exact rkB_b (d := n) h1 (by omega)
theorem rkI_b {w : Int → Int} {x : gWm} (h : okR 0 x) : ∀ n : Nat, n ≤ 80 → okR (4 * n) (rkI w x n)
  | 0, _ => by simpa [rkI, itr] using h
  | n + 1, hn => by
    have h1 := rkI_b (w := w) h n (by omega)
    show okR _ (rkO w n (rkI w x n))
    generalize rkI w x n = y at h1
    unfold rkO
    split
    · have h2 := rkJ_b (w := w) (k := n) h1 4 (by omega)
      rw [show 4 * ((n + 1 : Nat) : Int) = 4 * (n : Int) + (4 : Nat) by omega]
      exact h2
    · obtain ⟨q1, q2⟩ := h1
      refine ⟨fun j => ?_, q2⟩
      have := q1 j
      omega
theorem rk_stop {w : Int → Int} {x : gWm} {k : Nat} (h : (rkI w x k).2.2 ≤ k) (hk : k ≤ 80) : rkI w x 80 = rkI w x k := by
  refine itr_stop (f := rkO w) (fun j hj => ?_) 80 hk
  show rkO w j (rkI w x k) = rkI w x k
  unfold rkO
  rw [if_neg (by omega)]
def rk0 (f r : Int → Int) (c : Int) : gWm := (fset (itr noneB f 80) c 0, fset r 0 c, 1)
theorem rk0_b {f r : Int → Int} {c : Int} (hc : 0 ≤ c ∧ c < 80) (h1 : bnd f (-1) 1000) (h2 : bnd r 0 79) : okR 0 (rk0 f r c) := by
  refine ⟨fun j => ?_, bnd_fset h2 (by omega), by simp [rk0], by simp [rk0], fun i j a b c9 => ?_, fun i a b => ?_⟩
  · have := none_b h1 80 j
    show -1 ≤ fset (itr noneB f 80) c 0 j ∧ fset (itr noneB f 80) c 0 j ≤ 1000 ∧ (_ → fset (itr noneB f 80) c 0 j ≤ 0)
    unfold fset
    split <;> omega
  · have c9 : j < 1 := c9
    omega
  · have b : i < 1 := b
    have e : i = 0 := by omega
    subst e
    show 0 ≤ fset (itr noneB f 80) c 0 (fset r 0 c 0)
    rw [fset_same, fset_same]
    exact Int.le_refl 0
/-- far and row behind a reckoning -/
def rkM (w f r : Int → Int) (c : Int) : (Int → Int) × (Int → Int) := if c ≠ -1 ∧ w c < 3 then ((rkI w (rk0 f r c) 80).1, (rkI w (rk0 f r c) 80).2.1) else (itr noneB f 80, r)
def reckM (M S : gS) (c : Int) : gS := setA (setA M 2 (rkM (S.1 3) (M.1 2) (M.1 3) c).1) 3 (rkM (S.1 3) (M.1 2) (M.1 3) c).2
theorem okM_reck {M S : gS} {c : Int} (h : okM M) (hc : 0 ≤ c ∧ c < 80) : okM (reckM M S c) := by
  have h1 : bnd (rkM (S.1 3) (M.1 2) (M.1 3) c).1 (-1) 1000 ∧ bnd (rkM (S.1 3) (M.1 2) (M.1 3) c).2 0 79 := by
    unfold rkM
    split
    · have := rkI_b (w := S.1 3) (rk0_b (c := c) hc (okM_2 h) (okM_3 h)) 80 (Nat.le_refl 80)
      generalize rkI (S.1 3) (rk0 (M.1 2) (M.1 3) c) 80 = y at this ⊢
      exact ⟨fun j => ⟨(this.1 j).1, (this.1 j).2.1⟩, this.2.1⟩
    · exact ⟨fun j => ⟨(none_b (okM_2 h) 80 j).1, (none_b (okM_2 h) 80 j).2.1⟩, okM_3 h⟩
  unfold reckM
  generalize rkM (S.1 3) (M.1 2) (M.1 3) c = y at h1 ⊢
  exact okM_s3 (okM_s2 h h1.1) h1.2
def firB (f : Int → Int) (c : Int) : Nat → Int → Int := fun d b => if (nbr c d ≠ -1 ∧ f (nbr c d) ≠ -1) ∧ (b = -1 ∨ f (nbr c d) < f (nbr c b)) then (d : Int) else b
def firI (f : Int → Int) (c : Int) : Int := itr (firB f c) (-1) 4
theorem fir_b {f : Int → Int} {c : Int} : ∀ n : Nat, -1 ≤ itr (firB f c) (-1) n ∧ itr (firB f c) (-1) n < n ∧ (itr (firB f c) (-1) n ≠ -1 → nbr c (itr (firB f c) (-1) n) ≠ -1 ∧ f (nbr c (itr (firB f c) (-1) n)) ≠ -1)
  | 0 => by simp [itr]
  | n + 1 => by
    have h := fir_b (f := f) (c := c) n
    show -1 ≤ firB f c n (itr (firB f c) (-1) n) ∧ firB f c n (itr (firB f c) (-1) n) < _ ∧ (firB f c n (itr (firB f c) (-1) n) ≠ -1 → nbr c (firB f c n (itr (firB f c) (-1) n)) ≠ -1 ∧ f (nbr c (firB f c n (itr (firB f c) (-1) n))) ≠ -1)
    generalize itr (firB f c) (-1) n = z at h ⊢
    unfold firB
    split
    · rename_i hc
      exact ⟨by omega, by omega, fun _ => hc.1⟩
    · exact ⟨h.1, by omega, h.2.2⟩
theorem firI_b (f : Int → Int) (c : Int) : -1 ≤ firI f c ∧ firI f c < 4 ∧ (firI f c ≠ -1 → nbr c (firI f c) ≠ -1 ∧ f (nbr c (firI f c)) ≠ -1) := fir_b 4
def stpM (M S : gS) (a b : Int) : gS := if a = b then M else reckM M S b
def stpV (M S : gS) (a b : Int) : Int := if a = b then 0 else if firI ((reckM M S b).1 2) a = -1 then -1 else (reckM M S b).1 2 (nbr a (firI ((reckM M S b).1 2) a)) + 1
def stpC (M S : gS) (a b : Int) : Int := if a = b then a else nbr a (firI ((reckM M S b).1 2) a)
theorem okM_stp {M S : gS} {a b : Int} (h : okM M) (hb : 0 ≤ b ∧ b < 80) : okM (stpM M S a b) := by
  unfold stpM
  split
  · exact h
  · exact okM_reck h hb
theorem stpV_b {M S : gS} {a b : Int} (h : okM M) (hb : 0 ≤ b ∧ b < 80) : -1 ≤ stpV M S a b ∧ stpV M S a b ≤ 1001 := by
  have h1 := okM_2 (okM_reck (S := S) h hb) (nbr a (firI ((reckM M S b).1 2) a))
  unfold stpV
  split
  · omega
  · split <;> omega
theorem rkB_k {w : Int → Int} {k : Int} {d : Nat} {x : gWm} (h : k < x.2.2) : k < (rkB w k d x).2.2 := by
  unfold rkB
  split
  · show k < x.2.2 + 1
    omega
  · exact h
theorem rkJ_k {w : Int → Int} {k : Int} {x : gWm} : ∀ n : Nat, k < x.2.2 → k < (rkJ w k x n).2.2
  | 0, h => h
  | n + 1, h => rkB_k (rkJ_k n h)
theorem rkO_le {w : Int → Int} {k : Nat} {x : gWm} (h : (k : Int) < x.2.2) : ((k + 1 : Nat) : Int) ≤ (rkO w k x).2.2 := by
  unfold rkO
  rw [if_pos h]
  have := rkJ_k (w := w) (k := k) (x := x) 4 h
  omega
theorem reckM_y {M S : gS} {c : Int} (h : c ≠ -1 ∧ S.1 3 c < 3) : reckM M S c = setA (setA M 2 (rkI (S.1 3) (rk0 (M.1 2) (M.1 3) c) 80).1) 3 (rkI (S.1 3) (rk0 (M.1 2) (M.1 3) c) 80).2.1 := by
  unfold reckM rkM
  rw [if_pos h]
theorem reckM_n {M S : gS} {c : Int} (h : ¬ (c ≠ -1 ∧ S.1 3 c < 3)) : reckM M S c = setA (setA M 2 (itr noneB (M.1 2) 80)) 3 (M.1 3) := by
  unfold reckM rkM
  rw [if_neg h]
