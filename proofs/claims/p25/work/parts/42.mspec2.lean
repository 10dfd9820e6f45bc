/-! what a reckoning gives doesn't hang on what lay there before -/
def rkR (x y : gWm) : Prop := x.2.2 = y.2.2 ∧ (∀ q : Int, 0 ≤ q → q < 80 → x.1 q = y.1 q) ∧ (∀ i : Int, 0 ≤ i → i < x.2.2 → x.2.1 i = y.2.1 i)
theorem rkB_r {w : Int → Int} {k : Int} {d : Nat} {x y : gWm} (h : rkR x y) (hb : bnd x.2.1 0 79) (h0 : 0 ≤ k) (hk : k < x.2.2) : rkR (rkB w k d x) (rkB w k d y) := by
  obtain ⟨h1, h2, h3⟩ := h
  have e1 := h3 k h0 hk
  have hq := hb k
  have q := nbr_b (k := x.2.1 k) (d := d) (by omega)
  unfold rkB
  rw [← e1, ← h1]
  by_cases hc : nbr (x.2.1 k) d = -1
  · rw [if_neg (by omega), if_neg (by omega)]
    exact ⟨h1, h2, h3⟩
  · rw [← h2 (nbr (x.2.1 k) d) (by omega) (by omega), ← h2 (x.2.1 k) (by omega) (by omega)]
    generalize nbr (x.2.1 k) d = z at hc q
    by_cases hd : (z ≠ -1 ∧ w z < 3) ∧ x.1 z = -1
    · rw [if_pos hd, if_pos hd]
      refine ⟨rfl, fun q a b => ?_, fun i a b => ?_⟩
      · show fset x.1 z _ q = fset y.1 z _ q
        unfold fset
        split
        · rfl
        · exact h2 q a b
      · show fset x.2.1 x.2.2 z i = fset y.2.1 x.2.2 z i
        have b : i < x.2.2 + 1 := b
        unfold fset
        split
        · rfl
        · exact h3 i a (by omega)
    · rw [if_neg hd, if_neg hd]
      exact ⟨h1, h2, h3⟩
theorem rkJ_r {w : Int → Int} {k : Int} {hi : Int} {x y : gWm} (h : rkR x y) (hx : okR hi x) (h0 : 0 ≤ k) (hk : k < x.2.2) : ∀ n : Nat, hi + n ≤ 1000 → rkR (rkJ w k x n) (rkJ w k y n)
  | 0, _ => h
  | n + 1, hn => by
    have h1 := rkJ_r (w := w) h hx h0 hk n (by omega)
    have h2 := rkJ_b (w := w) (k := k) hx n (by omega)
    exact rkB_r h1 h2.2.1 h0 (rkJ_k n hk)
theorem rkI_r {w : Int → Int} {x y : gWm} (h : rkR x y) (hx : okR 0 x) : ∀ n : Nat, n ≤ 80 → rkR (rkI w x n) (rkI w y n)
  | 0, _ => h
  | n + 1, hn => by
    have h1 := rkI_r (w := w) h hx n (by omega)
    have h2 := rkI_b (w := w) hx n (by omega)
    show rkR (rkO w n (rkI w x n)) (rkO w n (rkI w y n))
    generalize rkI w x n = u at h1 h2
    generalize rkI w y n = v at h1
    unfold rkO
    rw [← h1.1]
    split
    · exact rkJ_r h1 h2 (by omega) (by assumption) 4 (by omega)
    · exact h1
/-- the steps from each cell to one -/
def farD (w : Int → Int) (c : Int) : Int → Int := (rkM w (fun _ => -1) (fun _ => 0) c).1
theorem none_in {f : Int → Int} {q : Int} (h : 0 ≤ q) (h2 : q < 80) : itr noneB f 80 q = -1 := by
  have key : ∀ n : Nat, (q < n → itr noneB f n q = -1) := by
    intro n
    induction n with
    | zero => intro a; omega
    | succ n ih =>
      intro a
      show fset (itr noneB f n) n (-1) q = -1
      unfold fset
      split
      · rfl
      · exact ih (by omega)
  exact key 80 (by omega)
theorem farD_eq {w f r : Int → Int} {c q : Int} (hc : 0 ≤ c ∧ c < 80) (h1 : bnd f (-1) 1000) (h2 : bnd r 0 79) (hq : 0 ≤ q) (hq2 : q < 80) : (rkM w f r c).1 q = farD w c q := by
  unfold farD rkM
  split
  · have h3 : rkR (rk0 f r c) (rk0 (fun _ => -1) (fun _ => 0) c) := by
      refine ⟨rfl, fun q a b => ?_, fun i a b => ?_⟩
      · show fset (itr noneB f 80) c 0 q = fset (itr noneB (fun _ => -1) 80) c 0 q
        unfold fset
        split
        · rfl
        · rw [none_in a b, none_in a b]
      · have b : i < 1 := b
        have e : i = 0 := by omega
        subst e
        show fset r 0 c 0 = fset (fun _ => 0) 0 c 0
        rw [fset_same, fset_same]
    have h5 := rkI_r (w := w) h3 (rk0_b hc h1 h2) 80 (Nat.le_refl 80)
    generalize rkI w (rk0 f r c) 80 = u at h5 ⊢
    generalize rkI w (rk0 (fun _ => -1) (fun _ => 0) c) 80 = v at h5 ⊢
    exact h5.2.1 q hq hq2
  · show itr noneB f 80 q = itr noneB _ 80 q
    rw [none_in hq hq2, none_in hq hq2]
theorem fir_cong {f g : Int → Int} {c : Int} (hc : 0 ≤ c ∧ c < 80) (h : ∀ q : Int, 0 ≤ q → q < 80 → f q = g q) : ∀ n : Nat, itr (firB f c) (-1) n = itr (firB g c) (-1) n
  | 0 => rfl
  | n + 1 => by
    have ih := fir_cong hc h n
    have hb := fir_b (f := f) (c := c) n
    show firB f c n (itr (firB f c) (-1) n) = firB g c n (itr (firB g c) (-1) n)
    rw [← ih]
    generalize itr (firB f c) (-1) n = z at hb
    have q := nbr_b (k := c) (d := n) hc
    have q2 := nbr_b (k := c) (d := z) hc
    unfold firB
    by_cases h1 : nbr c n = -1
    · rw [if_neg (by omega), if_neg (by omega)]
    · rw [h (nbr c n) (by omega) (by omega)]
      by_cases h2 : z = -1
      · simp only [h2, true_or, and_true]
      · have := hb.2.2 h2
        rw [h (nbr c z) (by omega) (by omega)]
def dst (w : Int → Int) (a b : Int) : Int := if a = b then 0 else if firI (farD w b) a = -1 then -1 else farD w b (nbr a (firI (farD w b) a)) + 1
def dsC (w : Int → Int) (a b : Int) : Int := if a = b then a else nbr a (firI (farD w b) a)
theorem firI_M {M S : gS} {a b : Int} (h : okM M) (ha : 0 ≤ a ∧ a < 80) (hb : 0 ≤ b ∧ b < 80) : firI ((reckM M S b).1 2) a = firI (farD (S.1 3) b) a :=
  fir_cong ha (fun q x y => farD_eq hb (okM_2 h) (okM_3 h) x y) 4
theorem stpV_dst {M S : gS} {a b : Int} (h : okM M) (ha : 0 ≤ a ∧ a < 80) (hb : 0 ≤ b ∧ b < 80) : stpV M S a b = dst (S.1 3) a b := by
  unfold stpV dst
  rw [firI_M h ha hb]
  split
  · rfl
  · split
    · rfl
    · rename_i h2
      have h3 := firI_b (farD (S.1 3) b) a
      have q := nbr_b (k := a) (d := firI (farD (S.1 3) b) a) ha
      have e : (reckM M S b).1 2 (nbr a (firI (farD (S.1 3) b) a)) = farD (S.1 3) b (nbr a (firI (farD (S.1 3) b) a)) := farD_eq hb (okM_2 h) (okM_3 h) (by omega) (by omega)
      rw [e]
theorem dst_b {w : Int → Int} {a b : Int} (hb : 0 ≤ b ∧ b < 80) : -1 ≤ dst w a b ∧ dst w a b ≤ 1001 := by
  have h : bnd (farD w b) (-1) 1000 := by
    unfold farD rkM
    split
    · have := rkI_b (w := w) (rk0_b (f := fun _ => -1) (r := fun _ => 0) (c := b) hb (fun _ => (by decide : (-1 : Int) ≤ -1 ∧ (-1 : Int) ≤ 1000)) (fun _ => (by decide : (0 : Int) ≤ 0 ∧ (0 : Int) ≤ 79))) 80 (Nat.le_refl 80)
      generalize rkI w (rk0 (fun _ => -1) (fun _ => 0) b) 80 = y at this ⊢
      exact fun j => ⟨(this.1 j).1, (this.1 j).2.1⟩
    · intro j
      have := none_b (s := fun _ => -1) (fun _ => (by decide : (-1 : Int) ≤ -1 ∧ (-1 : Int) ≤ 1000)) 80 j
      exact ⟨this.1, this.2.1⟩
  have := h (nbr a (firI (farD w b) a))
  unfold dst
  split
  · omega
  · split <;> omega
theorem dsC_b {w : Int → Int} {a b : Int} (ha : 0 ≤ a ∧ a < 80) (h : a = b ∨ dst w a b ≠ -1) : 0 ≤ dsC w a b ∧ dsC w a b < 80 := by
  unfold dsC
  split
  · exact ha
  · have h3 := firI_b (farD w b) a
    have q := nbr_b (k := a) (d := firI (farD w b) a) ha
    rcases h with h | h
    · omega
    · unfold dst at h
      rw [if_neg (by assumption)] at h
      split at h <;> omega
/-! the flow, another way -/
def mgv (lv w : Int → Int) (lo p : Int) : Int := if 2 ≤ lv p - lv lo then min (w p) ((lv p - lv lo) / 2) else 0
def mflB (lv w : Int → Int) : Nat → (Int → Int) → (Int → Int) := fun k m => fset (fset m k (m k - mgv lv w (lowest lv k) k)) (lowest lv k) (fset m k (m k - mgv lv w (lowest lv k) k) (lowest lv k) + mgv lv w (lowest lv k) k)
def mwB (m : Int → Int) : Nat → (Int → Int) → (Int → Int) := fun k w => fset w k (min 40 (w k + m k))
def levS (S : gS) : Int → Int := lev (S.1 1) (S.1 2) (S.1 3)
def mlv (M S : gS) : Int → Int := cpI (M.1 4) (levS S) 80
def mmo (M S : gS) : Int → Int := itr (mflB (mlv M S) (S.1 3)) (cpI (M.1 5) (fun _ => 0) 80) 80
def flowM (M S : gS) : gS := setA (setA M 4 (mlv M S)) 5 (mmo M S)
def mflowS (M S : gS) : gS := setA S 3 (itr (mwB (mmo M S)) (S.1 3) 80)
theorem lowest_ne {lv : Int → Int} {p : Int} (h : 0 ≤ p ∧ p < 80) : lowest lv p ≠ -1 := by
  have hB : ∀ (d : Nat) (x : Int), x ≠ -1 → lowB lv p d x ≠ -1 := by
    intro d x hx
    unfold lowB
    split
    · rename_i hc; exact hc.1
    · exact hx
  have h0 : ∀ (d : Nat) (x : Int), nbr p d ≠ -1 → lowB lv p d x ≠ -1 := by
    intro d x hd
    unfold lowB
    split
    · exact hd
    · rename_i hc
      intro e
      exact hc ⟨hd, Or.inl e⟩
  show lowB lv p 3 (lowB lv p 2 (lowB lv p 1 (lowB lv p 0 (-1)))) ≠ -1
  by_cases h1 : 10 ≤ p
  · refine hB _ _ (hB _ _ (hB _ _ (h0 0 _ ?_)))
    unfold nbr
    rw [if_pos (by decide), if_pos h1]
    omega
  · refine hB _ _ (h0 2 _ ?_)
    unfold nbr
    rw [if_neg (by decide), if_neg (by decide), if_pos (by decide), if_pos (by omega)]
    omega
theorem mgv_b {lv w : Int → Int} {lo p : Int} (h : bnd w 0 40) : 0 ≤ mgv lv w lo p ∧ mgv lv w lo p ≤ w p := by
  have := h p
  unfold mgv
  split <;> omega
theorem mfl_b0 {lv w m0 : Int → Int} (h : bnd w 0 40) : ∀ n : Nat, n ≤ 80 → ∀ j : Int, (0 ≤ j ∧ j < 80 → -40 * (n : Int) ≤ itr (mflB lv w) (cpI m0 (fun _ => 0) 80) n j ∧ itr (mflB lv w) (cpI m0 (fun _ => 0) 80) n j ≤ 40 * (n : Int)) ∧ (¬ (0 ≤ j ∧ j < 80) → itr (mflB lv w) (cpI m0 (fun _ => 0) 80) n j = m0 j)
  | 0, _, j => by
    show (_ → _ ≤ cpI m0 (fun _ => 0) 80 j ∧ cpI m0 (fun _ => 0) 80 j ≤ _) ∧ (_ → cpI m0 (fun _ => 0) 80 j = _)
    rw [cpI_v]
    by_cases hj : 0 ≤ j ∧ j < 80
    · rw [if_pos (by omega)]
      exact ⟨fun _ => ⟨by omega, by omega⟩, fun z => absurd hj z⟩
    · rw [if_neg (by omega)]
      exact ⟨fun z => absurd z hj, fun _ => rfl⟩
  | n + 1, hn, j => by
    have h1 := mfl_b0 (lv := lv) (m0 := m0) h n (by omega)
    show (_ → _ ≤ mflB lv w n (itr (mflB lv w) (cpI m0 (fun _ => 0) 80) n) j ∧ mflB lv w n (itr (mflB lv w) (cpI m0 (fun _ => 0) 80) n) j ≤ _) ∧ (_ → mflB lv w n (itr (mflB lv w) (cpI m0 (fun _ => 0) 80) n) j = _)
    generalize itr (mflB lv w) (cpI m0 (fun _ => 0) 80) n = f at h1 ⊢
    have hg := mgv_b (lv := lv) (lo := lowest lv n) (p := n) h
    have hw := h n
    have hl := lowest_b (lv := lv) (p := n) (by omega)
    have hc := lowest_ne (lv := lv) (p := n) (by omega)
    have q1 := h1 j; have q2 := h1 n; have q3 := h1 (lowest lv n)
    have q4 := (q2.1 (by omega))
    have q5 := (q3.1 (by omega))
    unfold mflB
    generalize mgv lv w (lowest lv n) n = g at hg ⊢
    generalize lowest lv n = m at hl hc q3 q5 ⊢
    unfold fset
    by_cases e1 : j = m <;> by_cases e2 : j = n <;> by_cases e3 : m = n <;> simp only [e1, e2, e3, if_true, if_false, ite_true, ite_false] <;> (try subst e1) <;> (try rw [if_neg (by omega)]) <;> omega
theorem mfl_b {lv w m0 : Int → Int} (h : bnd w 0 40) (h2 : bnd m0 (-100000) 100000) {n : Nat} (hn : n ≤ 80) : bnd (itr (mflB lv w) (cpI m0 (fun _ => 0) 80) n) (-100000) 100000 := by
  intro j
  have h1 := mfl_b0 (lv := lv) (m0 := m0) h n hn j
  have h3 := h2 j
  by_cases hj : 0 ≤ j ∧ j < 80
  · have := h1.1 hj; omega
  · have := h1.2 hj; omega
